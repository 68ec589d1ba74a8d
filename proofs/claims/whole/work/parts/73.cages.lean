/-! the class: generations -/
def bef (lc : Int32 → Int32) (dr : Int32 → Nat) (x : Int32) (p q : Nat) (g : (Nat → Nat) × (Nat → Nat) × MM) : GS :=
  if q = 0 then (x, g.1, fun i => if i = p then (if 9 < g.2.1 p + 3 then 9 else g.2.1 p + 3) else g.2.1 i, g.2.2)
  else if q = 1 then (x, g.1, g.2.1, match g.2.2 p with
    | none => g.2.2
    | some r => unb g.2.2 p r)
  else if q = 2 then (lc x, fun i => if i = p then dr (lc x) % 10 else g.1 i, fun i => if i = p then 0 else g.2.1 i, g.2.2)
  else (x, g)
theorem hap_bef {lc : Int32 → Int32} {dr : Int32 → Nat} {n : Nat} {g : GS} : hap lc dr n g = bef lc dr (lc (lc g.1)) (dr (lc g.1) % n) (dr (lc (lc g.1)) % 4) g.2 := rfl
theorem drw_u (x : Int32) : (x.toUInt32 >>> ((nI 16).toUInt32 &&& Int32.toUInt32 31)).toInt32 &&& nI 32767 = nI (drw x) := by
  rw [pk_and _ 15 (by decide), pk_ushr x (nI 16) 16 (by decide)]
  congr 1
  unfold drw
  have h1 := pk_shr x (nI 16 &&& 31) 16 (by decide)
  rw [Int.shiftRight_eq_div_pow] at h1
  have h2 : (x >>> (nI 16 &&& 31)).toInt = (x >>> (nI 16 &&& 31)).toBitVec.toInt := rfl
  have h3 : x.toInt = x.toBitVec.toInt := rfl
  rw [h2, h3, BitVec.toInt_eq_toNat_cond, BitVec.toInt_eq_toNat_cond] at h1
  have h4 := (x >>> (nI 16 &&& 31)).toBitVec.isLt
  have h5 := x.toBitVec.isLt
  generalize (x >>> (nI 16 &&& 31)).toBitVec.toNat = y at *
  generalize x.toBitVec.toNat = u at *
  split at h1 <;> split at h1 <;> omega
section C
variable {I : mj_I} {L : mj_L} {P : mj_P} {Q : mj_Q} {d n r t a b : Nat} {A : AS} {w : WT} {c h : Nat → Nat} {m : MM} {al : Nat → Nat → Int32}
theorem c_2 {lc : Int32 → Int32} {dr : Int32 → Nat} (hlc : ∀ x, x * nI 1103515245 + nI 12345 = lc x) (hdr : ∀ x : Int32, (x.toUInt32 >>> ((nI 16).toUInt32 &&& Int32.toUInt32 31)).toInt32 &&& nI 32767 = nI (dr x)) (hd : ∀ x, dr x < 32768) {x : Int32} (hx : I 67 4 = x) (hn : 0 < n) (hn2 : n ≤ 10) (k : Q (.inl (some (.int (nI (dr (lc x) % n))))) (107, mj_upI I 67 4 (lc x), L, P)) : mj_ev (d + 1) 2 [.ref 67, .int (nI n)] (107, I, L, P) Q := by
  refine ⟨rfl, ?_⟩
  have h1 := hd (lc x)
  have j4 : mj_upI I 67 4 (lc x) 67 4 = lc x := upI_s
  show mj_run (mj_ev d) k2 Q (k2 0) [some (.ref 67), some (.int (nI n))] [] (107, I, L, P) 0 0
  refine q_5 rfl ?_
  refine q_5 rfl ?_
  first | refine q_31E rfl (by decide) hx ?_ | refine q_31E rfl (by decide) j4 ?_ | refine q_31 rfl (by decide) ?_
  refine q_0 ?_
  refine q_11 rfl ?_
  refine q_0 ?_
  refine q_11 rfl ?_
  rw [hlc]
  refine q_34 rfl (by decide) ?_
  refine q_3 rfl ?_
  refine q_gtI0 (fun _ => ?_) (fun z => absurd (nI_lt (a := 0) hn (by omega)) z)
  refine q_5 rfl ?_
  first | refine q_31E rfl (by decide) hx ?_ | refine q_31E rfl (by decide) j4 ?_ | refine q_31 rfl (by decide) ?_
  refine q_0 ?_
  refine q_11 rfl ?_
  refine q_0 ?_
  refine q_11 rfl ?_
  rw [hdr]
  refine q_3 rfl ?_
  first | refine q_remN (by omega) (by omega) (by omega) ?_ | refine q_rem (by assumption) ?_
  refine q_26 ?_
  exact k
theorem c_3 {lc : Int32 → Int32} {dr : Int32 → Nat} (hlc : ∀ x, x * nI 1103515245 + nI 12345 = lc x) (hdr : ∀ x : Int32, (x.toUInt32 >>> ((nI 16).toUInt32 &&& Int32.toUInt32 31)).toInt32 &&& nI 32767 = nI (dr x)) (hd : ∀ x, dr x < 32768) {x : Int32} {p q : Nat} (hP : PS t P) (hx : I 67 4 = x) (hR : CW n 69 70 71 c h m I) (hp : p < n) (hq : q < 4) (k : ∀ I', Eqf (frm [69, 70, 71] [(67, 4)]) I I' → I' 67 4 = (bef lc dr x p q (c, h, m)).1 → CW n 69 70 71 (bef lc dr x p q (c, h, m)).2.1 (bef lc dr x p q (c, h, m)).2.2.1 (bef lc dr x p q (c, h, m)).2.2.2 I' → Q (.inl none) (107, I', L, P)) : mj_ev (d + 2) 3 [.ref 67, .int (nI p), .int (nI q)] (107, I, L, P) Q := by
  refine ⟨rfl, ?_⟩
  have hn10 := hR.n10
  have r1 := hR.hol hp
  have z1 := hR.h10 hp
  have r3 := hR.mat hp
  show mj_run (mj_ev (d + 1)) k3 Q (k3 0) [some (.ref 67), some (.int (nI p)), some (.int (nI q)), none] [] (107, I, L, P) 0 0
  obtain rfl | rfl | rfl | rfl : q = 0 ∨ q = 1 ∨ q = 2 ∨ q = 3 := by omega
  · have e9 : (if h p + 3 < 9 then h p + 3 else 9) = (if 9 < h p + 3 then 9 else h p + 3) := by split <;> split <;> omega
    refine q_5 rfl ?_
    refine q_33 rfl (by decide) (hP _ _ _ rfl) ?_
    refine q_33 rfl (by decide) (hP _ _ _ rfl) ?_
    refine q_3 rfl ?_
    first | refine q_38E _ rfl (by decide) rfl (by show _ < 10; omega) (by decide) (r3) ?_ | refine q_38 _ rfl (by decide) rfl (by show _ < 10; omega) (by decide) ?_
    refine q_6 rfl rfl rfl ?_
    refine q_3 rfl ?_
    first | refine q_neN0 (by omega) (fun hh => absurd hh (by omega)) (fun hh => ?_) | refine q_neI0 (fun hh => absurd hh (by omega)) (fun hh => ?_)
    refine q_5 rfl ?_
    refine q_33 rfl (by decide) (hP _ _ _ rfl) ?_
    refine q_33 rfl (by decide) (hP _ _ _ rfl) ?_
    refine q_3 rfl ?_
    refine q_0 ?_
    refine q_5 rfl ?_
    refine q_33 rfl (by decide) (hP _ _ _ rfl) ?_
    refine q_33 rfl (by decide) (hP _ _ _ rfl) ?_
    refine q_3 rfl ?_
    first | refine q_38E _ rfl (by decide) rfl (by show _ < 10; omega) (by decide) (r1) ?_ | refine q_38 _ rfl (by decide) rfl (by show _ < 10; omega) (by decide) ?_
    refine q_0 ?_
    first | refine q_add ?_ | refine q_11 rfl ?_
    refine q_71 rfl ?_
    rw [min9 (by omega), e9]
    refine q_42 _ rfl (by decide) rfl (by show _ < 10; omega) (by decide) ?_
    refine q_23 ?_
    refine q_25 ?_
    exact k _ (Eqf.rf.up rfl) hx (hR.hs hp (by split <;> omega) upI_s (fun p hp => upI_j hp) rfl rfl)
  · cases hm : m p with
    | none =>
      rw [hm] at r3
      have eb : bef lc dr x p 1 (c, h, m) = (x, c, h, m) := by
        show (x, c, h, match m p with | none => m | some r => unb m p r) = _
        rw [hm]
      rw [eb] at k
      refine q_5 rfl ?_
      refine q_33 rfl (by decide) (hP _ _ _ rfl) ?_
      refine q_33 rfl (by decide) (hP _ _ _ rfl) ?_
      refine q_3 rfl ?_
      first | refine q_38E _ rfl (by decide) rfl (by show _ < 10; omega) (by decide) (r3) ?_ | refine q_38 _ rfl (by decide) rfl (by show _ < 10; omega) (by decide) ?_
      refine q_6 rfl rfl rfl ?_
      refine q_3 rfl ?_
      first | refine q_neN0 (by omega) (fun hh => ?_) (fun hh => absurd hh (by omega)) | refine q_neI0 (fun hh => ?_) (fun hh => absurd (by omega) hh)
      refine q_3 rfl ?_
      refine q_0 ?_
      refine q_neN (by omega) (by omega) (fun hh => absurd hh (by omega)) (fun hh => ?_)
      refine q_3 rfl ?_
      refine q_ltI0 (fun hh => ?_) (fun hh => absurd (by decide) hh)
      refine q_3 rfl ?_
      refine q_0 ?_
      refine q_neN (by omega) (by omega) (fun hh => ?_) (fun hh => absurd hh (by omega))
      refine q_25 ?_
      exact k I Eqf.rf hx hR
    | some r =>
      rw [hm] at r3
      have r3' : I 71 p = nI r := r3
      obtain ⟨hr, hrp, -⟩ := hR.gm p hp r hm
      have eb : bef lc dr x p 1 (c, h, m) = (x, c, h, unb m p r) := by
        show (x, c, h, match m p with | none => m | some r => unb m p r) = _
        rw [hm]
      rw [eb] at k
      refine q_5 rfl ?_
      refine q_33 rfl (by decide) (hP _ _ _ rfl) ?_
      refine q_33 rfl (by decide) (hP _ _ _ rfl) ?_
      refine q_3 rfl ?_
      first | refine q_38E _ rfl (by decide) rfl (by show _ < 10; omega) (by decide) (r3') ?_ | refine q_38 _ rfl (by decide) rfl (by show _ < 10; omega) (by decide) ?_
      refine q_6 rfl rfl rfl ?_
      refine q_3 rfl ?_
      first | refine q_neN0 (by omega) (fun hh => ?_) (fun hh => absurd hh (by omega)) | refine q_neI0 (fun hh => ?_) (fun hh => absurd (by omega) hh)
      refine q_3 rfl ?_
      refine q_0 ?_
      refine q_neN (by omega) (by omega) (fun hh => absurd hh (by omega)) (fun hh => ?_)
      refine q_3 rfl ?_
      first | refine q_ltN0 (by omega) ?_ | refine q_ltI0 (fun hh => absurd hh (by omega)) (fun hh => ?_)
      refine q_5 rfl ?_
      refine q_33 rfl (by decide) (hP _ _ _ rfl) ?_
      refine q_33 rfl (by decide) (hP _ _ _ rfl) ?_
      refine q_3 rfl ?_
      refine q_1 ?_
      refine q_42 _ rfl (by decide) rfl (by show _ < 10; omega) (by decide) ?_
      refine q_5 rfl ?_
      refine q_33 rfl (by decide) (hP _ _ _ rfl) ?_
      refine q_33 rfl (by decide) (hP _ _ _ rfl) ?_
      refine q_3 rfl ?_
      refine q_1 ?_
      refine q_42 _ rfl (by decide) rfl (by show _ < 10; omega) (by decide) ?_
      refine q_23 ?_
      refine q_25 ?_
      refine k _ ((Eqf.rf.up rfl).up rfl) hx (CW_ms hR (gm_unb hR.gm hp hm) (fun p' hp' => ?_) rfl rfl)
      show _ = mI (if p' < n then (if p' = r then none else if p' = p then none else m p') else none)
      rw [upI_if]
      by_cases e1 : p' = r
      · rw [if_pos e1, if_pos (by omega), if_pos e1]
        rfl
      · rw [if_neg e1, if_neg e1, upI_if]
        by_cases e2 : p' = p
        · rw [if_pos e2, if_pos (by omega), if_pos e2]
          rfl
        · rw [if_neg e2, if_neg e2]
          exact hR.2.2.2.1 p' hp'
  · have hR1 : CW n 69 70 71 c h m (mj_upI I 67 4 (lc x)) := hR.fr rfl rfl rfl
    have hR2 := hR1.cs (I' := mj_upI (mj_upI I 67 4 (lc x)) 69 p (nI (dr (lc x) % 10))) hp (show dr (lc x) % 10 < 10 by omega) upI_s (fun p hp => upI_j hp) rfl rfl
    refine q_5 rfl ?_
    refine q_33 rfl (by decide) (hP _ _ _ rfl) ?_
    refine q_33 rfl (by decide) (hP _ _ _ rfl) ?_
    refine q_3 rfl ?_
    first | refine q_38E _ rfl (by decide) rfl (by show _ < 10; omega) (by decide) (r3) ?_ | refine q_38 _ rfl (by decide) rfl (by show _ < 10; omega) (by decide) ?_
    refine q_6 rfl rfl rfl ?_
    refine q_3 rfl ?_
    first | refine q_neN0 (by omega) (fun hh => ?_) (fun hh => absurd hh (by omega)) | refine q_neI0 (fun hh => ?_) (fun hh => absurd (by omega) hh)
    refine q_3 rfl ?_
    refine q_0 ?_
    refine q_neN (by omega) (by omega) (fun hh => ?_) (fun hh => absurd hh (by omega))
    refine q_3 rfl ?_
    refine q_0 ?_
    refine q_neN (by omega) (by omega) (fun hh => absurd hh (by omega)) (fun hh => ?_)
    refine q_5 rfl ?_
    refine q_33 rfl (by decide) (hP _ _ _ rfl) ?_
    refine q_33 rfl (by decide) (hP _ _ _ rfl) ?_
    refine q_3 rfl ?_
    refine q_5 rfl ?_
    refine q_0 ?_
    refine q_47 (mj_ev_mono _) [_] rfl rfl rfl (by decide) rfl rfl rfl ?_
    refine c_2 hlc hdr hd hx (by omega) (by omega) ?_
    refine q_42 _ rfl (by decide) rfl (by show _ < 10; omega) (by decide) ?_
    refine q_5 rfl ?_
    refine q_33 rfl (by decide) (hP _ _ _ rfl) ?_
    refine q_33 rfl (by decide) (hP _ _ _ rfl) ?_
    refine q_3 rfl ?_
    refine q_0 ?_
    refine q_42 _ rfl (by decide) rfl (by show _ < 10; omega) (by decide) ?_
    refine q_25 ?_
    exact k _ (((Eqf.rf.up rfl).up rfl).up rfl) rfl (hR2.hs (v := 0) hp (by omega) upI_s (fun p hp => upI_j hp) rfl rfl)
  · refine q_5 rfl ?_
    refine q_33 rfl (by decide) (hP _ _ _ rfl) ?_
    refine q_33 rfl (by decide) (hP _ _ _ rfl) ?_
    refine q_3 rfl ?_
    first | refine q_38E _ rfl (by decide) rfl (by show _ < 10; omega) (by decide) (r3) ?_ | refine q_38 _ rfl (by decide) rfl (by show _ < 10; omega) (by decide) ?_
    refine q_6 rfl rfl rfl ?_
    refine q_3 rfl ?_
    first | refine q_neN0 (by omega) (fun hh => ?_) (fun hh => absurd hh (by omega)) | refine q_neI0 (fun hh => ?_) (fun hh => absurd (by omega) hh)
    refine q_3 rfl ?_
    refine q_0 ?_
    refine q_neN (by omega) (by omega) (fun hh => ?_) (fun hh => absurd hh (by omega))
    refine q_3 rfl ?_
    refine q_0 ?_
    refine q_neN (by omega) (by omega) (fun hh => ?_) (fun hh => absurd hh (by omega))
    refine q_25 ?_
    exact k I Eqf.rf hx hR
theorem c_5 (hP : PS t P) (hW : CT w I) (hR : CW w.n 69 70 71 c h m I) (k : ∀ I', Eqf (frm [13, 15, 72] []) I I' → (∀ x y, x < y → y < w.n → m x = none → m y = none → I' 72 (x * 10 + y) = alk w c h x y) → Q (.inl none) (107, I', L, P)) : mj_ev (d + 3) 5 [.ref 67] (107, I, L, P) Q := by
  refine ⟨rfl, ?_⟩
  have hn10 := hW.n10
  have tW : ∀ {I' : mj_I}, Eqf (frm [13, 15, 72] []) I I' → CT w I' := fun e => hW.fr e ⟨rfl, rfl, rfl, rfl, rfl, rfl⟩ (fun _ => rfl) (fun _ _ => ⟨rfl, rfl, rfl, rfl⟩)
  have tR : ∀ {I' : mj_I}, Eqf (frm [13, 15, 72] []) I I' → CW w.n 69 70 71 c h m I' := fun e => hR.fr (funext fun j => e 69 j rfl) (funext fun j => e 70 j rfl) (funext fun j => e 71 j rfl)
  have L10 : ∀ a, a ≤ w.n → ∀ I' x3, Eqf (frm [13, 15, 72] []) I I' → (∀ x y, x < y → y < w.n → x < a → m x = none → m y = none → I' 72 (x * 10 + y) = alk w c h x y) → mj_run (mj_ev (d + 2)) k5 Q (k5 10) [some (.ref 67), some (.ref 71), some (.int (nI a)), x3] [] (107, I', L, P) 0 0 := by
    refine loop_up ?_ (fun a ha ih => ?_)
    · intro I' x3 e' z
      have hn := (tW e').hn
      refine q_3 rfl ?_
      refine q_5 rfl ?_
      refine q_33 rfl (by decide) (hP _ _ _ rfl) ?_
      first | refine q_31E rfl (by decide) hn ?_ | refine q_31 rfl (by decide) ?_
      refine q_geN (by omega) (by omega) (fun hh => ?_) (fun hh => absurd hh (by omega))
      refine q_25 ?_
      exact k I' e' (fun x y hxy hy mx my => z x y hxy hy (by omega) mx my)
    · intro I' x3 e' z
      have hn := (tW e').hn
      cases hma : m a with
      | some q =>
        have r3 : I' 71 a = mI (some q) := by rw [(tR e').mat ha, hma]
        have hq := (hR.gm a ha q hma).1
        refine q_3 rfl ?_
        refine q_5 rfl ?_
        refine q_33 rfl (by decide) (hP _ _ _ rfl) ?_
        first | refine q_31E rfl (by decide) hn ?_ | refine q_31 rfl (by decide) ?_
        refine q_geN (by omega) (by omega) (fun hh => absurd hh (by omega)) (fun hh => ?_)
        refine q_3 rfl ?_
        refine q_0 ?_
        first | refine q_add ?_ | refine q_11 rfl ?_
        refine q_6 rfl rfl rfl ?_
        refine q_5 rfl ?_
        refine q_3 rfl ?_
        first | refine q_38E _ rfl (by decide) rfl (by show _ < 10; omega) (by decide) (r3) ?_ | refine q_38 _ rfl (by decide) rfl (by show _ < 10; omega) (by decide) ?_
        refine q_1 ?_
        refine q_neI (fun _ => ?_) (fun zz => absurd (mI_ne (show q < 2 ^ 31 by omega)) zz)
        first | refine q_inc rfl rfl rfl ?_ | refine q_9 rfl rfl rfl ?_
        refine q_23 ?_
        exact ih I' _ e' (fun x y hxy hy hx mx my => z x y hxy hy (by have e : x ≠ a := fun e => (by rw [e, hma] at mx; cases mx); omega) mx my)
      | none =>
        have L25 : ∀ b, b ≤ w.n → a + 1 ≤ b → ∀ I', Eqf (frm [13, 15, 72] []) I I' → (∀ x y, x < y → y < w.n → (x < a ∨ x = a ∧ y < b) → m x = none → m y = none → I' 72 (x * 10 + y) = alk w c h x y) → mj_run (mj_ev (d + 2)) k5 Q (k5 25) [some (.ref 67), some (.ref 71), some (.int (nI a)), some (.int (nI b))] [] (107, I', L, P) 0 0 := by
          refine loop_up ?_ (fun b hb ih2 => ?_)
          · intro _ I' e' z
            have hn := (tW e').hn
            have r3 : I' 71 a = -(nI 1) := by rw [(tR e').mat ha, hma]; rfl
            refine q_5 rfl ?_
            refine q_3 rfl ?_
            first | refine q_38E _ rfl (by decide) rfl (by show _ < 10; omega) (by decide) (r3) ?_ | refine q_38 _ rfl (by decide) rfl (by show _ < 10; omega) (by decide) ?_
            refine q_1 ?_
            refine q_neI (fun zz => absurd rfl zz) (fun _ => ?_)
            refine q_3 rfl ?_
            refine q_5 rfl ?_
            refine q_33 rfl (by decide) (hP _ _ _ rfl) ?_
            first | refine q_31E rfl (by decide) hn ?_ | refine q_31 rfl (by decide) ?_
            refine q_geN (by omega) (by omega) (fun hh => ?_) (fun hh => absurd hh (by omega))
            first | refine q_inc rfl rfl rfl ?_ | refine q_9 rfl rfl rfl ?_
            refine q_23 ?_
            exact ih I' _ e' (fun x y hxy hy hq mx my => z x y hxy hy (by omega) mx my)
          · intro hab I' e' z
            have hn := (tW e').hn
            have r3 : I' 71 a = -(nI 1) := by rw [(tR e').mat ha, hma]; rfl
            cases hmb : m b with
            | some q =>
              have r4 : I' 71 b = mI (some q) := by rw [(tR e').mat hb, hmb]
              have hq := (hR.gm b hb q hmb).1
              refine q_5 rfl ?_
              refine q_3 rfl ?_
              first | refine q_38E _ rfl (by decide) rfl (by show _ < 10; omega) (by decide) (r3) ?_ | refine q_38E _ rfl (by decide) rfl (by show _ < 10; omega) (by decide) (r4) ?_ | refine q_38 _ rfl (by decide) rfl (by show _ < 10; omega) (by decide) ?_
              refine q_1 ?_
              refine q_neI (fun zz => absurd rfl zz) (fun _ => ?_)
              refine q_3 rfl ?_
              refine q_5 rfl ?_
              refine q_33 rfl (by decide) (hP _ _ _ rfl) ?_
              first | refine q_31E rfl (by decide) hn ?_ | refine q_31 rfl (by decide) ?_
              refine q_geN (by omega) (by omega) (fun hh => absurd hh (by omega)) (fun hh => ?_)
              refine q_5 rfl ?_
              refine q_3 rfl ?_
              first | refine q_38E _ rfl (by decide) rfl (by show _ < 10; omega) (by decide) (r3) ?_ | refine q_38E _ rfl (by decide) rfl (by show _ < 10; omega) (by decide) (r4) ?_ | refine q_38 _ rfl (by decide) rfl (by show _ < 10; omega) (by decide) ?_
              refine q_1 ?_
              refine q_neI (fun _ => ?_) (fun zz => absurd (mI_ne (show q < 2 ^ 31 by omega)) zz)
              first | refine q_inc rfl rfl rfl ?_ | refine q_9 rfl rfl rfl ?_
              refine q_23 ?_
              exact ih2 (by omega) I' e' (fun x y hxy hy hq mx my => z x y hxy hy (by have e : y ≠ b := fun e => (by rw [e, hmb] at my; cases my); omega) mx my)
            | none =>
              have r4 : I' 71 b = -(nI 1) := by rw [(tR e').mat hb, hmb]; rfl
              have g1 := (tR e').hol ha
              have g2 := (tR e').hol hb
              have g3 := (tR e').col ha
              have g4 := (tR e').col hb
              have z1 := hR.h10 ha
              have z2 := hR.h10 hb
              have z3 := hR.c10 ha
              have z4 := hR.c10 hb
              refine q_5 rfl ?_
              refine q_3 rfl ?_
              first | refine q_38E _ rfl (by decide) rfl (by show _ < 10; omega) (by decide) (r3) ?_ | refine q_38E _ rfl (by decide) rfl (by show _ < 10; omega) (by decide) (r4) ?_ | refine q_38 _ rfl (by decide) rfl (by show _ < 10; omega) (by decide) ?_
              refine q_1 ?_
              refine q_neI (fun zz => absurd rfl zz) (fun _ => ?_)
              refine q_3 rfl ?_
              refine q_5 rfl ?_
              refine q_33 rfl (by decide) (hP _ _ _ rfl) ?_
              first | refine q_31E rfl (by decide) hn ?_ | refine q_31 rfl (by decide) ?_
              refine q_geN (by omega) (by omega) (fun hh => absurd hh (by omega)) (fun hh => ?_)
              refine q_5 rfl ?_
              refine q_3 rfl ?_
              first | refine q_38E _ rfl (by decide) rfl (by show _ < 10; omega) (by decide) (r3) ?_ | refine q_38E _ rfl (by decide) rfl (by show _ < 10; omega) (by decide) (r4) ?_ | refine q_38 _ rfl (by decide) rfl (by show _ < 10; omega) (by decide) ?_
              refine q_1 ?_
              refine q_neI (fun zz => absurd rfl zz) (fun _ => ?_)
              refine q_5 rfl ?_
              refine q_33 rfl (by decide) (hP _ _ _ rfl) ?_
              refine q_3 rfl ?_
              refine q_0 ?_
              first | refine q_mul ?_ | refine q_11 rfl ?_
              refine q_3 rfl ?_
              first | refine q_add ?_ | refine q_11 rfl ?_
              refine q_5 rfl ?_
              refine q_33 rfl (by decide) (hP _ _ _ rfl) ?_
              refine q_3 rfl ?_
              refine q_5 rfl ?_
              refine q_33 rfl (by decide) (hP _ _ _ rfl) ?_
              refine q_33 rfl (by decide) (hP _ _ _ rfl) ?_
              refine q_3 rfl ?_
              first | refine q_38E _ rfl (by decide) rfl (by show _ < 10; omega) (by decide) (g3) ?_ | refine q_38E _ rfl (by decide) rfl (by show _ < 10; omega) (by decide) (g4) ?_ | refine q_38 _ rfl (by decide) rfl (by show _ < 10; omega) (by decide) ?_
              refine q_5 rfl ?_
              refine q_33 rfl (by decide) (hP _ _ _ rfl) ?_
              refine q_33 rfl (by decide) (hP _ _ _ rfl) ?_
              refine q_3 rfl ?_
              first | refine q_38E _ rfl (by decide) rfl (by show _ < 10; omega) (by decide) (g1) ?_ | refine q_38E _ rfl (by decide) rfl (by show _ < 10; omega) (by decide) (g2) ?_ | refine q_38 _ rfl (by decide) rfl (by show _ < 10; omega) (by decide) ?_
              refine q_3 rfl ?_
              refine q_5 rfl ?_
              refine q_33 rfl (by decide) (hP _ _ _ rfl) ?_
              refine q_33 rfl (by decide) (hP _ _ _ rfl) ?_
              refine q_3 rfl ?_
              first | refine q_38E _ rfl (by decide) rfl (by show _ < 10; omega) (by decide) (g3) ?_ | refine q_38E _ rfl (by decide) rfl (by show _ < 10; omega) (by decide) (g4) ?_ | refine q_38 _ rfl (by decide) rfl (by show _ < 10; omega) (by decide) ?_
              refine q_5 rfl ?_
              refine q_33 rfl (by decide) (hP _ _ _ rfl) ?_
              refine q_33 rfl (by decide) (hP _ _ _ rfl) ?_
              refine q_3 rfl ?_
              first | refine q_38E _ rfl (by decide) rfl (by show _ < 10; omega) (by decide) (g1) ?_ | refine q_38E _ rfl (by decide) rfl (by show _ < 10; omega) (by decide) (g2) ?_ | refine q_38 _ rfl (by decide) rfl (by show _ < 10; omega) (by decide) ?_
              refine q_47 (mj_ev_mono _) [_, _, _, _, _, _] rfl rfl rfl (by decide) rfl rfl rfl ?_
              refine c_87w hP (tW e') ha hb ⟨by omega, by omega⟩ ⟨by omega, by omega⟩ (fun I1 e1 => ?_)
              rw [alk_at]
              refine q_42 _ rfl (by decide) rfl (by show _ < 100; omega) (by decide) ?_
              first | refine q_inc rfl rfl rfl ?_ | refine q_9 rfl rfl rfl ?_
              refine q_23 ?_
              refine ih2 (by omega) _ ((e'.tr (e1.to rfl rfl)).up rfl) (fun x y hxy hy hq mx my => ?_)
              by_cases e : x = a ∧ y = b
              · obtain ⟨rfl, rfl⟩ := e
                exact upI_s
              · rw [upI_j (by omega), e1 72 _ rfl]
                exact z x y hxy hy (by omega) mx my
        refine q_3 rfl ?_
        refine q_5 rfl ?_
        refine q_33 rfl (by decide) (hP _ _ _ rfl) ?_
        first | refine q_31E rfl (by decide) hn ?_ | refine q_31 rfl (by decide) ?_
        refine q_geN (by omega) (by omega) (fun hh => absurd hh (by omega)) (fun hh => ?_)
        refine q_3 rfl ?_
        refine q_0 ?_
        first | refine q_add ?_ | refine q_11 rfl ?_
        refine q_6 rfl rfl rfl ?_
        exact L25 (a + 1) (by omega) (Nat.le_refl _) I' e' (fun x y hxy hy hq mx my => z x y hxy hy (by omega) mx my)
  show mj_run (mj_ev (d + 2)) k5 Q (k5 0) [some (.ref 67), none, none, none] [] (107, I, L, P) 0 0
  refine q_5 rfl ?_
  refine q_33 rfl (by decide) (hP _ _ _ rfl) ?_
  refine q_33 rfl (by decide) (hP _ _ _ rfl) ?_
  refine q_8 rfl rfl rfl ?_
  refine q_0 ?_
  refine q_6 rfl rfl rfl ?_
  exact L10 0 (by omega) I _ Eqf.rf (fun x y _ _ hq => absurd hq (by omega))
theorem c_4 {pp : Nat} (hP : PS t P) (hW : CT w I) (hR : CW w.n 69 70 71 c h m I) (hpp : I 67 1 = nI pp) (k : ∀ I', Eqf (frm [13, 15, 70, 71, 72] [(67, 1)]) I I' → CW w.n 69 70 71 c (hld w c (h, m)).1 (hld w c (h, m)).2 I' → I' 67 1 = nI (pp + (hldm w c (h, m)).2) → Q (.inl none) (107, I', L, P)) : mj_ev (d + 4) 4 [.ref 67] (107, I, L, P) Q := by
  refine ⟨rfl, ?_⟩
  have hn10 := hW.n10
  have L31 : ∀ I1, Eqf (frm [13, 15, 71, 72] []) I I1 → (∀ p, p < w.n → I1 71 p = mI (bal w.n (alk w c h) w.n m p)) → (∀ p, w.n ≤ p → I1 71 p = I 71 p) → ∀ i, i ≤ w.n → ∀ I', Eqf (frm [70] []) I1 I' → (∀ p, p < i → I' 70 p = nI (hup h p)) → (∀ p, i ≤ p → I' 70 p = I 70 p) → mj_run (mj_ev (d + 3)) k4 Q (k4 31) [some (.ref 67), some (.int (nI (maskF (fun p => decide (9 ≤ hup h p)) i))), some (.int (nI i))] [] (107, I', L, P) 0 0 := by
    intro I1 e1 m1 m2
    refine loop_up ?_ (fun i hi ih => ?_)
    · intro I' e' z1 z2
      have hn : I' 3 0 = nI w.n := (e' 3 0 rfl).trans ((e1 3 0 rfl).trans hW.hn)
      have hpp' : I' 67 1 = nI pp := (e' 67 1 rfl).trans ((e1 67 1 rfl).trans hpp)
      refine q_3 rfl ?_
      refine q_5 rfl ?_
      refine q_33 rfl (by decide) (hP _ _ _ rfl) ?_
      first | refine q_31E rfl (by decide) hn ?_ | refine q_31 rfl (by decide) ?_
      refine q_geN (by omega) (by omega) (fun hh => ?_) (fun hh => absurd hh (by omega))
      refine q_5 rfl ?_
      refine q_18 rfl ?_
      first | refine q_31E rfl (by decide) hpp' ?_ | refine q_31 rfl (by decide) ?_
      refine q_3 rfl ?_
      refine q_5 rfl ?_
      refine q_33 rfl (by decide) (hP _ _ _ rfl) ?_
      refine q_33 rfl (by decide) (hP _ _ _ rfl) ?_
      refine q_0 ?_
      refine q_5 rfl ?_
      refine q_33 rfl (by decide) (hP _ _ _ rfl) ?_
      first | refine q_31E rfl (by decide) hn ?_ | refine q_31 rfl (by decide) ?_
      refine q_50 (mj_ev_mono _) [_, _, _, _] rfl rfl rfl rfl rfl ?_
      refine c_160 (z := 71) (row := 0) (lz := 10) (m := bal w.n (alk w c h) w.n m) rfl (by decide) rfl (by decide) hn10 (by omega) (gm_bal _ hR.gm) (fun p hp => by rw [Nat.zero_add, e' 71 p rfl]; exact m1 p hp) (fun I2 b1 b2 b3 => ?_)
      first | refine q_add ?_ | refine q_11 rfl ?_
      refine q_34 rfl (by decide) ?_
      refine q_25 ?_
      refine k _ ?_ ⟨hn10, fun p hp => ?_, fun p hp => ?_, fun p hp => ?_, fun p hp => hR.c10 hp, fun p hp => hup_le (hR.h10 hp), gm_prt (gm_bal _ hR.gm)⟩ upI_s
      · intro cc j q
        have nc : cc ≠ 71 := fun zz => by subst zz; rw [frm_cell (by simp)] at q; cases q
        rw [show mj_upI I2 67 1 (nI (pp + (prt w.n (fun p => decide (9 ≤ hup h p)) (bal w.n (alk w c h) w.n m)).2)) cc j = I2 cc j from (by
          by_cases ec : cc = 67
          · subst ec
            exact upI_j (fun zz => by subst zz; exact absurd q (by decide))
          · rw [upI_c ec]), b1 cc nc]
        exact ((e1.to (cs' := [13, 15, 70, 71, 72]) (fs' := [(67, 1)]) rfl rfl).tr (e'.to rfl rfl)) cc j q
      · rw [upI_c (by decide), b1 69 (by decide), e' 69 p rfl, e1 69 p rfl]
        exact hR.2.1 p hp
      · rw [upI_c (by decide), b1 70 (by decide)]
        unfold cx
        by_cases hpn : p < w.n
        · rw [if_pos hpn]
          exact z1 p hpn
        · rw [if_neg hpn, z2 p (by omega), hR.2.2.1 p hp, cx_ge (by omega)]
      · rw [upI_c (by decide)]
        unfold mx
        by_cases hpn : p < w.n
        · rw [if_pos hpn]
          have := b3 p hpn
          rw [Nat.zero_add] at this
          exact this
        · rw [if_neg hpn, b2 p (Or.inr (by omega)), e' 71 p rfl, m2 p (by omega), hR.2.2.2.1 p hp, mx_ge (by omega)]
    · intro I' e' z1 z2
      have hn : I' 3 0 = nI w.n := (e' 3 0 rfl).trans ((e1 3 0 rfl).trans hW.hn)
      have r1 : I' 70 i = nI (h i) := (z2 i (Nat.le_refl _)).trans (hR.hol hi)
      have hz := hR.h10 hi
      have hue : (if h i + 1 < 9 then h i + 1 else 9) = hup h i := by
        unfold hup
        split <;> split <;> omega
      have hul := hup_le hz
      have r2 : mj_upI I' 70 i (nI (hup h i)) 70 i = nI (hup h i) := upI_s
      have nx : ∀ v, v = maskF (fun p => decide (9 ≤ hup h p)) (i + 1) → mj_run (mj_ev (d + 3)) k4 Q (k4 31) [some (.ref 67), some (.int (nI v)), some (.int (nI (i + 1)))] [] (107, mj_upI I' 70 i (nI (hup h i)), L, P) 0 0 := by
        rintro v rfl
        refine ih _ (e'.up rfl) (fun p hp => ?_) (fun p hp => ?_)
        · by_cases e : p = i
          · subst e
            exact upI_s
          · rw [upI_j e]
            exact z1 p (by omega)
        · rw [upI_j (by omega)]
          exact z2 p (by omega)
      by_cases h9 : 9 ≤ hup h i
      · have e := mask_acc1 (p := fun p => decide (9 ≤ hup h p)) (i := i) (c := True) (by simp; exact h9)
        rw [if_pos trivial] at e
        refine q_3 rfl ?_
        refine q_5 rfl ?_
        refine q_33 rfl (by decide) (hP _ _ _ rfl) ?_
        first | refine q_31E rfl (by decide) hn ?_ | refine q_31 rfl (by decide) ?_
        refine q_geN (by omega) (by omega) (fun hh => absurd hh (by omega)) (fun hh => ?_)
        refine q_5 rfl ?_
        refine q_33 rfl (by decide) (hP _ _ _ rfl) ?_
        refine q_33 rfl (by decide) (hP _ _ _ rfl) ?_
        refine q_3 rfl ?_
        refine q_0 ?_
        refine q_5 rfl ?_
        refine q_33 rfl (by decide) (hP _ _ _ rfl) ?_
        refine q_33 rfl (by decide) (hP _ _ _ rfl) ?_
        refine q_3 rfl ?_
        first | refine q_38E _ rfl (by decide) rfl (by show _ < 10; omega) (by decide) (r2) ?_ | refine q_38E _ rfl (by decide) rfl (by show _ < 10; omega) (by decide) (r1) ?_ | refine q_38 _ rfl (by decide) rfl (by show _ < 10; omega) (by decide) ?_
        refine q_0 ?_
        first | refine q_add ?_ | refine q_11 rfl ?_
        refine q_71 rfl ?_
        rw [min9 (by omega), hue]
        refine q_42 _ rfl (by decide) rfl (by show _ < 10; omega) (by decide) ?_
        refine q_3 rfl ?_
        refine q_5 rfl ?_
        refine q_33 rfl (by decide) (hP _ _ _ rfl) ?_
        refine q_33 rfl (by decide) (hP _ _ _ rfl) ?_
        refine q_3 rfl ?_
        first | refine q_38E _ rfl (by decide) rfl (by show _ < 10; omega) (by decide) (r2) ?_ | refine q_38E _ rfl (by decide) rfl (by show _ < 10; omega) (by decide) (r1) ?_ | refine q_38 _ rfl (by decide) rfl (by show _ < 10; omega) (by decide) ?_
        refine q_0 ?_
        refine q_neN (by omega) (by omega) (fun hh => absurd hh (by omega)) (fun hh => ?_)
        refine q_0 ?_
        refine q_3 rfl ?_
        first | refine q_shl1 (by omega) ?_ | refine q_11 rfl ?_
        refine q_23 ?_
        first | refine q_orN ?_ | refine q_11 rfl ?_
        refine q_6 rfl rfl rfl ?_
        first | refine q_inc rfl rfl rfl ?_ | refine q_9 rfl rfl rfl ?_
        refine q_23 ?_
        exact nx _ e
      · have e : (maskF (fun p => decide (9 ≤ hup h p)) i ||| 0) = maskF (fun p => decide (9 ≤ hup h p)) (i + 1) := by
          rw [Nat.or_zero, maskF_no (fun p => decide (9 ≤ hup h p)) (decide_eq_false h9)]
        refine q_3 rfl ?_
        refine q_5 rfl ?_
        refine q_33 rfl (by decide) (hP _ _ _ rfl) ?_
        first | refine q_31E rfl (by decide) hn ?_ | refine q_31 rfl (by decide) ?_
        refine q_geN (by omega) (by omega) (fun hh => absurd hh (by omega)) (fun hh => ?_)
        refine q_5 rfl ?_
        refine q_33 rfl (by decide) (hP _ _ _ rfl) ?_
        refine q_33 rfl (by decide) (hP _ _ _ rfl) ?_
        refine q_3 rfl ?_
        refine q_0 ?_
        refine q_5 rfl ?_
        refine q_33 rfl (by decide) (hP _ _ _ rfl) ?_
        refine q_33 rfl (by decide) (hP _ _ _ rfl) ?_
        refine q_3 rfl ?_
        first | refine q_38E _ rfl (by decide) rfl (by show _ < 10; omega) (by decide) (r2) ?_ | refine q_38E _ rfl (by decide) rfl (by show _ < 10; omega) (by decide) (r1) ?_ | refine q_38 _ rfl (by decide) rfl (by show _ < 10; omega) (by decide) ?_
        refine q_0 ?_
        first | refine q_add ?_ | refine q_11 rfl ?_
        refine q_71 rfl ?_
        rw [min9 (by omega), hue]
        refine q_42 _ rfl (by decide) rfl (by show _ < 10; omega) (by decide) ?_
        refine q_3 rfl ?_
        refine q_5 rfl ?_
        refine q_33 rfl (by decide) (hP _ _ _ rfl) ?_
        refine q_33 rfl (by decide) (hP _ _ _ rfl) ?_
        refine q_3 rfl ?_
        first | refine q_38E _ rfl (by decide) rfl (by show _ < 10; omega) (by decide) (r2) ?_ | refine q_38E _ rfl (by decide) rfl (by show _ < 10; omega) (by decide) (r1) ?_ | refine q_38 _ rfl (by decide) rfl (by show _ < 10; omega) (by decide) ?_
        refine q_0 ?_
        refine q_neN (by omega) (by omega) (fun hh => ?_) (fun hh => absurd hh (by omega))
        refine q_0 ?_
        first | refine q_orN ?_ | refine q_11 rfl ?_
        refine q_6 rfl rfl rfl ?_
        first | refine q_inc rfl rfl rfl ?_ | refine q_9 rfl rfl rfl ?_
        refine q_23 ?_
        exact nx _ e
  show mj_run (mj_ev (d + 3)) k4 Q (k4 0) [some (.ref 67), none, none] [] (107, I, L, P) 0 0
  refine q_5 rfl ?_
  refine q_47 (mj_ev_mono _) [] rfl rfl rfl (by decide) rfl rfl rfl ?_
  refine c_5 hP hW hR (fun I1 e1 z1 => ?_)
  have hn1 : I1 3 0 = nI w.n := (e1 3 0 rfl).trans hW.hn
  refine q_5 rfl ?_
  refine q_33 rfl (by decide) (hP _ _ _ rfl) ?_
  refine q_0 ?_
  refine q_5 rfl ?_
  refine q_33 rfl (by decide) (hP _ _ _ rfl) ?_
  refine q_33 rfl (by decide) (hP _ _ _ rfl) ?_
  refine q_0 ?_
  refine q_5 rfl ?_
  refine q_33 rfl (by decide) (hP _ _ _ rfl) ?_
  first | refine q_31E rfl (by decide) hn1 ?_ | refine q_31 rfl (by decide) ?_
  refine q_50 (mj_ev_mono _) [_, _, _, _, _] rfl rfl rfl rfl rfl ?_
  refine c_159 (g := 72) (z := 71) (sq := 0) (row := 0) (lg := 100) (lz := 10) (m := m) (al := alk w c h) rfl rfl (by decide) (by decide) rfl rfl (by decide) (by decide) (by decide) hn10 (by omega) (by omega) hR.gm (fun p hp => by rw [Nat.zero_add, e1 71 p rfl]; exact hR.mat hp) (fun x y hxy hy mx my => by rw [Nat.zero_add]; exact z1 x y hxy hy mx my) (fun I2 b1 b2 b3 => ?_)
  refine q_0 ?_
  refine q_6 rfl rfl rfl ?_
  refine q_0 ?_
  refine q_6 rfl rfl rfl ?_
  refine L31 I2 (fun c j q => ?_) (fun p hp => by have := b3 p hp; rw [Nat.zero_add] at this; exact this) (fun p hp => by rw [b2 p (Or.inr (by omega)), e1 71 p rfl]) 0 (by omega) I2 Eqf.rf (fun p hp => absurd hp (by omega)) (fun p _ => by rw [b1 70 (by decide), e1 70 p rfl])
  have nc : c ≠ 71 := fun zz => by subst zz; rw [frm_cell (by simp)] at q; cases q
  rw [b1 c nc]
  exact (e1.to (cs' := [13, 15, 71, 72]) (fs' := []) rfl rfl) c j q
theorem c_6 (hP : PS t P) (hn : I 3 0 = nI n) (hR : CW n 69 70 71 c h m I) (k : Q (.inl (some (.int (nI (cntF (bm m) n))))) (107, I, L, P)) : mj_ev (d + 1) 6 [.ref 67] (107, I, L, P) Q := by
  refine ⟨rfl, ?_⟩
  have hn10 := hR.n10
  have L4 : ∀ i, i ≤ n → mj_run (mj_ev d) k6 Q (k6 4) [some (.ref 67), some (.int (nI (cntF (bm m) i))), some (.int (nI i))] [] (107, I, L, P) 0 0 := by
    refine loop_up ?_ (fun i hi ih => ?_)
    · refine q_3 rfl ?_
      refine q_5 rfl ?_
      refine q_33 rfl (by decide) (hP _ _ _ rfl) ?_
      first | refine q_31E rfl (by decide) hn ?_ | refine q_31 rfl (by decide) ?_
      refine q_geN (by omega) (by omega) (fun hh => ?_) (fun hh => absurd hh (by omega))
      refine q_3 rfl ?_
      refine q_26 ?_
      exact k
    · have r3 := hR.mat hi
      have m3 := hR.m31 hi
      have e : cntF (bm m) (i + 1) = cntF (bm m) i + (if bm m i = true then 1 else 0) := rfl
      refine q_3 rfl ?_
      refine q_5 rfl ?_
      refine q_33 rfl (by decide) (hP _ _ _ rfl) ?_
      first | refine q_31E rfl (by decide) hn ?_ | refine q_31 rfl (by decide) ?_
      refine q_geN (by omega) (by omega) (fun hh => absurd hh (by omega)) (fun hh => ?_)
      refine q_5 rfl ?_
      refine q_33 rfl (by decide) (hP _ _ _ rfl) ?_
      refine q_33 rfl (by decide) (hP _ _ _ rfl) ?_
      refine q_3 rfl ?_
      first | refine q_38E _ rfl (by decide) rfl (by show _ < 10; omega) (by decide) (r3) ?_ | refine q_38 _ rfl (by decide) rfl (by show _ < 10; omega) (by decide) ?_
      refine q_1 ?_
      refine q_eqM m3 (fun h1 => ?_) (fun h1 => ?_)
      · first | refine q_inc rfl rfl rfl ?_ | refine q_9 rfl rfl rfl ?_
        refine q_23 ?_
        first | (rw [e, show bm m i = false from by unfold bm; simp [h1], if_neg (by decide)] at ih; exact ih) | (rw [e, show bm m i = true from by unfold bm; simp [h1], if_pos rfl] at ih; exact ih)
      · first | refine q_inc rfl rfl rfl ?_ | refine q_9 rfl rfl rfl ?_
        first | refine q_inc rfl rfl rfl ?_ | refine q_9 rfl rfl rfl ?_
        refine q_23 ?_
        first | (rw [e, show bm m i = false from by unfold bm; simp [h1], if_neg (by decide)] at ih; exact ih) | (rw [e, show bm m i = true from by unfold bm; simp [h1], if_pos rfl] at ih; exact ih)
  show mj_run (mj_ev d) k6 Q (k6 0) [some (.ref 67), none, none] [] (107, I, L, P) 0 0
  refine q_0 ?_
  refine q_6 rfl rfl rfl ?_
  refine q_0 ?_
  refine q_6 rfl rfl rfl ?_
  exact L4 0 (by omega)
theorem cg_68 (hP : PS t P) (hR : CW n 69 70 71 c h m I) (k : Q (.inl (some (.int (nI (sumN h n))))) (107, I, L, P)) : mj_ev (d + 1) 68 [.ref 68] (107, I, L, P) Q := by
  refine ⟨rfl, ?_⟩
  have L4 : ∀ i, i ≤ 10 → mj_run (mj_ev d) k68 Q (k68 4) [some (.ref 68), some (.int (nI (sumN (cx n h) i))), some (.int (nI i))] [] (107, I, L, P) 0 0 := by
    refine loop_up ?_ (fun i hi ih => ?_)
    · refine q_3 rfl ?_
      refine q_0 ?_
      refine q_geN (by omega) (by omega) (fun hh => ?_) (fun hh => absurd hh (by omega))
      refine q_3 rfl ?_
      refine q_26 ?_
      rw [sumN_cx 10 hR.n10]
      exact k
    · have r1 : I 70 i = nI (cx n h i) := hR.2.2.1 i hi
      refine q_3 rfl ?_
      refine q_0 ?_
      refine q_geN (by omega) (by omega) (fun hh => absurd hh (by omega)) (fun hh => ?_)
      refine q_3 rfl ?_
      refine q_5 rfl ?_
      refine q_33 rfl (by decide) (hP _ _ _ rfl) ?_
      refine q_3 rfl ?_
      first | refine q_38E _ rfl (by decide) rfl (by show _ < 10; omega) (by decide) (r1) ?_ | refine q_38 _ rfl (by decide) rfl (by show _ < 10; omega) (by decide) ?_
      first | refine q_add ?_ | refine q_11 rfl ?_
      refine q_6 rfl rfl rfl ?_
      first | refine q_inc rfl rfl rfl ?_ | refine q_9 rfl rfl rfl ?_
      refine q_23 ?_
      exact ih
  show mj_run (mj_ev d) k68 Q (k68 0) [some (.ref 68), none, none] [] (107, I, L, P) 0 0
  refine q_0 ?_
  refine q_6 rfl rfl rfl ?_
  refine q_0 ?_
  refine q_6 rfl rfl rfl ?_
  exact L4 0 (by omega)
theorem cg_65 (hP : PS t P) (k : ∀ I', Eqf (frm [69, 70, 71] [(68, 0)]) I I' → (∀ p, p < 10 → I' 69 p = I 32 p) → (∀ p, p < 10 → I' 70 p = I 33 p) → (∀ p, p < 10 → I' 71 p = I 34 p) → Q (.inl none) (107, I', L, P)) : mj_ev (d + 1) 65 [.ref 68, .ref 31] (107, I, L, P) Q := by
  refine ⟨rfl, ?_⟩
  show mj_run (mj_ev d) k65 Q (k65 0) [some (.ref 68), some (.ref 31)] [] (107, I, L, P) 0 0
  refine q_5 rfl ?_
  refine q_5 rfl ?_
  refine q_31 rfl (by decide) ?_
  refine q_34 rfl (by decide) ?_
  refine q_5 rfl ?_
  refine q_33 rfl (by decide) (hP _ _ _ rfl) ?_
  refine q_0 ?_
  refine q_5 rfl ?_
  refine q_33 rfl (by decide) (hP _ _ _ rfl) ?_
  refine q_0 ?_
  refine q_0 ?_
  refine q_54 0 0 10 rfl (by decide) rfl (by decide) rfl rfl rfl (by decide) (by decide) (by decide) (by decide) rfl ?_
  refine q_5 rfl ?_
  refine q_33 rfl (by decide) (hP _ _ _ rfl) ?_
  refine q_0 ?_
  refine q_5 rfl ?_
  refine q_33 rfl (by decide) (hP _ _ _ rfl) ?_
  refine q_0 ?_
  refine q_0 ?_
  refine q_54 0 0 10 rfl (by decide) rfl (by decide) rfl rfl rfl (by decide) (by decide) (by decide) (by decide) rfl ?_
  refine q_5 rfl ?_
  refine q_33 rfl (by decide) (hP _ _ _ rfl) ?_
  refine q_0 ?_
  refine q_5 rfl ?_
  refine q_33 rfl (by decide) (hP _ _ _ rfl) ?_
  refine q_0 ?_
  refine q_0 ?_
  refine q_54 0 0 10 rfl (by decide) rfl (by decide) rfl rfl rfl (by decide) (by decide) (by decide) (by decide) rfl ?_
  refine q_25 ?_
  refine k _ ((((Eqf.rf.up rfl).se (fun _ => rfl)).se (fun _ => rfl)).se (fun _ => rfl)) (fun p hp => ?_) (fun p hp => ?_) (fun p hp => ?_)
  · rw [seI_c (by decide), seI_c (by decide), seI_in hp, upI_c (by decide)]
  · rw [seI_c (by decide), seI_in hp, seI_c (by decide), upI_c (by decide)]
  · rw [seI_in hp, seI_c (by decide), seI_c (by decide), upI_c (by decide)]
theorem gen_0 {lc : Int32 → Int32} {dr : Int32 → Nat} {g : GS} (hn : w.n = 0) : ∀ k, (gen lc dr w g k).2 = 0
  | 0 => rfl
  | k + 1 => by
    show (gen lc dr w g k).2 + (hldm w _ _).2 = 0
    rw [gen_0 hn k]
    unfold hldm prt
    rw [hn, fld_end (Nat.le_refl _)]
    rfl
theorem CW.n0 {x y z : Nat} {c' h' : Nat → Nat} {m' : MM} (hR : CW n x y z c h m I) (hn : n = 0) : CW n x y z c' h' m' I := by
  obtain ⟨h1, h2, h3, h4, -⟩ := hR
  subst hn
  exact ⟨h1, fun p hp => (h2 p hp).trans rfl, fun p hp => (h3 p hp).trans rfl, fun p hp => (h4 p hp).trans rfl, fun p hp => absurd hp (by omega), fun p hp => absurd hp (by omega), fun p hp => absurd hp (by omega)⟩
theorem c_1 {lc : Int32 → Int32} {dr : Int32 → Nat} (hlc : ∀ x, x * nI 1103515245 + nI 12345 = lc x) (hdr : ∀ x : Int32, (x.toUInt32 >>> ((nI 16).toUInt32 &&& Int32.toUInt32 31)).toInt32 &&& nI 32767 = nI (dr x)) (hd : ∀ x, dr x < 32768) {x : Int32} {N : Nat} (hP : PS t P) (hW : CT w I) (hR : CW w.n 32 33 34 c h m I) (hN : N ≤ 60) (k : ∀ I', Eqf (frm [13, 15, 67, 68, 69, 70, 71, 72] []) I I' → CW w.n 69 70 71 (gen lc dr w (x, c, h, m) N).1.2.1 (gen lc dr w (x, c, h, m) N).1.2.2.1 (gen lc dr w (x, c, h, m) N).1.2.2.2 I' → I' 67 1 = nI (gen lc dr w (x, c, h, m) N).2 → Q (.inl none) (107, I', L, P)) : mj_ev (d + 5) 1 [.ref 67, .int x, .int (nI N), .ref 31] (107, I, L, P) Q := by
  refine ⟨rfl, ?_⟩
  have hn10 := hW.n10
  have tW : ∀ {I' : mj_I}, Eqf (frm [13, 15, 67, 68, 69, 70, 71, 72] []) I I' → CT w I' := fun e => hW.fr e ⟨rfl, rfl, rfl, rfl, rfl, rfl⟩ (fun _ => rfl) (fun _ _ => ⟨rfl, rfl, rfl, rfl⟩)
  have L21 : ∀ i, i ≤ N → ∀ I', Eqf (frm [13, 15, 67, 68, 69, 70, 71, 72] []) I I' → I' 67 4 = (gen lc dr w (x, c, h, m) i).1.1 → CW w.n 69 70 71 (gen lc dr w (x, c, h, m) i).1.2.1 (gen lc dr w (x, c, h, m) i).1.2.2.1 (gen lc dr w (x, c, h, m) i).1.2.2.2 I' → I' 67 1 = nI (gen lc dr w (x, c, h, m) i).2 → mj_run (mj_ev (d + 4)) k1 Q (k1 21) [some (.ref 67), some (.int x), some (.int (nI N)), some (.ref 31), some (.int (nI i))] [] (107, I', L, P) 0 0 := by
    refine loop_up ?_ (fun i hi ih => ?_)
    · intro I' e' h4 hR' h1
      refine q_3 rfl ?_
      refine q_3 rfl ?_
      refine q_geN (by omega) (by omega) (fun hh => ?_) (fun hh => absurd hh (by omega))
      refine q_25 ?_
      exact k I' e' hR' h1
    · intro I' e' h4 hR' h1
      have hn := (tW e').hn
      by_cases hn0 : w.n = 0
      · refine q_3 rfl ?_
        refine q_3 rfl ?_
        refine q_geN (by omega) (by omega) (fun hh => absurd hh (by omega)) (fun hh => ?_)
        refine q_5 rfl ?_
        refine q_33 rfl (by decide) (hP _ _ _ rfl) ?_
        first | refine q_31E rfl (by decide) hn ?_ | refine q_31 rfl (by decide) ?_
        first | refine q_leN0 (by omega) (fun hh => ?_) (fun hh => absurd hh (by omega)) | refine q_leI0 (fun hh => ?_) (fun hh => absurd (by omega) hh)
        refine q_25 ?_
        exact k I' e' (hR'.n0 hn0) (by rw [h1, gen_0 hn0, gen_0 hn0])
      · generalize hgg : gen lc dr w (x, c, h, m) i = gg at *
        obtain ⟨⟨x0, c0, h0, m0⟩, s0⟩ := gg
        have eg : gen lc dr w (x, c, h, m) (i + 1) = (((hap lc dr w.n (x0, c0, h0, m0)).1, (hap lc dr w.n (x0, c0, h0, m0)).2.1, hld w (hap lc dr w.n (x0, c0, h0, m0)).2.1 (hap lc dr w.n (x0, c0, h0, m0)).2.2), s0 + (hldm w (hap lc dr w.n (x0, c0, h0, m0)).2.1 (hap lc dr w.n (x0, c0, h0, m0)).2.2).2) := by
          show genF lc dr w (gen lc dr w (x, c, h, m) i) = _
          rw [hgg]
          unfold genF
          rw [if_pos (by omega)]
        rw [eg, hap_bef] at ih
        have hp : dr (lc x0) % w.n < w.n := Nat.mod_lt _ (by omega)
        have hq : dr (lc (lc x0)) % 4 < 4 := Nat.mod_lt _ (by omega)
        have hR1 : CW w.n 69 70 71 c0 h0 m0 (mj_upI (mj_upI I' 67 4 (lc x0)) 67 4 (lc (lc x0))) := hR'.fr rfl rfl rfl
        refine q_3 rfl ?_
        refine q_3 rfl ?_
        refine q_geN (by omega) (by omega) (fun hh => absurd hh (by omega)) (fun hh => ?_)
        refine q_5 rfl ?_
        refine q_33 rfl (by decide) (hP _ _ _ rfl) ?_
        first | refine q_31E rfl (by decide) hn ?_ | refine q_31 rfl (by decide) ?_
        first | refine q_leN0 (by omega) (fun hh => absurd hh (by omega)) (fun hh => ?_) | refine q_leI0 (fun hh => absurd hh (by omega)) (fun hh => ?_)
        refine q_5 rfl ?_
        refine q_5 rfl ?_
        refine q_5 rfl ?_
        refine q_33 rfl (by decide) (hP _ _ _ rfl) ?_
        first | refine q_31E rfl (by decide) hn ?_ | refine q_31 rfl (by decide) ?_
        refine q_47 (mj_ev_mono _) [_] rfl rfl rfl (by decide) rfl rfl rfl ?_
        refine c_2 (x := x0) hlc hdr hd h4 (by omega) hn10 ?_
        refine q_5 rfl ?_
        refine q_0 ?_
        refine q_47 (mj_ev_mono _) [_] rfl rfl rfl (by decide) rfl rfl rfl ?_
        refine c_2 (x := lc x0) (n := 4) hlc hdr hd upI_s (by omega) (by omega) ?_
        refine q_47 (mj_ev_mono _) [_, _] rfl rfl rfl (by decide) rfl rfl rfl ?_
        refine c_3 (x := lc (lc x0)) hlc hdr hd hP upI_s hR1 hp hq (fun I1 e1 f1 hR2 => ?_)
        have E1 : Eqf (frm [13, 15, 67, 68, 69, 70, 71, 72] []) I I1 := ((e'.up rfl).up rfl).tr (e1.to rfl rfl)
        refine q_5 rfl ?_
        refine q_47 (mj_ev_mono _) [] rfl rfl rfl (by decide) rfl rfl rfl ?_
        refine c_4 (pp := s0) hP (tW E1) hR2 ((e1 67 1 rfl).trans h1) (fun I2 e2 hR3 f2 => ?_)
        first | refine q_inc rfl rfl rfl ?_ | refine q_9 rfl rfl rfl ?_
        refine q_23 ?_
        exact ih I2 (E1.tr (e2.to rfl rfl)) ((e2 67 4 rfl).trans f1) hR3 f2
  show mj_run (mj_ev (d + 4)) k1 Q (k1 0) [some (.ref 67), some (.int x), some (.int (nI N)), some (.ref 31), none] [] (107, I, L, P) 0 0
  refine q_5 rfl ?_
  refine q_3 rfl ?_
  refine q_34 rfl (by decide) ?_
  refine q_5 rfl ?_
  refine q_0 ?_
  refine q_34 rfl (by decide) ?_
  refine q_5 rfl ?_
  refine q_33 rfl (by decide) (hP _ _ _ rfl) ?_
  refine q_5 rfl ?_
  refine q_47 (mj_ev_mono _) [_] rfl rfl rfl (by decide) rfl rfl rfl ?_
  refine cg_65 hP (fun I1 e1 g1 g2 g3 => ?_)
  refine q_0 ?_
  refine q_6 rfl rfl rfl ?_
  exact L21 0 (by omega) I1 (((Eqf.rf.up rfl).up rfl).tr (e1.to rfl rfl)) (e1 67 4 rfl) ⟨hn10, fun p hp => (g1 p hp).trans (hR.2.1 p hp), fun p hp => (g2 p hp).trans (hR.2.2.1 p hp), fun p hp => (g3 p hp).trans (hR.2.2.2.1 p hp), hR.2.2.2.2⟩ (e1 67 1 rfl)
theorem c_144 {x : Int32} {N y : Nat} (hP : PS t P) (hS : CS A I) (hN : N ≤ 60) (hy : y ≤ 2) (k : kC Q I L P A (.inl (some (.int (nI (sGen lcg drw A x N y)))))) : mj_ev (d + 12) 144 [.ref 0, .int x, .int (nI N), .int (nI y)] (107, I, L, P) Q := by
  refine ⟨rfl, ?_⟩
  show mj_run (mj_ev (d + 11)) k144 Q (k144 0) [some (.ref 0), some (.int x), some (.int (nI N)), some (.int (nI y))] [] (107, I, L, P) 2 12
  obtain rfl | rfl | rfl : y = 0 ∨ y = 1 ∨ y = 2 := by omega
  · refine q_3 rfl ?_
    refine q_0 ?_
    refine q_48 (mj_ev_mono _) [_, _] rfl rfl rfl rfl rfl ?_
    refine c_150T hy (by omega) ?_
    refine q_3 rfl ?_
    first | refine q_ltN0 (by omega) ?_ | refine q_ltI0 (fun hh => absurd hh (by omega)) (fun hh => ?_)
    refine q_3 rfl ?_
    refine q_0 ?_
    refine q_leN (by omega) (by omega) (fun hh => ?_) (fun hh => absurd hh (by omega))
    refine q_5 rfl ?_
    refine q_33 rfl (by decide) (hP _ _ _ rfl) ?_
    refine q_3 rfl ?_
    refine q_3 rfl ?_
    refine q_5 rfl ?_
    refine q_33 rfl (by decide) (hP _ _ _ rfl) ?_
    refine q_47 (mj_ev_mono _) [_, _, _] rfl rfl rfl (by decide) rfl rfl rfl ?_
    refine c_1 (w := A.w) (c := A.c) (h := A.h) (m := A.m) (fun x => rfl) drw_u drw_lt hP hS.cb.ct hS.cb.cw hN (fun I1 e1 hR1 h1 => ?_)
    refine q_3 rfl ?_
    refine q_24E (t := 68) (rfl) ?_
    refine q_5 rfl ?_
    refine q_33 rfl (by decide) (hP _ _ _ rfl) ?_
    refine q_47 (mj_ev_mono _) [] rfl rfl rfl (by decide) rfl rfl rfl ?_
    refine c_6 hP ((e1 3 0 rfl).trans hS.cb.hn) hR1 ?_
    refine q_26 ?_
    exact k.fm e1 (hS.fx e1 rfl) rfl rfl
  · refine q_3 rfl ?_
    refine q_0 ?_
    refine q_48 (mj_ev_mono _) [_, _] rfl rfl rfl rfl rfl ?_
    refine c_150T hy (by omega) ?_
    refine q_3 rfl ?_
    first | refine q_ltN0 (by omega) ?_ | refine q_ltI0 (fun hh => absurd hh (by omega)) (fun hh => ?_)
    refine q_3 rfl ?_
    refine q_0 ?_
    refine q_leN (by omega) (by omega) (fun hh => ?_) (fun hh => absurd hh (by omega))
    refine q_5 rfl ?_
    refine q_33 rfl (by decide) (hP _ _ _ rfl) ?_
    refine q_3 rfl ?_
    refine q_3 rfl ?_
    refine q_5 rfl ?_
    refine q_33 rfl (by decide) (hP _ _ _ rfl) ?_
    refine q_47 (mj_ev_mono _) [_, _, _] rfl rfl rfl (by decide) rfl rfl rfl ?_
    refine c_1 (w := A.w) (c := A.c) (h := A.h) (m := A.m) (fun x => rfl) drw_u drw_lt hP hS.cb.ct hS.cb.cw hN (fun I1 e1 hR1 h1 => ?_)
    refine q_3 rfl ?_
    refine q_24E (t := 76) (rfl) ?_
    refine q_5 rfl ?_
    refine q_33 rfl (by decide) (hP _ _ _ rfl) ?_
    first | refine q_31E rfl (by decide) h1 ?_ | refine q_31 rfl (by decide) ?_
    refine q_26 ?_
    exact k.fm e1 (hS.fx e1 rfl) rfl rfl
  · refine q_3 rfl ?_
    refine q_0 ?_
    refine q_48 (mj_ev_mono _) [_, _] rfl rfl rfl rfl rfl ?_
    refine c_150T hy (by omega) ?_
    refine q_3 rfl ?_
    first | refine q_ltN0 (by omega) ?_ | refine q_ltI0 (fun hh => absurd hh (by omega)) (fun hh => ?_)
    refine q_3 rfl ?_
    refine q_0 ?_
    refine q_leN (by omega) (by omega) (fun hh => ?_) (fun hh => absurd hh (by omega))
    refine q_5 rfl ?_
    refine q_33 rfl (by decide) (hP _ _ _ rfl) ?_
    refine q_3 rfl ?_
    refine q_3 rfl ?_
    refine q_5 rfl ?_
    refine q_33 rfl (by decide) (hP _ _ _ rfl) ?_
    refine q_47 (mj_ev_mono _) [_, _, _] rfl rfl rfl (by decide) rfl rfl rfl ?_
    refine c_1 (w := A.w) (c := A.c) (h := A.h) (m := A.m) (fun x => rfl) drw_u drw_lt hP hS.cb.ct hS.cb.cw hN (fun I1 e1 hR1 h1 => ?_)
    refine q_3 rfl ?_
    refine q_24E (t := 84) (rfl) ?_
    refine q_5 rfl ?_
    refine q_33 rfl (by decide) (hP _ _ _ rfl) ?_
    refine q_33 rfl (by decide) (hP _ _ _ rfl) ?_
    refine q_47 (mj_ev_mono _) [] rfl rfl rfl (by decide) rfl rfl rfl ?_
    refine cg_68 hP hR1 ?_
    refine q_26 ?_
    exact k.fm e1 (hS.fx e1 rfl) rfl rfl
end C
