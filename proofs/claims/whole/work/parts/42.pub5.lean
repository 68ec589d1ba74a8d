/-! the model: generations; what is SEEN, who was dyed, the next fair -/
def FG (c j : Nat) : Bool := frr 33 c j || (c == 73 && j == 56)
theorem FG_fm {I I' : mj_I} (e : Eqf FG I I') : Eqf FM I I' := e.mono (fun c j q => by
  rw [← Bool.not_eq_true] at q ⊢
  intro q2
  apply q
  unfold FG at q2
  rw [Bool.or_eq_true] at q2
  rcases q2 with q3 | q3
  · unfold frr at q3
    rw [Bool.or_eq_true, Bool.or_eq_true, Bool.and_eq_true] at q3
    rcases q3 with (h3 | h3) | ⟨h3, h4⟩
    · obtain rfl := eq_of_beq h3
      rfl
    · obtain rfl := eq_of_beq h3
      rfl
    · obtain rfl := eq_of_beq h3
      rw [Bool.and_eq_true] at h4
      exact FM_89i (Nat.le_of_ble_eq_true h4.1)
  · rw [Bool.and_eq_true] at q3
    obtain rfl := eq_of_beq q3.1
    obtain rfl := eq_of_beq q3.2
    rfl)
theorem FG_33 {I I' : mj_I} (e : Eqf (frr 33) I I') : Eqf FG I I' := e.mono (fun c j q => (Bool.or_eq_false_iff.mp q).1)
theorem FG_in {j : Nat} (h1 : 33 ≤ j) (h2 : j < 66) : FG 89 j = true := by
  unfold FG
  rw [frr_in h1 (by omega)]
  rfl
theorem MT.fg {w : WT} {I I' : mj_I} (h : MT w I) (e : Eqf FG I I') : MT w I' := h.fr e (fun _ => ⟨rfl, rfl, rfl, rfl, rfl, rfl, rfl, rfl⟩)
def sGen (lc : Int32 → Int32) (dr : Int32 → Nat) (A : AS) (x : Int32) (N k : Nat) : Nat :=
  if k = 0 then cntF (bm (gen lc dr A.w (x, A.c, A.h, A.m) N).1.2.2.2) A.w.n else if k = 1 then (gen lc dr A.w (x, A.c, A.h, A.m) N).2 else sumN (gen lc dr A.w (x, A.c, A.h, A.m) N).1.2.2.1 A.w.n
def FS (c j : Nat) : Bool := c == 101
def sDyed (A : AS) (x : Nat) : Int32 := if x = 2 then nI (if sok A.w A.c (A.h, A.m) A.se then 1 else 0) else if x = 0 then nI (cntF (gss A.w A.c (A.h, A.m) A.se) (10 * A.w.n)) else mI (fnd (10 * A.w.n) 0 (gss A.w A.c (A.h, A.m) A.se))
section M
variable {I : mj_I} {L : mj_L} {P : mj_P} {Q : mj_Q} {d n r t a b : Nat} {A : AS} {w : WT} {c h : Nat → Nat} {m : MM}
theorem s_277 {lc : Int32 → Int32} {dr : Int32 → Nat} (hlc : ∀ x, x * nI 1103515245 + nI 12345 = lc x) (hdr : ∀ x : Int32, x >>> (nI 16 &&& 31) &&& nI 32767 = nI (dr x)) (hd : ∀ x, dr x < 32768) {x : Int32} (hx : I 73 56 = x) (hn : 0 < n) (hn2 : n ≤ 10) (k : Q (.inl (some (.int (nI (dr (lc x) % n))))) (107, mj_upI I 73 56 (lc x), L, P)) : mj_ev (d + 1) 277 [.ref 73, .int (nI n)] (107, I, L, P) Q := by
  refine ⟨rfl, ?_⟩
  have h1 : mj_upI I 73 56 (lc x) 73 56 = lc x := upI_s
  have h2 := hd (lc x)
  show mj_run (mj_ev d) k277 Q (k277 0) [some (.ref 73), some (.int (nI n))] [] (107, I, L, P) 0 0
  refine q_5 rfl ?_
  refine q_5 rfl ?_
  first | refine q_31E rfl (by decide) hx ?_ | refine q_31E rfl (by decide) h1 ?_ | refine q_31 rfl (by decide) ?_
  refine q_0 ?_
  refine q_11 rfl ?_
  refine q_0 ?_
  refine q_11 rfl ?_
  rw [hlc]
  refine q_34 rfl (by decide) ?_
  refine q_5 rfl ?_
  first | refine q_31E rfl (by decide) hx ?_ | refine q_31E rfl (by decide) h1 ?_ | refine q_31 rfl (by decide) ?_
  refine q_0 ?_
  refine q_11 rfl ?_
  refine q_0 ?_
  refine q_11 rfl ?_
  rw [hdr]
  refine q_3 rfl ?_
  first | refine q_remN (by omega) (by omega) (by omega) ?_ | refine q_rem (by assumption) ?_
  refine q_26 ?_
  exact k
theorem s_278 {lc : Int32 → Int32} {dr : Int32 → Nat} (hlc : ∀ x, x * nI 1103515245 + nI 12345 = lc x) (hdr : ∀ x : Int32, x >>> (nI 16 &&& 31) &&& nI 32767 = nI (dr x)) (hd : ∀ x, dr x < 32768) {x : Int32} (hP : PS t P) (hx : I 73 56 = x) (hn0 : 0 < w.n) (hW : MT w I) (hR : RW w.n 33 c h m I) (k : ∀ I', Eqf FG I I' → I' 73 56 = (hap lc dr w.n (x, c, h, m)).1 → RW w.n 33 (hap lc dr w.n (x, c, h, m)).2.1 (hap lc dr w.n (x, c, h, m)).2.2.1 (hap lc dr w.n (x, c, h, m)).2.2.2 I' → Q (.inl none) (107, I', L, P)) : mj_ev (d + 2) 278 [.ref 73] (107, I, L, P) Q := by
  refine ⟨rfl, ?_⟩
  have hn10 := hW.n10
  have hn := hW.hn
  have hp : dr (lc x) % w.n < w.n := Nat.mod_lt _ hn0
  have h1 : mj_upI I 73 56 (lc x) 73 56 = lc x := upI_s
  have h2 : mj_upI (mj_upI I 73 56 (lc x)) 73 56 (lc (lc x)) 73 56 = lc (lc x) := upI_s
  have hR2 : RW w.n 33 c h m (mj_upI (mj_upI I 73 56 (lc x)) 73 56 (lc (lc x))) := hR
  have E2 : Eqf FG I (mj_upI (mj_upI I 73 56 (lc x)) 73 56 (lc (lc x))) := (Eqf.rf.up rfl).up rfl
  have r1 := hR2.hol hp
  have r2 := hR2.mat hp
  have r3 := hR2.h10 hp
  have h4 : dr (lc (lc x)) % 4 < 4 := Nat.mod_lt _ (by decide)
  show mj_run (mj_ev (d + 1)) k278 Q (k278 0) [some (.ref 73), none, none, none] [] (107, I, L, P) 0 0
  by_cases g0 : dr (lc (lc x)) % 4 = 0
  · have e : hap lc dr w.n (x, c, h, m) = (lc (lc x), c, fun i => if i = dr (lc x) % w.n then (if 9 < h (dr (lc x) % w.n) + 3 then 9 else h (dr (lc x) % w.n) + 3) else h i, m) := by
      show (if dr (lc (lc x)) % 4 = 0 then _ else _) = _
      rw [if_pos g0]
    rw [e] at k
    refine q_5 rfl ?_
    refine q_5 rfl ?_
    first | refine q_31E rfl (by decide) hn ?_ | refine q_31 rfl (by decide) ?_
    refine q_47 (mj_ev_mono _) [_] rfl rfl rfl (by decide) rfl rfl rfl ?_
    refine s_277 hlc hdr hd hx hn0 hn10 ?_
    refine q_6 rfl rfl rfl ?_
    refine q_5 rfl ?_
    refine q_0 ?_
    refine q_47 (mj_ev_mono _) [_] rfl rfl rfl (by decide) rfl rfl rfl ?_
    refine s_277 hlc hdr hd h1 (by omega) (by omega) ?_
    refine q_6 rfl rfl rfl ?_
    refine q_3 rfl ?_
    first | refine q_neN0 (by omega) (fun hh => absurd hh (by omega)) (fun hh => ?_) | refine q_neI0 (fun hh => absurd hh (by omega)) (fun hh => ?_)
    refine q_5 rfl ?_
    refine q_33 rfl (by decide) (hP _ _ _ rfl) ?_
    refine q_0 ?_
    refine q_3 rfl ?_
    first | refine q_add ?_ | refine q_11 rfl ?_
    first | refine q_38E _ rfl (by decide) rfl (by show _ < 66; omega) (by decide) (r1) ?_ | refine q_38 _ rfl (by decide) rfl (by show _ < 66; omega) (by decide) ?_
    refine q_0 ?_
    first | refine q_add ?_ | refine q_11 rfl ?_
    refine q_6 rfl rfl rfl ?_
    refine q_5 rfl ?_
    refine q_33 rfl (by decide) (hP _ _ _ rfl) ?_
    refine q_0 ?_
    refine q_3 rfl ?_
    first | refine q_add ?_ | refine q_11 rfl ?_
    refine q_3 rfl ?_
    refine q_0 ?_
    first | refine q_d22_5Nn (J := 51) (by omega) (by omega) (fun j => q_3 rfl (j)) (fun j => q_0 (q_23 (j))) ?_ | refine q_d22_5Ni (J := 51) (by omega) (by omega) (fun j => q_3 rfl (j)) (fun j => q_0 (q_23 (j))) ?_ | refine q_d22_5In (J := 51) (fun j => q_3 rfl (j)) (fun j => q_0 (q_23 (j))) ?_ | refine q_d22_5Ii (J := 51) (fun j => q_3 rfl (j)) (fun j => q_0 (q_23 (j))) ?_
    refine q_42 _ rfl (by decide) rfl (by show _ < 66; omega) (by decide) ?_
    refine q_23 ?_
    refine q_25 ?_
    exact k _ (E2.up (FG_in (by omega) (by omega))) h2 (hR2.hs hp (by split <;> omega))
  · by_cases g1 : dr (lc (lc x)) % 4 = 1
    · cases hm : m (dr (lc x) % w.n) with
      | none =>
        have e : hap lc dr w.n (x, c, h, m) = (lc (lc x), c, h, m) := by
          show (if dr (lc (lc x)) % 4 = 0 then _ else if dr (lc (lc x)) % 4 = 1 then (lc (lc x), c, h, match m (dr (lc x) % w.n) with
            | none => m
            | some q => unb m (dr (lc x) % w.n) q) else _) = _
          rw [if_neg g0, if_pos g1, hm]
        rw [e] at k
        rw [hm] at r2
        have r2' : mj_upI (mj_upI I 73 56 (lc x)) 73 56 (lc (lc x)) 89 (56 + dr (lc x) % w.n) = -(nI 1) := r2
        refine q_5 rfl ?_
        refine q_5 rfl ?_
        first | refine q_31E rfl (by decide) hn ?_ | refine q_31 rfl (by decide) ?_
        refine q_47 (mj_ev_mono _) [_] rfl rfl rfl (by decide) rfl rfl rfl ?_
        refine s_277 hlc hdr hd hx hn0 hn10 ?_
        refine q_6 rfl rfl rfl ?_
        refine q_5 rfl ?_
        refine q_0 ?_
        refine q_47 (mj_ev_mono _) [_] rfl rfl rfl (by decide) rfl rfl rfl ?_
        refine s_277 hlc hdr hd h1 (by omega) (by omega) ?_
        refine q_6 rfl rfl rfl ?_
        refine q_3 rfl ?_
        first | refine q_neN0 (by omega) (fun hh => ?_) (fun hh => absurd hh (by omega)) | refine q_neI0 (fun hh => ?_) (fun hh => absurd (by omega) hh)
        refine q_3 rfl ?_
        refine q_0 ?_
        refine q_neN (by omega) (by omega) (fun hh => absurd hh (by omega)) (fun hh => ?_)
        refine q_5 rfl ?_
        refine q_33 rfl (by decide) (hP _ _ _ rfl) ?_
        refine q_0 ?_
        refine q_3 rfl ?_
        first | refine q_add ?_ | refine q_11 rfl ?_
        first | refine q_38E _ rfl (by decide) rfl (by show _ < 66; omega) (by decide) (r2') ?_ | refine q_38 _ rfl (by decide) rfl (by show _ < 66; omega) (by decide) ?_
        refine q_1 ?_
        refine q_eqI (fun _ => ?_) (fun h => absurd rfl h)
        refine q_25 ?_
        exact k _ E2 h2 hR2
      | some q =>
        have e : hap lc dr w.n (x, c, h, m) = (lc (lc x), c, h, unb m (dr (lc x) % w.n) q) := by
          show (if dr (lc (lc x)) % 4 = 0 then _ else if dr (lc (lc x)) % 4 = 1 then (lc (lc x), c, h, match m (dr (lc x) % w.n) with
            | none => m
            | some q => unb m (dr (lc x) % w.n) q) else _) = _
          rw [if_neg g0, if_pos g1, hm]
        rw [e] at k
        rw [hm] at r2
        have r2' : mj_upI (mj_upI I 73 56 (lc x)) 73 56 (lc (lc x)) 89 (56 + dr (lc x) % w.n) = nI q := r2
        have hq := (hR.gm _ hp q hm).1
        refine q_5 rfl ?_
        refine q_5 rfl ?_
        first | refine q_31E rfl (by decide) hn ?_ | refine q_31 rfl (by decide) ?_
        refine q_47 (mj_ev_mono _) [_] rfl rfl rfl (by decide) rfl rfl rfl ?_
        refine s_277 hlc hdr hd hx hn0 hn10 ?_
        refine q_6 rfl rfl rfl ?_
        refine q_5 rfl ?_
        refine q_0 ?_
        refine q_47 (mj_ev_mono _) [_] rfl rfl rfl (by decide) rfl rfl rfl ?_
        refine s_277 hlc hdr hd h1 (by omega) (by omega) ?_
        refine q_6 rfl rfl rfl ?_
        refine q_3 rfl ?_
        first | refine q_neN0 (by omega) (fun hh => ?_) (fun hh => absurd hh (by omega)) | refine q_neI0 (fun hh => ?_) (fun hh => absurd (by omega) hh)
        refine q_3 rfl ?_
        refine q_0 ?_
        refine q_neN (by omega) (by omega) (fun hh => absurd hh (by omega)) (fun hh => ?_)
        refine q_5 rfl ?_
        refine q_33 rfl (by decide) (hP _ _ _ rfl) ?_
        refine q_0 ?_
        refine q_3 rfl ?_
        first | refine q_add ?_ | refine q_11 rfl ?_
        first | refine q_38E _ rfl (by decide) rfl (by show _ < 66; omega) (by decide) (r2') ?_ | refine q_38 _ rfl (by decide) rfl (by show _ < 66; omega) (by decide) ?_
        refine q_1 ?_
        refine q_eqI (fun h => absurd h (mI_ne (by omega))) (fun _ => ?_)
        refine q_5 rfl ?_
        refine q_0 ?_
        refine q_3 rfl ?_
        refine q_47 (mj_ev_mono _) [_, _] rfl rfl rfl (by decide) rfl rfl rfl ?_
        refine s_209 hP (by omega) hR2 hp hm ?_
        refine q_23 ?_
        refine q_25 ?_
        exact k _ ((E2.up (FG_in (by omega) (by omega))).up (FG_in (by omega) (by omega))) h2 (hR2.ub hp hm)
    · by_cases g2 : dr (lc (lc x)) % 4 = 2
      · have e : hap lc dr w.n (x, c, h, m) = (lc (lc (lc x)), fun i => if i = dr (lc x) % w.n then dr (lc (lc (lc x))) % 10 else c i, fun i => if i = dr (lc x) % w.n then 0 else h i, m) := by
          show (if dr (lc (lc x)) % 4 = 0 then _ else if dr (lc (lc x)) % 4 = 1 then _ else if dr (lc (lc x)) % 4 = 2 then _ else _) = _
          rw [if_neg g0, if_neg g1, if_pos g2]
        rw [e] at k
        have hR3 : RW w.n 33 c h m (mj_upI (mj_upI (mj_upI I 73 56 (lc x)) 73 56 (lc (lc x))) 73 56 (lc (lc (lc x)))) := hR
        have h3 : mj_upI (mj_upI (mj_upI I 73 56 (lc x)) 73 56 (lc (lc x))) 73 56 (lc (lc (lc x))) 73 56 = lc (lc (lc x)) := upI_s
        have h10 : dr (lc (lc (lc x))) % 10 < 10 := Nat.mod_lt _ (by decide)
        refine q_5 rfl ?_
        refine q_5 rfl ?_
        first | refine q_31E rfl (by decide) hn ?_ | refine q_31 rfl (by decide) ?_
        refine q_47 (mj_ev_mono _) [_] rfl rfl rfl (by decide) rfl rfl rfl ?_
        refine s_277 hlc hdr hd hx hn0 hn10 ?_
        refine q_6 rfl rfl rfl ?_
        refine q_5 rfl ?_
        refine q_0 ?_
        refine q_47 (mj_ev_mono _) [_] rfl rfl rfl (by decide) rfl rfl rfl ?_
        refine s_277 hlc hdr hd h1 (by omega) (by omega) ?_
        refine q_6 rfl rfl rfl ?_
        refine q_3 rfl ?_
        first | refine q_neN0 (by omega) (fun hh => ?_) (fun hh => absurd hh (by omega)) | refine q_neI0 (fun hh => ?_) (fun hh => absurd (by omega) hh)
        refine q_3 rfl ?_
        refine q_0 ?_
        refine q_neN (by omega) (by omega) (fun hh => ?_) (fun hh => absurd hh (by omega))
        refine q_3 rfl ?_
        refine q_0 ?_
        refine q_neN (by omega) (by omega) (fun hh => absurd hh (by omega)) (fun hh => ?_)
        refine q_5 rfl ?_
        refine q_33 rfl (by decide) (hP _ _ _ rfl) ?_
        refine q_0 ?_
        refine q_3 rfl ?_
        first | refine q_add ?_ | refine q_11 rfl ?_
        refine q_5 rfl ?_
        refine q_0 ?_
        refine q_47 (mj_ev_mono _) [_] rfl rfl rfl (by decide) rfl rfl rfl ?_
        refine s_277 hlc hdr hd h2 (by omega) (by omega) ?_
        refine q_42 _ rfl (by decide) rfl (by show _ < 66; omega) (by decide) ?_
        refine q_5 rfl ?_
        refine q_33 rfl (by decide) (hP _ _ _ rfl) ?_
        refine q_0 ?_
        refine q_3 rfl ?_
        first | refine q_add ?_ | refine q_11 rfl ?_
        refine q_0 ?_
        refine q_42 _ rfl (by decide) rfl (by show _ < 66; omega) (by decide) ?_
        refine q_25 ?_
        exact k _ (((E2.up rfl).up (FG_in (by omega) (by omega))).up (FG_in (by omega) (by omega))) h3 ((hR3.cs hp h10).hs hp (by omega))
      · have e : hap lc dr w.n (x, c, h, m) = (lc (lc x), c, h, m) := by
          show (if dr (lc (lc x)) % 4 = 0 then _ else if dr (lc (lc x)) % 4 = 1 then _ else if dr (lc (lc x)) % 4 = 2 then _ else _) = _
          rw [if_neg g0, if_neg g1, if_neg g2]
        rw [e] at k
        refine q_5 rfl ?_
        refine q_5 rfl ?_
        first | refine q_31E rfl (by decide) hn ?_ | refine q_31 rfl (by decide) ?_
        refine q_47 (mj_ev_mono _) [_] rfl rfl rfl (by decide) rfl rfl rfl ?_
        refine s_277 hlc hdr hd hx hn0 hn10 ?_
        refine q_6 rfl rfl rfl ?_
        refine q_5 rfl ?_
        refine q_0 ?_
        refine q_47 (mj_ev_mono _) [_] rfl rfl rfl (by decide) rfl rfl rfl ?_
        refine s_277 hlc hdr hd h1 (by omega) (by omega) ?_
        refine q_6 rfl rfl rfl ?_
        refine q_3 rfl ?_
        first | refine q_neN0 (by omega) (fun hh => ?_) (fun hh => absurd hh (by omega)) | refine q_neI0 (fun hh => ?_) (fun hh => absurd (by omega) hh)
        refine q_3 rfl ?_
        refine q_0 ?_
        refine q_neN (by omega) (by omega) (fun hh => ?_) (fun hh => absurd hh (by omega))
        refine q_3 rfl ?_
        refine q_0 ?_
        refine q_neN (by omega) (by omega) (fun hh => ?_) (fun hh => absurd hh (by omega))
        refine q_25 ?_
        exact k _ E2 h2 hR2
theorem s_279 {lc : Int32 → Int32} {dr : Int32 → Nat} (hlc : ∀ x, x * nI 1103515245 + nI 12345 = lc x) (hdr : ∀ x : Int32, x >>> (nI 16 &&& 31) &&& nI 32767 = nI (dr x)) (hd : ∀ x, dr x < 32768) {x : Int32} {N y : Nat} (hP : PS t P) (hS : MS A I L) (hN : N ≤ 60) (hy : y ≤ 2) (k : kM Q I L P 0 (.int (nI (sGen lc dr A x N y)))) : mj_ev (d + 12) 279 [.ref 73, .int x, .int (nI N), .int (nI y)] (107, I, L, P) Q := by
  refine ⟨rfl, ?_⟩
  have hS0 := hS.i0
  have hn10 := hS.n10
  have L46 : ∀ i, i ≤ N → ∀ I', Eqf FG (I0 I) I' → I' 73 56 = (gen lc dr A.w (x, A.c, A.h, A.m) i).1.1 → RW A.w.n 33 (gen lc dr A.w (x, A.c, A.h, A.m) i).1.2.1 (gen lc dr A.w (x, A.c, A.h, A.m) i).1.2.2.1 (gen lc dr A.w (x, A.c, A.h, A.m) i).1.2.2.2 I' → mj_run (mj_ev (d + 11)) k279 Q (k279 46) [some (.ref 73), some (.int x), some (.int (nI N)), some (.int (nI y)), some (.int (nI (gen lc dr A.w (x, A.c, A.h, A.m) i).2)), some (.int (nI i))] [] (107, I', L, P) 0 0 := by
    refine loop_up ?_ (fun i hi ih => ?_)
    · intro I' e' hx hR'
      obtain rfl | rfl | rfl : y = 0 ∨ y = 1 ∨ y = 2 := by omega
      · refine q_3 rfl ?_
        refine q_3 rfl ?_
        refine q_geN (by omega) (by omega) (fun hh => ?_) (fun hh => absurd hh (by omega))
        refine q_3 rfl ?_
        first | refine q_neN0 (by omega) (fun hh => absurd hh (by omega)) (fun hh => ?_) | refine q_neI0 (fun hh => absurd hh (by omega)) (fun hh => ?_)
        refine q_5 rfl ?_
        refine q_0 ?_
        refine q_47 (mj_ev_mono _) [_] rfl rfl rfl (by decide) rfl rfl rfl ?_
        refine s_215 hP (by omega) (hS0.mt.fg e').hn hR' ?_
        refine q_48 (mj_ev_mono _) [_] rfl rfl rfl rfl rfl ?_
        refine s_166 hn10 ?_
        refine q_23 ?_
        refine q_26 ?_
        exact k.fin (FG_fm e') rfl (e' 73 0 rfl)
      · refine q_3 rfl ?_
        refine q_3 rfl ?_
        refine q_geN (by omega) (by omega) (fun hh => ?_) (fun hh => absurd hh (by omega))
        refine q_3 rfl ?_
        first | refine q_neN0 (by omega) (fun hh => ?_) (fun hh => absurd hh (by omega)) | refine q_neI0 (fun hh => ?_) (fun hh => absurd (by omega) hh)
        refine q_3 rfl ?_
        refine q_0 ?_
        refine q_neN (by omega) (by omega) (fun hh => absurd hh (by omega)) (fun hh => ?_)
        refine q_3 rfl ?_
        refine q_23 ?_
        refine q_26 ?_
        exact k.fin (FG_fm e') rfl (e' 73 0 rfl)
      · refine q_3 rfl ?_
        refine q_3 rfl ?_
        refine q_geN (by omega) (by omega) (fun hh => ?_) (fun hh => absurd hh (by omega))
        refine q_3 rfl ?_
        first | refine q_neN0 (by omega) (fun hh => ?_) (fun hh => absurd hh (by omega)) | refine q_neI0 (fun hh => ?_) (fun hh => absurd (by omega) hh)
        refine q_3 rfl ?_
        refine q_0 ?_
        refine q_neN (by omega) (by omega) (fun hh => ?_) (fun hh => absurd hh (by omega))
        refine q_5 rfl ?_
        refine q_0 ?_
        refine q_47 (mj_ev_mono _) [_] rfl rfl rfl (by decide) rfl rfl rfl ?_
        refine s_216r hP (by omega) (hS0.mt.fg e').hn hR' ?_
        refine q_26 ?_
        exact k.fin (FG_fm e') rfl (e' 73 0 rfl)
    · intro I' e' hx hR'
      have hn := (hS0.mt.fg e').hn
      by_cases hn0 : 0 < A.w.n
      · have e0 : gen lc dr A.w (x, A.c, A.h, A.m) (i + 1) = (((hap lc dr A.w.n (gen lc dr A.w (x, A.c, A.h, A.m) i).1).1, (hap lc dr A.w.n (gen lc dr A.w (x, A.c, A.h, A.m) i).1).2.1, hld A.w (hap lc dr A.w.n (gen lc dr A.w (x, A.c, A.h, A.m) i).1).2.1 (hap lc dr A.w.n (gen lc dr A.w (x, A.c, A.h, A.m) i).1).2.2), (gen lc dr A.w (x, A.c, A.h, A.m) i).2 + (hldm A.w (hap lc dr A.w.n (gen lc dr A.w (x, A.c, A.h, A.m) i).1).2.1 (hap lc dr A.w.n (gen lc dr A.w (x, A.c, A.h, A.m) i).1).2.2).2) := by
          show genF lc dr A.w (gen lc dr A.w (x, A.c, A.h, A.m) i) = _
          unfold genF
          rw [if_pos hn0]
        rw [e0] at ih
        refine q_3 rfl ?_
        refine q_3 rfl ?_
        refine q_geN (by omega) (by omega) (fun hh => absurd hh (by omega)) (fun hh => ?_)
        refine q_5 rfl ?_
        first | refine q_31E rfl (by decide) hn ?_ | refine q_31 rfl (by decide) ?_
        first | refine q_leN0 (by omega) (fun hh => absurd hh (by omega)) (fun hh => ?_) | refine q_leI0 (fun hh => absurd hh (by omega)) (fun hh => ?_)
        refine q_5 rfl ?_
        refine q_47 (mj_ev_mono _) [] rfl rfl rfl (by decide) rfl rfl rfl ?_
        refine s_278 hlc hdr hd hP hx hn0 (hS0.mt.fg e') hR' (fun I1 e1 hx1 hR1 => ?_)
        refine q_3 rfl ?_
        refine q_5 rfl ?_
        refine q_0 ?_
        refine q_47 (mj_ev_mono _) [_] rfl rfl rfl (by decide) rfl rfl rfl ?_
        refine s_213 hP (by omega) ((hS0.mt.fg e').fg e1) hR1 (fun I2 e2 hR2 _ => ?_)
        first | refine q_add ?_ | refine q_11 rfl ?_
        refine q_6 rfl rfl rfl ?_
        first | refine q_inc rfl rfl rfl ?_ | refine q_9 rfl rfl rfl ?_
        refine q_23 ?_
        exact ih I2 ((e'.tr e1).tr (FG_33 e2)) ((e2 73 56 rfl).trans hx1) hR2
      · have e0 : gen lc dr A.w (x, A.c, A.h, A.m) (i + 1) = (((gen lc dr A.w (x, A.c, A.h, A.m) i).1.1, (gen lc dr A.w (x, A.c, A.h, A.m) i).1.2.1, hld A.w (gen lc dr A.w (x, A.c, A.h, A.m) i).1.2.1 (gen lc dr A.w (x, A.c, A.h, A.m) i).1.2.2), (gen lc dr A.w (x, A.c, A.h, A.m) i).2 + (hldm A.w (gen lc dr A.w (x, A.c, A.h, A.m) i).1.2.1 (gen lc dr A.w (x, A.c, A.h, A.m) i).1.2.2).2) := by
          show genF lc dr A.w (gen lc dr A.w (x, A.c, A.h, A.m) i) = _
          unfold genF
          rw [if_neg hn0]
        rw [e0] at ih
        refine q_3 rfl ?_
        refine q_3 rfl ?_
        refine q_geN (by omega) (by omega) (fun hh => absurd hh (by omega)) (fun hh => ?_)
        refine q_5 rfl ?_
        first | refine q_31E rfl (by decide) hn ?_ | refine q_31 rfl (by decide) ?_
        first | refine q_leN0 (by omega) (fun hh => ?_) (fun hh => absurd hh (by omega)) | refine q_leI0 (fun hh => ?_) (fun hh => absurd (by omega) hh)
        refine q_3 rfl ?_
        refine q_5 rfl ?_
        refine q_0 ?_
        refine q_47 (mj_ev_mono _) [_] rfl rfl rfl (by decide) rfl rfl rfl ?_
        refine s_213 hP (by omega) (hS0.mt.fg e') hR' (fun I2 e2 hR2 _ => ?_)
        first | refine q_add ?_ | refine q_11 rfl ?_
        refine q_6 rfl rfl rfl ?_
        first | refine q_inc rfl rfl rfl ?_ | refine q_9 rfl rfl rfl ?_
        refine q_23 ?_
        exact ih I2 (e'.tr (FG_33 e2)) ((e2 73 56 rfl).trans hx) hR2
  show mj_run (mj_ev (d + 11)) k279 Q (k279 0) [some (.ref 73), some (.int x), some (.int (nI N)), some (.int (nI y)), none, none] [] (107, I, L, P) 0 0
  refine q_5 rfl ?_
  refine q_0 ?_
  refine q_34 rfl (by decide) ?_
  refine q_5 rfl ?_
  refine q_3 rfl ?_
  refine q_0 ?_
  refine q_47 (mj_ev_mono _) [_, _] rfl rfl rfl (by decide) rfl rfl rfl ?_
  refine s_222T I0_th hy (by omega) ?_
  first | refine q_eqN0 (by omega) (fun hh => absurd hh (by omega)) (fun hh => ?_) | refine q_eqI0 (fun hh => absurd hh (by omega)) (fun hh => ?_)
  refine q_5 rfl ?_
  refine q_3 rfl ?_
  refine q_0 ?_
  refine q_0 ?_
  refine q_48 (mj_ev_mono _) [_, _, _] rfl rfl rfl rfl rfl ?_
  refine s_164 ?_
  rw [if_neg (nI_nlt (by omega) (by omega)), if_neg (nI_nlt (by omega) (by omega))]
  refine q_0 ?_
  refine q_47 (mj_ev_mono _) [_, _] rfl rfl rfl (by decide) rfl rfl rfl ?_
  refine s_163T I0_th ?_
  first | refine q_neN0 (by omega) (fun hh => ?_) (fun hh => absurd hh (by omega)) | refine q_neI0 (fun hh => ?_) (fun hh => absurd (by omega) hh)
  refine q_5 rfl ?_
  refine q_47 (mj_ev_mono _) [] rfl rfl rfl (by decide) rfl rfl rfl ?_
  refine s_200 hP (fun I1 e1 h1 => ?_)
  refine q_5 rfl ?_
  refine q_3 rfl ?_
  refine q_34 rfl (by decide) ?_
  refine q_0 ?_
  refine q_6 rfl rfl rfl ?_
  refine q_0 ?_
  refine q_6 rfl rfl rfl ?_
  exact L46 0 (by omega) _ ((FG_33 e1).up rfl) upI_s (hS0.rw.cp h1)
theorem s_279F1 {x y z : Int32} (hy : z < nI 0 ∨ nI 2 < z) (k : kM Q I L P 1 (.int (nI 0))) : mj_ev (d + 12) 279 [.ref 73, .int x, .int y, .int z] (107, I, L, P) Q := by
  refine ⟨rfl, ?_⟩
  show mj_run (mj_ev (d + 11)) k279 Q (k279 0) [some (.ref 73), some (.int x), some (.int y), some (.int z), none, none] [] (107, I, L, P) 0 0
  refine q_5 rfl ?_
  refine q_0 ?_
  refine q_34 rfl (by decide) ?_
  refine q_5 rfl ?_
  refine q_3 rfl ?_
  refine q_0 ?_
  refine q_47 (mj_ev_mono _) [_, _] rfl rfl rfl (by decide) rfl rfl rfl ?_
  refine s_222F I0_th hy ?_
  first | refine q_eqN0 (by omega) (fun hh => ?_) (fun hh => absurd hh (by omega)) | refine q_eqI0 (fun hh => ?_) (fun hh => absurd (by omega) hh)
  refine q_0 ?_
  refine q_26 ?_
  exact k.bad
theorem s_279F2 {x y : Int32} {z : Nat} (hz : z ≤ 2) (hy : y < nI 0 ∨ nI 60 < y) (k : kM Q I L P 2 (.int (nI 0))) : mj_ev (d + 12) 279 [.ref 73, .int x, .int y, .int (nI z)] (107, I, L, P) Q := by
  refine ⟨rfl, ?_⟩
  show mj_run (mj_ev (d + 11)) k279 Q (k279 0) [some (.ref 73), some (.int x), some (.int y), some (.int (nI z)), none, none] [] (107, I, L, P) 0 0
  refine q_5 rfl ?_
  refine q_0 ?_
  refine q_34 rfl (by decide) ?_
  refine q_5 rfl ?_
  refine q_3 rfl ?_
  refine q_0 ?_
  refine q_47 (mj_ev_mono _) [_, _] rfl rfl rfl (by decide) rfl rfl rfl ?_
  refine s_222T I0_th hz (by omega) ?_
  first | refine q_eqN0 (by omega) (fun hh => absurd hh (by omega)) (fun hh => ?_) | refine q_eqI0 (fun hh => absurd hh (by omega)) (fun hh => ?_)
  refine q_5 rfl ?_
  refine q_3 rfl ?_
  refine q_0 ?_
  refine q_0 ?_
  refine q_48 (mj_ev_mono _) [_, _, _] rfl rfl rfl rfl rfl ?_
  refine s_164 ?_
  rw [show (if y < nI 0 then 0 else if nI 60 < y then 0 else 1) = 0 from by rcases hy with h | h <;> simp [h]]
  refine q_0 ?_
  refine q_47 (mj_ev_mono _) [_, _] rfl rfl rfl (by decide) rfl rfl rfl ?_
  refine s_163F I0_th (by omega) (by omega) ?_
  first | refine q_neN0 (by omega) (fun hh => absurd hh (by omega)) (fun hh => ?_) | refine q_neI0 (fun hh => absurd hh (by omega)) (fun hh => ?_)
  refine q_0 ?_
  refine q_26 ?_
  exact k.bad
theorem s_264 {se : SE} (hP : PS t P) (hW : MT w I) (hR : RW w.n 33 c h m I) (hs : SN w.n (I 100) se) (h52 : I 73 52 = nI se.length) (k : ∀ I' L', Eqf (frr 33) I I' → EqL FS L L' → (∀ j, j < 20 → L' 101 j = lN (rcd w.n (many w c (h, m) (j + 1)).2)) → Q (.inl (some (.int (nI (if sok w c (h, m) se then 1 else 0))))) (107, I', L', P)) : mj_ev (d + 8) 264 [.ref 73] (107, I, L, P) Q := by
  refine ⟨rfl, ?_⟩
  have hn10 := hW.n10
  have hl8 := hs.1
  have fin : ∀ (b : Bool), (b = true ↔ ∀ (i : Nat) (e : Nat × Nat × Option Nat), se[i]? = some e → 21 ≤ e.2.1 ∨ (many w c (h, m) e.2.1).2 e.1 = e.2.2) → b = sok w c (h, m) se := by
    intro b hb
    apply Bool.eq_iff_iff.mpr
    rw [hb]
    unfold sok
    rw [List.all_eq_true]
    constructor
    · intro h1 e he
      obtain ⟨i, hi⟩ := List.mem_iff_getElem?.mp he
      have h2 := (hs.2 i e hi).2.2.2.2.2.1
      rcases h1 i e hi with q | q
      · omega
      · exact decide_eq_true q
    · intro h1 i e hi
      exact Or.inr (of_decide_eq_true (h1 e (List.mem_iff_getElem?.mpr ⟨i, hi⟩)))
  have L4 : ∀ f, f ≤ 21 → 1 ≤ f → ∀ (b : Bool) I' L' x3 x5, (b = true ↔ ∀ (i : Nat) (e : Nat × Nat × Option Nat), se[i]? = some e → f ≤ e.2.1 ∨ (many w c (h, m) e.2.1).2 e.1 = e.2.2) → Eqf (frr 33) I I' → EqL FS L L' → (∀ j, j < f - 1 → L' 101 j = lN (rcd w.n (many w c (h, m) (j + 1)).2)) → RW w.n 33 c (many w c (h, m) (f - 1)).1 (many w c (h, m) (f - 1)).2 I' → mj_run (mj_ev (d + 7)) k264 Q (k264 4) [some (.ref 73), some (.int (nI (if b then 1 else 0))), some (.int (nI f)), x3, none, x5] [] (107, I', L', P) 0 0 := by
    refine loop_up ?_ (fun f hf ih => ?_)
    · intro _ b I' L' x3 x5 hb e' eL hL hR'
      refine q_3 rfl ?_
      refine q_0 ?_
      refine q_gtN (by omega) (by omega) (fun hh => ?_) (fun hh => absurd hh (by omega))
      refine q_3 rfl ?_
      refine q_27 (by cases b <;> first | exact Or.inl rfl | exact Or.inr rfl) ?_
      exact kQ (k I' L' e' eL (fun j hj => hL j hj)) (by rw [fin b hb])
    · intro h1 b I' L' x3 x5 hb e' eL hL hR'
      obtain ⟨f', rfl⟩ : ∃ f', f = f' + 1 := ⟨f - 1, by omega⟩
      have L69 : ∀ q, q ≤ se.length → ∀ (b : Bool) I2 L2 y3, (b = true ↔ ∀ (i : Nat) (e : Nat × Nat × Option Nat), se[i]? = some e → (i < q → f' + 1 < e.2.1 ∨ (many w c (h, m) e.2.1).2 e.1 = e.2.2) ∧ (q ≤ i → f' + 1 ≤ e.2.1 ∨ (many w c (h, m) e.2.1).2 e.1 = e.2.2)) → Eqf (frr 33) I I2 → EqL FS L L2 → (∀ j, j < f' + 1 → L2 101 j = lN (rcd w.n (many w c (h, m) (j + 1)).2)) → RW w.n 33 c (many w c (h, m) (f' + 1)).1 (many w c (h, m) (f' + 1)).2 I2 → mj_run (mj_ev (d + 7)) k264 Q (k264 69) [some (.ref 73), some (.int (nI (if b then 1 else 0))), some (.int (nI (f' + 1))), some (.long y3), none, some (.int (nI q))] [] (107, I2, L2, P) 0 0 := by
        refine loop_up ?_ (fun q hq ih2 => ?_)
        · intro b I2 L2 y3 hb e2 eL2 hL2 hR2
          have g52 : I2 73 52 = nI se.length := (e2 73 52 rfl).trans h52
          refine q_3 rfl ?_
          refine q_5 rfl ?_
          first | refine q_31E rfl (by decide) g52 ?_ | refine q_31 rfl (by decide) ?_
          refine q_geN (by omega) (by omega) (fun hh => ?_) (fun hh => absurd hh (by omega))
          first | refine q_inc rfl rfl rfl ?_ | refine q_9 rfl rfl rfl ?_
          refine q_23 ?_
          refine ih (by omega) b I2 L2 _ _ ?_ e2 eL2 hL2 hR2
          rw [hb]
          exact ⟨fun z i e he => ((z i e he).1 (List.getElem?_eq_some_iff.mp he).1).imp (fun z => by omega) id, fun z i e he => ⟨fun _ => (z i e he).imp (fun z => by omega) id, fun hi => absurd (List.getElem?_eq_some_iff.mp he).1 (by omega)⟩⟩
        · intro b I2 L2 y3 hb e2 eL2 hL2 hR2
          have g52 : I2 73 52 = nI se.length := (e2 73 52 rfl).trans h52
          obtain ⟨e, he⟩ : ∃ e, se[q]? = some e := ⟨se[q], List.getElem?_eq_getElem hq⟩
          obtain ⟨s1, s2, s3, s4, s5, s6, s7⟩ := hs.2 q e he
          have s1' : I2 100 (3 * q) = nI e.1 := (e2 100 _ rfl).trans s1
          have s2' : I2 100 (3 * q + 1) = nI e.2.1 := (e2 100 _ rfl).trans s2
          have s3' : I2 100 (3 * q + 2) = mI e.2.2 := (e2 100 _ rfl).trans s3
          have r3 := hR2.mat s4
          have m3 := hR2.m31 s4
          have next : ∀ (b' : Bool), (b' = true ↔ b = true ∧ (e.2.1 ≠ f' + 1 ∨ (many w c (h, m) (f' + 1)).2 e.1 = e.2.2)) → mj_run (mj_ev (d + 7)) k264 Q (k264 69) [some (.ref 73), some (.int (nI (if b' then 1 else 0))), some (.int (nI (f' + 1))), some (.long y3), none, some (.int (nI (q + 1)))] [] (107, I2, L2, P) 0 0 := by
            intro b' hb'
            refine ih2 b' I2 L2 y3 ?_ e2 eL2 hL2 hR2
            rw [hb', hb]
            constructor
            · rintro ⟨z1, z2⟩ i e3 he3
              refine ⟨fun hi => ?_, fun hi => (z1 i e3 he3).2 (by omega)⟩
              by_cases eq : i = q
              · subst eq
                rw [he] at he3
                cases he3
                rcases (z1 i e he).2 (Nat.le_refl _) with z3 | z3
                · rcases z2 with z4 | z4
                  · exact Or.inl (by omega)
                  · by_cases z5 : e.2.1 = f' + 1
                    · rw [z5]
                      exact Or.inr z4
                    · exact Or.inl (by omega)
                · exact Or.inr z3
              · exact (z1 i e3 he3).1 (by omega)
            · intro z
              refine ⟨fun i e3 he3 => ⟨fun hi => (z i e3 he3).1 (by omega), fun hi => ?_⟩, ?_⟩
              · by_cases eq : i = q
                · exact ((z i e3 he3).1 (by omega)).imp (fun z => by omega) id
                · exact (z i e3 he3).2 (by omega)
              · rcases (z q e he).1 (by omega) with z3 | z3
                · exact Or.inl (by omega)
                · by_cases z5 : e.2.1 = f' + 1
                  · rw [z5] at z3
                    exact Or.inr z3
                  · exact Or.inl z5
          cases b with
          | false =>
            refine q_3 rfl ?_
            refine q_5 rfl ?_
            first | refine q_31E rfl (by decide) g52 ?_ | refine q_31 rfl (by decide) ?_
            refine q_geN (by omega) (by omega) (fun hh => absurd hh (by omega)) (fun hh => ?_)
            refine q_3 rfl ?_
            first | refine q_eqN0 (by omega) (fun hh => ?_) (fun hh => absurd hh (by omega)) | refine q_eqI0 (fun hh => ?_) (fun hh => absurd (by decide) hh)
            refine q_0 ?_
            refine q_6 rfl rfl rfl ?_
            first | refine q_inc rfl rfl rfl ?_ | refine q_9 rfl rfl rfl ?_
            refine q_23 ?_
            exact next false ⟨fun z => (by cases z), fun z => z.1⟩
          | true =>
            by_cases hf1 : e.2.1 = f' + 1
            · by_cases hm1 : (many w c (h, m) (f' + 1)).2 e.1 = e.2.2
              · refine q_3 rfl ?_
                refine q_5 rfl ?_
                first | refine q_31E rfl (by decide) g52 ?_ | refine q_31 rfl (by decide) ?_
                refine q_geN (by omega) (by omega) (fun hh => absurd hh (by omega)) (fun hh => ?_)
                refine q_3 rfl ?_
                first | refine q_eqN0 (by omega) (fun hh => absurd hh (by omega)) (fun hh => ?_) | refine q_eqI0 (fun hh => absurd hh (by decide)) (fun hh => ?_)
                refine q_5 rfl ?_
                refine q_33 rfl (by decide) (hP _ _ _ rfl) ?_
                refine q_0 ?_
                refine q_3 rfl ?_
                first | refine q_mul ?_ | refine q_11 rfl ?_
                refine q_0 ?_
                first | refine q_add ?_ | refine q_11 rfl ?_
                first | refine q_38E _ rfl (by decide) rfl (by show _ < 24; omega) (by decide) (s2') ?_ | refine q_38E _ rfl (by decide) rfl (by show _ < 24; omega) (by decide) (s1') ?_ | refine q_38E _ rfl (by decide) rfl (by show _ < 24; omega) (by decide) (s3') ?_ | refine q_38 _ rfl (by decide) rfl (by show _ < 24; omega) (by decide) ?_
                refine q_3 rfl ?_
                refine q_neN (by omega) (by omega) (fun hh => absurd hh (by omega)) (fun hh => ?_)
                refine q_5 rfl ?_
                refine q_33 rfl (by decide) (hP _ _ _ rfl) ?_
                refine q_0 ?_
                refine q_5 rfl ?_
                refine q_33 rfl (by decide) (hP _ _ _ rfl) ?_
                refine q_0 ?_
                refine q_3 rfl ?_
                first | refine q_mul ?_ | refine q_11 rfl ?_
                first | refine q_38E _ rfl (by decide) rfl (by show _ < 24; omega) (by decide) (s2') ?_ | refine q_38E _ rfl (by decide) rfl (by show _ < 24; omega) (by decide) (s1') ?_ | refine q_38E _ rfl (by decide) rfl (by show _ < 24; omega) (by decide) (s3') ?_ | refine q_38 _ rfl (by decide) rfl (by show _ < 24; omega) (by decide) ?_
                first | refine q_add ?_ | refine q_11 rfl ?_
                first | refine q_38E _ rfl (by decide) rfl (by show _ < 66; omega) (by decide) (r3) ?_ | refine q_38 _ rfl (by decide) rfl (by show _ < 66; omega) (by decide) ?_
                refine q_5 rfl ?_
                refine q_33 rfl (by decide) (hP _ _ _ rfl) ?_
                refine q_0 ?_
                refine q_3 rfl ?_
                first | refine q_mul ?_ | refine q_11 rfl ?_
                refine q_0 ?_
                first | refine q_add ?_ | refine q_11 rfl ?_
                first | refine q_38E _ rfl (by decide) rfl (by show _ < 24; omega) (by decide) (s2') ?_ | refine q_38E _ rfl (by decide) rfl (by show _ < 24; omega) (by decide) (s1') ?_ | refine q_38E _ rfl (by decide) rfl (by show _ < 24; omega) (by decide) (s3') ?_ | refine q_38 _ rfl (by decide) rfl (by show _ < 24; omega) (by decide) ?_
                refine q_neI (fun z => absurd (by rw [hm1]) z) (fun _ => ?_)
                refine q_0 ?_
                refine q_23 ?_
                refine q_6 rfl rfl rfl ?_
                first | refine q_inc rfl rfl rfl ?_ | refine q_9 rfl rfl rfl ?_
                refine q_23 ?_
                exact next true ⟨fun _ => ⟨rfl, Or.inr hm1⟩, fun _ => rfl⟩
              · refine q_3 rfl ?_
                refine q_5 rfl ?_
                first | refine q_31E rfl (by decide) g52 ?_ | refine q_31 rfl (by decide) ?_
                refine q_geN (by omega) (by omega) (fun hh => absurd hh (by omega)) (fun hh => ?_)
                refine q_3 rfl ?_
                first | refine q_eqN0 (by omega) (fun hh => absurd hh (by omega)) (fun hh => ?_) | refine q_eqI0 (fun hh => absurd hh (by decide)) (fun hh => ?_)
                refine q_5 rfl ?_
                refine q_33 rfl (by decide) (hP _ _ _ rfl) ?_
                refine q_0 ?_
                refine q_3 rfl ?_
                first | refine q_mul ?_ | refine q_11 rfl ?_
                refine q_0 ?_
                first | refine q_add ?_ | refine q_11 rfl ?_
                first | refine q_38E _ rfl (by decide) rfl (by show _ < 24; omega) (by decide) (s2') ?_ | refine q_38E _ rfl (by decide) rfl (by show _ < 24; omega) (by decide) (s1') ?_ | refine q_38E _ rfl (by decide) rfl (by show _ < 24; omega) (by decide) (s3') ?_ | refine q_38 _ rfl (by decide) rfl (by show _ < 24; omega) (by decide) ?_
                refine q_3 rfl ?_
                refine q_neN (by omega) (by omega) (fun hh => absurd hh (by omega)) (fun hh => ?_)
                refine q_5 rfl ?_
                refine q_33 rfl (by decide) (hP _ _ _ rfl) ?_
                refine q_0 ?_
                refine q_5 rfl ?_
                refine q_33 rfl (by decide) (hP _ _ _ rfl) ?_
                refine q_0 ?_
                refine q_3 rfl ?_
                first | refine q_mul ?_ | refine q_11 rfl ?_
                first | refine q_38E _ rfl (by decide) rfl (by show _ < 24; omega) (by decide) (s2') ?_ | refine q_38E _ rfl (by decide) rfl (by show _ < 24; omega) (by decide) (s1') ?_ | refine q_38E _ rfl (by decide) rfl (by show _ < 24; omega) (by decide) (s3') ?_ | refine q_38 _ rfl (by decide) rfl (by show _ < 24; omega) (by decide) ?_
                first | refine q_add ?_ | refine q_11 rfl ?_
                first | refine q_38E _ rfl (by decide) rfl (by show _ < 66; omega) (by decide) (r3) ?_ | refine q_38 _ rfl (by decide) rfl (by show _ < 66; omega) (by decide) ?_
                refine q_5 rfl ?_
                refine q_33 rfl (by decide) (hP _ _ _ rfl) ?_
                refine q_0 ?_
                refine q_3 rfl ?_
                first | refine q_mul ?_ | refine q_11 rfl ?_
                refine q_0 ?_
                first | refine q_add ?_ | refine q_11 rfl ?_
                first | refine q_38E _ rfl (by decide) rfl (by show _ < 24; omega) (by decide) (s2') ?_ | refine q_38E _ rfl (by decide) rfl (by show _ < 24; omega) (by decide) (s1') ?_ | refine q_38E _ rfl (by decide) rfl (by show _ < 24; omega) (by decide) (s3') ?_ | refine q_38 _ rfl (by decide) rfl (by show _ < 24; omega) (by decide) ?_
                refine q_neI (fun _ => ?_) (fun z => absurd (fun y => hm1 ((mI_inj m3 (fun q e => by have := s7 q e; omega)).mp y)) z)
                refine q_0 ?_
                refine q_6 rfl rfl rfl ?_
                first | refine q_inc rfl rfl rfl ?_ | refine q_9 rfl rfl rfl ?_
                refine q_23 ?_
                exact next false ⟨fun z => (by cases z), fun z => (z.2.elim (fun y => absurd hf1 y) (fun y => absurd y hm1))⟩
            · refine q_3 rfl ?_
              refine q_5 rfl ?_
              first | refine q_31E rfl (by decide) g52 ?_ | refine q_31 rfl (by decide) ?_
              refine q_geN (by omega) (by omega) (fun hh => absurd hh (by omega)) (fun hh => ?_)
              refine q_3 rfl ?_
              first | refine q_eqN0 (by omega) (fun hh => absurd hh (by omega)) (fun hh => ?_) | refine q_eqI0 (fun hh => absurd hh (by decide)) (fun hh => ?_)
              refine q_5 rfl ?_
              refine q_33 rfl (by decide) (hP _ _ _ rfl) ?_
              refine q_0 ?_
              refine q_3 rfl ?_
              first | refine q_mul ?_ | refine q_11 rfl ?_
              refine q_0 ?_
              first | refine q_add ?_ | refine q_11 rfl ?_
              first | refine q_38E _ rfl (by decide) rfl (by show _ < 24; omega) (by decide) (s2') ?_ | refine q_38 _ rfl (by decide) rfl (by show _ < 24; omega) (by decide) ?_
              refine q_3 rfl ?_
              refine q_neN (by omega) (by omega) (fun hh => ?_) (fun hh => absurd hh (by omega))
              refine q_0 ?_
              refine q_23 ?_
              refine q_6 rfl rfl rfl ?_
              first | refine q_inc rfl rfl rfl ?_ | refine q_9 rfl rfl rfl ?_
              refine q_23 ?_
              exact next true ⟨fun _ => ⟨rfl, Or.inl hf1⟩, fun _ => rfl⟩
      have L22 : ∀ I2, Eqf (frr 33) I I2 → RW w.n 33 c (many w c (h, m) (f' + 1)).1 (many w c (h, m) (f' + 1)).2 I2 → ∀ p, p ≤ w.n → ∀ v, fld w.n p (fun v p => 11 * v + mN ((many w c (h, m) (f' + 1)).2 p)) v = rcd w.n (many w c (h, m) (f' + 1)).2 → mj_run (mj_ev (d + 7)) k264 Q (k264 22) [some (.ref 73), some (.int (nI (if b then 1 else 0))), some (.int (nI (f' + 1))), some (.long (lN v)), none, some (.int (nI p))] [] (107, I2, L', P) 0 0 := by
        intro I2 e2 hR2
        have hn := (hW.frr e2).hn
        refine loop_up ?_ (fun p hp ih2 => ?_)
        · intro v hv
          rw [fld_end (Nat.le_refl _)] at hv
          subst hv
          refine q_3 rfl ?_
          refine q_5 rfl ?_
          first | refine q_31E rfl (by decide) hn ?_ | refine q_31 rfl (by decide) ?_
          refine q_geN (by omega) (by omega) (fun hh => ?_) (fun hh => absurd hh (by omega))
          refine q_5 rfl ?_
          refine q_33 rfl (by decide) (hP _ _ _ rfl) ?_
          refine q_3 rfl ?_
          refine q_0 ?_
          first | refine q_sub (by omega) ?_ | refine q_11 rfl ?_
          refine q_4 rfl ?_
          refine q_43 _ rfl (by decide) rfl (by show _ < 20; omega) (by decide) ?_
          refine q_0 ?_
          refine q_6 rfl rfl rfl ?_
          refine L69 0 (by omega) b I2 _ _ ?_ e2 (eL.up rfl) (fun j hj => ?_) hR2
          · rw [hb]
            exact ⟨fun z i e he => ⟨fun hi => absurd hi (by omega), fun _ => z i e he⟩, fun z i e he => (z i e he).2 (by omega)⟩
          · show mj_upL L' 101 (f' + 1 - 1) _ 101 j = _
            rw [show f' + 1 - 1 = f' by omega]
            by_cases ej : j = f'
            · subst ej
              exact upL_s
            · rw [upL_j ej]
              exact hL j (by omega)
        · intro v hv
          rw [fld_step hp] at hv
          have r3 := hR2.mat hp
          have hb10 : mN ((many w c (h, m) (f' + 1)).2 p) < 2 ^ 31 := by
            cases e : (many w c (h, m) (f' + 1)).2 p with
            | none => decide
            | some q =>
              have := (hR2.gm p hp q e).1
              show q + 1 < 2 ^ 31
              omega
          refine q_3 rfl ?_
          refine q_5 rfl ?_
          first | refine q_31E rfl (by decide) hn ?_ | refine q_31 rfl (by decide) ?_
          refine q_geN (by omega) (by omega) (fun hh => absurd hh (by omega)) (fun hh => ?_)
          refine q_2 ?_
          refine q_4 rfl ?_
          refine q_13 rfl ?_
          rw [lN_mul]
          refine q_5 rfl ?_
          refine q_33 rfl (by decide) (hP _ _ _ rfl) ?_
          refine q_0 ?_
          refine q_3 rfl ?_
          first | refine q_add ?_ | refine q_11 rfl ?_
          first | refine q_38E _ rfl (by decide) rfl (by show _ < 66; omega) (by decide) (r3) ?_ | refine q_38 _ rfl (by decide) rfl (by show _ < 66; omega) (by decide) ?_
          refine q_0 ?_
          refine q_11 rfl ?_
          rw [mI_1]
          refine q_15 ?_
          rw [nI_l hb10]
          refine q_13 rfl ?_
          rw [lN_add]
          refine q_7 rfl rfl rfl ?_
          first | refine q_inc rfl rfl rfl ?_ | refine q_9 rfl rfl rfl ?_
          refine q_23 ?_
          exact ih2 _ hv
      refine q_3 rfl ?_
      refine q_0 ?_
      refine q_gtN (by omega) (by omega) (fun hh => absurd hh (by omega)) (fun hh => ?_)
      refine q_5 rfl ?_
      refine q_0 ?_
      refine q_47 (mj_ev_mono _) [_] rfl rfl rfl (by decide) rfl rfl rfl ?_
      refine s_213 hP (by omega) (hW.frr e') hR' (fun I2 e2 hR2 _ => ?_)
      refine q_19 rfl ?_
      refine q_2 ?_
      refine q_7 rfl rfl rfl ?_
      refine q_0 ?_
      refine q_6 rfl rfl rfl ?_
      exact L22 I2 (e'.tr e2) hR2 0 (by omega) 0 rfl
  show mj_run (mj_ev (d + 7)) k264 Q (k264 0) [some (.ref 73), none, none, none, none, none] [] (107, I, L, P) 0 0
  refine q_0 ?_
  refine q_6 rfl rfl rfl ?_
  refine q_0 ?_
  refine q_6 rfl rfl rfl ?_
  exact L4 1 (by omega) (by omega) true I L _ _ ⟨fun _ i e he => Or.inl (hs.2 i e he).2.2.2.2.1, fun _ => rfl⟩ Eqf.rf EqL.rf (fun j hj => absurd hj (by omega)) hR
theorem s_265 {se : SE} {g : Nat} (hP : PS t P) (hW : MT w I) (hR : RW w.n 0 c h m I) (hs : SN w.n (I 100) se) (h52 : I 73 52 = nI se.length) (hg : g < 10 * w.n) (k0 : c (g / 10) = g % 10 → Q (.inl (some (.int (nI 0)))) (107, I, L, P)) (k : ¬ c (g / 10) = g % 10 → ∀ I' L', Eqf (frr 33) I I' → EqL FS L L' → (∀ j, j < 20 → L' 101 j = lN (rwk w c (h, m) g j)) → Q (.inl (some (.int (nI (if sok w (cdy c g) (h, m) se then 1 else 0))))) (107, I', L', P)) : mj_ev (d + 9) 265 [.ref 73, .int (nI g)] (107, I, L, P) Q := by
  refine ⟨rfl, ?_⟩
  have hn10 := hW.n10
  have hp : g / 10 < w.n := by omega
  have r1 := hR.col0 hp
  have r2 := hR.c10 hp
  show mj_run (mj_ev (d + 8)) k265 Q (k265 0) [some (.ref 73), some (.int (nI g)), none] [] (107, I, L, P) 0 0
  refine q_3 rfl ?_
  refine q_0 ?_
  first | refine q_divN (by omega) (by omega) (by omega) ?_ | refine q_div (by assumption) ?_
  refine q_6 rfl rfl rfl ?_
  refine q_5 rfl ?_
  refine q_33 rfl (by decide) (hP _ _ _ rfl) ?_
  refine q_0 ?_
  refine q_3 rfl ?_
  first | refine q_add ?_ | refine q_11 rfl ?_
  first | refine q_38E _ rfl (by decide) rfl (by show _ < 66; omega) (by decide) (r1) ?_ | refine q_38 _ rfl (by decide) rfl (by show _ < 66; omega) (by decide) ?_
  refine q_3 rfl ?_
  refine q_0 ?_
  first | refine q_remN (by omega) (by omega) (by omega) ?_ | refine q_rem (by assumption) ?_
  refine q_neN (by omega) (by omega) (fun h1 => ?_) (fun h1 => ?_)
  · refine q_5 rfl ?_
    refine q_47 (mj_ev_mono _) [] rfl rfl rfl (by decide) rfl rfl rfl ?_
    refine s_200 hP (fun I1 e1 h1c => ?_)
    refine q_5 rfl ?_
    refine q_33 rfl (by decide) (hP _ _ _ rfl) ?_
    refine q_0 ?_
    refine q_3 rfl ?_
    first | refine q_add ?_ | refine q_11 rfl ?_
    refine q_3 rfl ?_
    refine q_0 ?_
    first | refine q_remN (by omega) (by omega) (by omega) ?_ | refine q_rem (by assumption) ?_
    refine q_42 _ rfl (by decide) rfl (by show _ < 66; omega) (by decide) ?_
    refine q_5 rfl ?_
    refine q_47 (mj_ev_mono _) [] rfl rfl rfl (by decide) rfl rfl rfl ?_
    refine s_264 hP (hW.frr (e1.up (frr_in (by omega) (by omega)))) (((hR.cp h1c).cs (p := g / 10) (v := g % 10) hp (by omega)).cg (c' := cdy c g) (fun _ _ => rfl) (fun _ _ => rfl) rfl) (se := se) (by rw [show mj_upI I1 89 (34 + g / 10) (nI (g % 10)) 100 = I 100 from (funext fun j => e1 100 j rfl)]; exact hs) ((e1 73 52 rfl).trans h52) (fun I2 L2 e2 eL2 hL2 => ?_)
    refine q_27 (by first | exact Or.inl rfl | exact Or.inr rfl | assumption | (split <;> first | exact Or.inl rfl | exact Or.inr rfl)) ?_
    exact k h1 I2 L2 ((e1.up (frr_in (by omega) (by omega))).tr e2) eL2 hL2
  · refine q_0 ?_
    refine q_27 (by first | exact Or.inl rfl | exact Or.inr rfl | assumption | (split <;> first | exact Or.inl rfl | exact Or.inr rfl)) ?_
    exact k0 h1
theorem s_266 {x : Nat} (hP : PS t P) (hS : MS A I L) (hx : x ≤ 2) (k : kM Q I L P 0 (.int (sDyed A x))) : mj_ev (d + 12) 266 [.ref 73, .int (nI x)] (107, I, L, P) Q := by
  refine ⟨rfl, ?_⟩
  have hS0 := hS.i0
  have hn10 := hS.n10
  have hsn := hS0.2.1.2.2.2.1
  have h52 : I0 I 73 52 = nI A.se.length := hS0.2.1.2.2.2.2
  have FSL : ∀ {L1 L2 : mj_L}, EqL FS L1 L2 → EqL FL L1 L2 := fun e => e.mono (fun c j q => by
    unfold FS
    unfold FL at q
    cases h1 : (c == 101) with
    | false => rfl
    | true =>
      obtain rfl := eq_of_beq h1
      exact absurd (show true = false from q) (by decide))
  show mj_run (mj_ev (d + 11)) k266 Q (k266 0) [some (.ref 73), some (.int (nI x)), none, none, none] [] (107, I, L, P) 0 0
  by_cases hx2 : x = 2
  · subst hx2
    refine q_5 rfl ?_
    refine q_0 ?_
    refine q_34 rfl (by decide) ?_
    refine q_5 rfl ?_
    refine q_3 rfl ?_
    refine q_0 ?_
    refine q_47 (mj_ev_mono _) [_, _] rfl rfl rfl (by decide) rfl rfl rfl ?_
    refine s_222T I0_th hx (by omega) ?_
    first | refine q_neN0 (by omega) (fun hh => ?_) (fun hh => absurd hh (by omega)) | refine q_neI0 (fun hh => ?_) (fun hh => absurd (by omega) hh)
    refine q_3 rfl ?_
    refine q_0 ?_
    refine q_neN (by omega) (by omega) (fun hh => absurd hh (by omega)) (fun hh => ?_)
    refine q_5 rfl ?_
    refine q_47 (mj_ev_mono _) [] rfl rfl rfl (by decide) rfl rfl rfl ?_
    refine s_200 hP (fun I1 e1 h1c => ?_)
    refine q_5 rfl ?_
    refine q_47 (mj_ev_mono _) [] rfl rfl rfl (by decide) rfl rfl rfl ?_
    refine s_264 hP (hS0.mt.frr e1) (hS0.rw.cp h1c) (se := A.se) (by rw [show I1 100 = I0 I 100 from (funext fun j => e1 100 j rfl)]; exact hsn) ((e1 73 52 rfl).trans h52) (fun I2 L2 e2 eL2 hL2 => ?_)
    refine q_d21_0Nn (J := 37) (by split <;> omega) (fun j => q_0 (j)) (fun j => q_0 (q_23 (j))) ?_
    refine q_26 ?_
    refine k I2 L2 (I0_fm.tr (FM_33 (e1.tr e2))) (FSL eL2) ((e1.tr e2) 73 0 rfl) |> fun z => kQ z ?_
    show nI _ = nI _
    cases sok A.w A.c (A.h, A.m) A.se <;> rfl
  · have L45 : ∀ g, g ≤ 10 * A.w.n → ∀ I' L', Eqf (frr 33) (I0 I) I' → EqL FS L L' → mj_run (mj_ev (d + 11)) k266 Q (k266 45) [some (.ref 73), some (.int (nI x)), some (.int (nI (cntF (gss A.w A.c (A.h, A.m) A.se) g))), some (.int (mI (fnd g 0 (gss A.w A.c (A.h, A.m) A.se)))), some (.int (nI g))] [] (107, I', L', P) 0 0 := by
      refine loop_up ?_ (fun g hg ih => ?_)
      · intro I' L' e' eL
        have hn := (hS0.mt.frr e').hn
        obtain rfl | rfl : x = 0 ∨ x = 1 := by omega
        · refine q_3 rfl ?_
          refine q_0 ?_
          refine q_5 rfl ?_
          first | refine q_31E rfl (by decide) hn ?_ | refine q_31 rfl (by decide) ?_
          first | refine q_mul ?_ | refine q_11 rfl ?_
          refine q_geN (by omega) (by omega) (fun hh => ?_) (fun hh => absurd hh (by omega))
          refine q_3 rfl ?_
          first | refine q_neN0 (by omega) (fun hh => absurd hh (by omega)) (fun hh => ?_) | refine q_neI0 (fun hh => absurd hh (by omega)) (fun hh => ?_)
          refine q_3 rfl ?_
          refine q_23 ?_
          refine q_26 ?_
          exact k I' L' (I0_fm.tr (FM_33 e')) (FSL eL) (e' 73 0 rfl)
        · refine q_3 rfl ?_
          refine q_0 ?_
          refine q_5 rfl ?_
          first | refine q_31E rfl (by decide) hn ?_ | refine q_31 rfl (by decide) ?_
          first | refine q_mul ?_ | refine q_11 rfl ?_
          refine q_geN (by omega) (by omega) (fun hh => ?_) (fun hh => absurd hh (by omega))
          refine q_3 rfl ?_
          first | refine q_neN0 (by omega) (fun hh => ?_) (fun hh => absurd hh (by omega)) | refine q_neI0 (fun hh => ?_) (fun hh => absurd (by omega) hh)
          refine q_3 rfl ?_
          refine q_26 ?_
          exact k I' L' (I0_fm.tr (FM_33 e')) (FSL eL) (e' 73 0 rfl)
      · intro I' L' e' eL
        have hn := (hS0.mt.frr e').hn
        have hc : ∀ {b' : Bool}, gss A.w A.c (A.h, A.m) A.se g = b' → cntF (gss A.w A.c (A.h, A.m) A.se) (g + 1) = cntF (gss A.w A.c (A.h, A.m) A.se) g + (if b' then 1 else 0) := fun q => by rw [← q]; rfl
        have hsu := fnd_succ (p := gss A.w A.c (A.h, A.m) A.se) (n := g) (i := 0) (by omega)
        have hs' : SN A.w.n (I' 100) A.se := by
          rw [show I' 100 = I0 I 100 from funext fun j => e' 100 j rfl]
          exact hsn
        have g52 : I' 73 52 = nI A.se.length := (e' 73 52 rfl).trans h52
        have no : gss A.w A.c (A.h, A.m) A.se g = false → ∀ I2 L2, Eqf (frr 33) (I0 I) I2 → EqL FS L L2 → mj_run (mj_ev (d + 11)) k266 Q (k266 45) [some (.ref 73), some (.int (nI x)), some (.int (nI (cntF (gss A.w A.c (A.h, A.m) A.se) g))), some (.int (mI (fnd g 0 (gss A.w A.c (A.h, A.m) A.se)))), some (.int (nI (g + 1)))] [] (107, I2, L2, P) 0 0 := by
          intro q
          rw [hc q, hsu, q] at ih
          rw [show ((fnd g 0 (gss A.w A.c (A.h, A.m) A.se)).or (if false = true then some g else none)) = fnd g 0 (gss A.w A.c (A.h, A.m) A.se) from by cases fnd g 0 (gss A.w A.c (A.h, A.m) A.se) <;> rfl] at ih
          exact ih
        have yes : gss A.w A.c (A.h, A.m) A.se g = true → ∀ I2 L2, Eqf (frr 33) (I0 I) I2 → EqL FS L L2 → mj_run (mj_ev (d + 11)) k266 Q (k266 69) [some (.ref 73), some (.int (nI x)), some (.int (nI (cntF (gss A.w A.c (A.h, A.m) A.se) g))), some (.int (mI (fnd g 0 (gss A.w A.c (A.h, A.m) A.se)))), some (.int (nI g))] [] (107, I2, L2, P) 0 0 := by
          intro q I2 L2 e2 eL2
          rw [hc q, hsu, q] at ih
          cases hf : fnd g 0 (gss A.w A.c (A.h, A.m) A.se) with
          | none =>
            rw [hf] at ih
            first | refine q_inc rfl rfl rfl ?_ | refine q_9 rfl rfl rfl ?_
            refine q_3 rfl ?_
            refine q_1 ?_
            refine q_neI (fun q => absurd rfl q) (fun _ => ?_)
            refine q_3 rfl ?_
            refine q_6 rfl rfl rfl ?_
            first | refine q_inc rfl rfl rfl ?_ | refine q_9 rfl rfl rfl ?_
            refine q_23 ?_
            exact ih I2 L2 e2 eL2
          | some z =>
            rw [hf] at ih
            have hz := fnd_some hf
            first | refine q_inc rfl rfl rfl ?_ | refine q_9 rfl rfl rfl ?_
            refine q_3 rfl ?_
            refine q_1 ?_
            refine q_neI (fun _ => ?_) (fun q => absurd (mI_ne (by omega)) q)
            first | refine q_inc rfl rfl rfl ?_ | refine q_9 rfl rfl rfl ?_
            refine q_23 ?_
            exact ih I2 L2 e2 eL2
        refine q_3 rfl ?_
        refine q_0 ?_
        refine q_5 rfl ?_
        first | refine q_31E rfl (by decide) hn ?_ | refine q_31 rfl (by decide) ?_
        first | refine q_mul ?_ | refine q_11 rfl ?_
        refine q_geN (by omega) (by omega) (fun hh => absurd hh (by omega)) (fun hh => ?_)
        refine q_5 rfl ?_
        refine q_3 rfl ?_
        refine q_47 (mj_ev_mono _) [_] rfl rfl rfl (by decide) rfl rfl rfl ?_
        refine s_265 hP (hS0.mt.frr e') (hS0.rw.f0 e') hs' g52 hg (fun h1 => ?_) (fun h1 I2 L2 e2 eL2 _ => ?_)
        rotate_left
        · cases hk : sok A.w (cdy A.c g) (A.h, A.m) A.se with
          | false =>
            refine q_neN0 (by decide) (fun q => absurd rfl q) (fun _ => ?_)
            refine q_23 ?_
            refine q_inc rfl rfl rfl ?_
            refine q_23 ?_
            exact no (by unfold gss; simp [hk]) I2 L2 (e'.tr e2) (eL.tr eL2)
          | true =>
            refine q_neN0 (by decide) (fun _ => ?_) (fun q => absurd q (by decide))
            exact yes (by unfold gss; simp [hk, h1]) I2 L2 (e'.tr e2) (eL.tr eL2)
        first | refine q_neN0 (by omega) (fun hh => absurd hh (by omega)) (fun hh => ?_) | refine q_neI0 (fun hh => absurd hh (by omega)) (fun hh => ?_)
        refine q_23 ?_
        first | refine q_inc rfl rfl rfl ?_ | refine q_9 rfl rfl rfl ?_
        refine q_23 ?_
        exact no (by unfold gss; simp [h1]) I' L' e' eL
    refine q_5 rfl ?_
    refine q_0 ?_
    refine q_34 rfl (by decide) ?_
    refine q_5 rfl ?_
    refine q_3 rfl ?_
    refine q_0 ?_
    refine q_47 (mj_ev_mono _) [_, _] rfl rfl rfl (by decide) rfl rfl rfl ?_
    refine s_222T I0_th hx (by omega) ?_
    first | refine q_neN0 (by omega) (fun hh => ?_) (fun hh => absurd hh (by omega)) | refine q_neI0 (fun hh => ?_) (fun hh => absurd (by omega) hh)
    refine q_3 rfl ?_
    refine q_0 ?_
    refine q_neN (by omega) (by omega) (fun hh => ?_) (fun hh => absurd hh (by omega))
    refine q_0 ?_
    refine q_6 rfl rfl rfl ?_
    refine q_1 ?_
    refine q_6 rfl rfl rfl ?_
    refine q_0 ?_
    refine q_6 rfl rfl rfl ?_
    exact L45 0 (by omega) (I0 I) L Eqf.rf EqL.rf
theorem s_266F {x : Int32} (hx : x < nI 0 ∨ nI 2 < x) (k : kM Q I L P 1 (.int (nI 0))) : mj_ev (d + 12) 266 [.ref 73, .int x] (107, I, L, P) Q := by
  refine ⟨rfl, ?_⟩
  show mj_run (mj_ev (d + 11)) k266 Q (k266 0) [some (.ref 73), some (.int x), none, none, none] [] (107, I, L, P) 0 0
  refine q_5 rfl ?_
  refine q_0 ?_
  refine q_34 rfl (by decide) ?_
  refine q_5 rfl ?_
  refine q_3 rfl ?_
  refine q_0 ?_
  refine q_47 (mj_ev_mono _) [_, _] rfl rfl rfl (by decide) rfl rfl rfl ?_
  refine s_222F I0_th hx ?_
  first | refine q_neN0 (by omega) (fun hh => absurd hh (by omega)) (fun hh => ?_) | refine q_neI0 (fun hh => absurd hh (by omega)) (fun hh => ?_)
  refine q_0 ?_
  refine q_26 ?_
  exact k.bad
end M
