/-! the model's calls that only tell (1) -/
theorem kM.bad {Q : mj_Q} {I : mj_I} {L : mj_L} {P : mj_P} {v : Int32} {th : Nat} (k : kM Q I L P th (.int v)) : Q (.inl (some (.int v))) (107, mj_upI (I0 I) 73 0 (nI th), L, P) := k _ _ (I0_fm.up rfl) EqL.rf upI_s
def sCount (A : AS) (a : Nat) : Int32 :=
  if a = 0 then nI A.w.n else if a = 1 then A.y else if a = 2 then nI (maskF (bm A.m) A.w.n) else if a = 3 then nI (sumN A.h A.w.n)
  else if a = 4 then nI (sumN (fun p => cntF (my A.w A.c A.h p) A.w.n) A.w.n / 2) else if a = 5 then nI A.ac.length else if a = 6 then nI A.se.length else if a = 7 then nI A.td else A.rf (a - 8)
def sPerson (A : AS) (p a : Nat) : Int32 :=
  if a = 0 then nI (A.c p) else if a = 1 then nI (A.w.pat p) else if a = 2 then nI (A.w.woo p) else if a = 3 then nI (A.w.siz p) else if a = 4 then nI (A.h p) else if a = 5 then nI (A.w.chm p)
  else if a = 6 then mI (A.m p) else if a = 7 then nI (maskF (my A.w A.c A.h p) A.w.n) else nI (maskF (rth A.w A.c A.h A.m p) A.w.n)
def clsF (al : Nat → Nat → Int32) (a : Nat) (acc : Option (Nat × Nat) × Int32) (b : Nat) : Option (Nat × Nat) × Int32 := if acc.1 = none ∨ acc.2 < al a b then (some (a, b), al a b) else acc
def cls (n : Nat) (al : Nat → Nat → Int32) : Option (Nat × Nat) × Int32 := fld n 0 (fun acc a => fld n (a + 1) (clsF al a) acc) (none, 0)
def tmp (w : WT) (c h : Nat → Nat) (m : MM) (p : Nat) : Bool := (fnd w.n 0 (fun q => rth w c h m p q && rth w c h m q p)).isSome
def fai (w : WT) (c h : Nat → Nat) (m : MM) (p : Nat) : Bool := match m p with
  | none => false
  | some q => decide (p < q) && !tmp w c h m p && !tmp w c h m q
/-- how many are bound behind k FAIRS -/
def bmk (w : WT) (c : Nat → Nat) (s : HM) (k : Nat) : Nat := cntF (bm (many w c s k).2) w.n
def drnF (w : WT) (c : Nat → Nat) (s : HM) (acc : Option Nat × Nat) (p : Nat) : Option Nat × Nat := if acc.2 < bmk w c (fun x => if x = p then 0 else s.1 x, s.2) 5 then (some p, bmk w c (fun x => if x = p then 0 else s.1 x, s.2) 5) else acc
def drn (w : WT) (c : Nat → Nat) (s : HM) : Option Nat × Nat := fld w.n 0 (drnF w c s) (none, bmk w c s 5)
section M
variable {I : mj_I} {L : mj_L} {P : mj_P} {Q : mj_Q} {d n r t a b : Nat} {A : AS}

theorem s_220 (hP : PS t P) (hS : MS A I L) (ha : a ≤ 10) (k : kM Q I L P 0 (.int (sCount A a))) : mj_ev (d + 12) 220 [.ref 73, .int (nI a)] (107, I, L, P) Q := by
  refine ⟨rfl, ?_⟩
  have hS0 := hS.i0
  have hn := hS0.hn
  have hy := hS0.hy
  have i1 : I0 I 73 40 = nI A.ac.length := hS0.2.1.2.2.1
  have i2 : I0 I 73 52 = nI A.se.length := hS0.2.1.2.2.2.2
  have i3 : I0 I 73 10 = nI A.td := hS0.2.2.2.1
  show mj_run (mj_ev (d + 11)) k220 Q (k220 0) [some (.ref 73), some (.int (nI a))] [] (107, I, L, P) 0 0
  obtain rfl | rfl | rfl | rfl | rfl | rfl | rfl | rfl | rfl | rfl | rfl : a = 0 ∨ a = 1 ∨ a = 2 ∨ a = 3 ∨ a = 4 ∨ a = 5 ∨ a = 6 ∨ a = 7 ∨ a = 8 ∨ a = 9 ∨ a = 10 := by omega
  · refine q_5 rfl ?_
    refine q_0 ?_
    refine q_34 rfl (by decide) ?_
    refine q_5 rfl ?_
    refine q_3 rfl ?_
    refine q_0 ?_
    refine q_0 ?_
    refine q_48 (mj_ev_mono _) [_, _, _] rfl rfl rfl rfl rfl ?_
    refine s_164 ?_
    rw [if_neg (by decide), if_neg (by decide)]
    refine q_0 ?_
    refine q_47 (mj_ev_mono _) [_, _] rfl rfl rfl (by decide) rfl rfl rfl ?_
    refine s_163T I0_th ?_
    first | refine q_neN0 (by omega) (fun hh => ?_) (fun hh => absurd hh (by omega)) | refine q_neI0 (fun hh => ?_) (fun hh => absurd (by omega) hh)
    refine q_3 rfl ?_
    refine q_24E (t := 68) (rfl) ?_
    refine q_5 rfl ?_
    first | refine q_31E rfl (by decide) hn ?_ | refine q_31 rfl (by decide) ?_
    refine q_26 ?_
    first | exact k.fin Eqf.rf rfl | exact k.fin (FM_91 e1) rfl (e1 73 0 rfl)
  · refine q_5 rfl ?_
    refine q_0 ?_
    refine q_34 rfl (by decide) ?_
    refine q_5 rfl ?_
    refine q_3 rfl ?_
    refine q_0 ?_
    refine q_0 ?_
    refine q_48 (mj_ev_mono _) [_, _, _] rfl rfl rfl rfl rfl ?_
    refine s_164 ?_
    rw [if_neg (by decide), if_neg (by decide)]
    refine q_0 ?_
    refine q_47 (mj_ev_mono _) [_, _] rfl rfl rfl (by decide) rfl rfl rfl ?_
    refine s_163T I0_th ?_
    first | refine q_neN0 (by omega) (fun hh => ?_) (fun hh => absurd hh (by omega)) | refine q_neI0 (fun hh => ?_) (fun hh => absurd (by omega) hh)
    refine q_3 rfl ?_
    refine q_24E (t := 73) (rfl) ?_
    refine q_5 rfl ?_
    refine q_33 rfl (by decide) (hP _ _ _ rfl) ?_
    refine q_0 ?_
    first | refine q_38E _ rfl (by decide) rfl (by show _ < 66; omega) (by decide) (hy) ?_ | refine q_38 _ rfl (by decide) rfl (by show _ < 66; omega) (by decide) ?_
    refine q_26 ?_
    first | exact k.fin Eqf.rf rfl | exact k.fin (FM_91 e1) rfl (e1 73 0 rfl)
  · refine q_5 rfl ?_
    refine q_0 ?_
    refine q_34 rfl (by decide) ?_
    refine q_5 rfl ?_
    refine q_3 rfl ?_
    refine q_0 ?_
    refine q_0 ?_
    refine q_48 (mj_ev_mono _) [_, _, _] rfl rfl rfl rfl rfl ?_
    refine s_164 ?_
    rw [if_neg (by decide), if_neg (by decide)]
    refine q_0 ?_
    refine q_47 (mj_ev_mono _) [_, _] rfl rfl rfl (by decide) rfl rfl rfl ?_
    refine s_163T I0_th ?_
    first | refine q_neN0 (by omega) (fun hh => ?_) (fun hh => absurd hh (by omega)) | refine q_neI0 (fun hh => ?_) (fun hh => absurd (by omega) hh)
    refine q_3 rfl ?_
    refine q_24E (t := 80) (rfl) ?_
    refine q_5 rfl ?_
    refine q_0 ?_
    refine q_47 (mj_ev_mono _) [_] rfl rfl rfl (by decide) rfl rfl rfl ?_
    refine s_215 hP (by omega) hn hS0.rw ?_
    refine q_26 ?_
    first | exact k.fin Eqf.rf rfl | exact k.fin (FM_91 e1) rfl (e1 73 0 rfl)
  · refine q_5 rfl ?_
    refine q_0 ?_
    refine q_34 rfl (by decide) ?_
    refine q_5 rfl ?_
    refine q_3 rfl ?_
    refine q_0 ?_
    refine q_0 ?_
    refine q_48 (mj_ev_mono _) [_, _, _] rfl rfl rfl rfl rfl ?_
    refine s_164 ?_
    rw [if_neg (by decide), if_neg (by decide)]
    refine q_0 ?_
    refine q_47 (mj_ev_mono _) [_, _] rfl rfl rfl (by decide) rfl rfl rfl ?_
    refine s_163T I0_th ?_
    first | refine q_neN0 (by omega) (fun hh => ?_) (fun hh => absurd hh (by omega)) | refine q_neI0 (fun hh => ?_) (fun hh => absurd (by omega) hh)
    refine q_3 rfl ?_
    refine q_24E (t := 86) (rfl) ?_
    refine q_5 rfl ?_
    refine q_0 ?_
    refine q_47 (mj_ev_mono _) [_] rfl rfl rfl (by decide) rfl rfl rfl ?_
    refine s_216r hP (by omega) hn hS0.rw ?_
    refine q_26 ?_
    first | exact k.fin Eqf.rf rfl | exact k.fin (FM_91 e1) rfl (e1 73 0 rfl)
  · refine q_5 rfl ?_
    refine q_0 ?_
    refine q_34 rfl (by decide) ?_
    refine q_5 rfl ?_
    refine q_3 rfl ?_
    refine q_0 ?_
    refine q_0 ?_
    refine q_48 (mj_ev_mono _) [_, _, _] rfl rfl rfl rfl rfl ?_
    refine s_164 ?_
    rw [if_neg (by decide), if_neg (by decide)]
    refine q_0 ?_
    refine q_47 (mj_ev_mono _) [_, _] rfl rfl rfl (by decide) rfl rfl rfl ?_
    refine s_163T I0_th ?_
    first | refine q_neN0 (by omega) (fun hh => ?_) (fun hh => absurd hh (by omega)) | refine q_neI0 (fun hh => ?_) (fun hh => absurd (by omega) hh)
    refine q_3 rfl ?_
    refine q_24E (t := 92) (rfl) ?_
    refine q_5 rfl ?_
    refine q_47 (mj_ev_mono _) [] rfl rfl rfl (by decide) rfl rfl rfl ?_
    refine s_219 hP hS0.mt hS0.rw (fun I1 e1 => ?_)
    refine q_26 ?_
    first | exact k.fin Eqf.rf rfl | exact k.fin (FM_91 e1) rfl (e1 73 0 rfl)
  · refine q_5 rfl ?_
    refine q_0 ?_
    refine q_34 rfl (by decide) ?_
    refine q_5 rfl ?_
    refine q_3 rfl ?_
    refine q_0 ?_
    refine q_0 ?_
    refine q_48 (mj_ev_mono _) [_, _, _] rfl rfl rfl rfl rfl ?_
    refine s_164 ?_
    rw [if_neg (by decide), if_neg (by decide)]
    refine q_0 ?_
    refine q_47 (mj_ev_mono _) [_, _] rfl rfl rfl (by decide) rfl rfl rfl ?_
    refine s_163T I0_th ?_
    first | refine q_neN0 (by omega) (fun hh => ?_) (fun hh => absurd hh (by omega)) | refine q_neI0 (fun hh => ?_) (fun hh => absurd (by omega) hh)
    refine q_3 rfl ?_
    refine q_24E (t := 97) (rfl) ?_
    refine q_5 rfl ?_
    first | refine q_31E rfl (by decide) i1 ?_ | refine q_31 rfl (by decide) ?_
    refine q_26 ?_
    first | exact k.fin Eqf.rf rfl | exact k.fin (FM_91 e1) rfl (e1 73 0 rfl)
  · refine q_5 rfl ?_
    refine q_0 ?_
    refine q_34 rfl (by decide) ?_
    refine q_5 rfl ?_
    refine q_3 rfl ?_
    refine q_0 ?_
    refine q_0 ?_
    refine q_48 (mj_ev_mono _) [_, _, _] rfl rfl rfl rfl rfl ?_
    refine s_164 ?_
    rw [if_neg (by decide), if_neg (by decide)]
    refine q_0 ?_
    refine q_47 (mj_ev_mono _) [_, _] rfl rfl rfl (by decide) rfl rfl rfl ?_
    refine s_163T I0_th ?_
    first | refine q_neN0 (by omega) (fun hh => ?_) (fun hh => absurd hh (by omega)) | refine q_neI0 (fun hh => ?_) (fun hh => absurd (by omega) hh)
    refine q_3 rfl ?_
    refine q_24E (t := 102) (rfl) ?_
    refine q_5 rfl ?_
    first | refine q_31E rfl (by decide) i2 ?_ | refine q_31 rfl (by decide) ?_
    refine q_26 ?_
    first | exact k.fin Eqf.rf rfl | exact k.fin (FM_91 e1) rfl (e1 73 0 rfl)
  · refine q_5 rfl ?_
    refine q_0 ?_
    refine q_34 rfl (by decide) ?_
    refine q_5 rfl ?_
    refine q_3 rfl ?_
    refine q_0 ?_
    refine q_0 ?_
    refine q_48 (mj_ev_mono _) [_, _, _] rfl rfl rfl rfl rfl ?_
    refine s_164 ?_
    rw [if_neg (by decide), if_neg (by decide)]
    refine q_0 ?_
    refine q_47 (mj_ev_mono _) [_, _] rfl rfl rfl (by decide) rfl rfl rfl ?_
    refine s_163T I0_th ?_
    first | refine q_neN0 (by omega) (fun hh => ?_) (fun hh => absurd hh (by omega)) | refine q_neI0 (fun hh => ?_) (fun hh => absurd (by omega) hh)
    refine q_3 rfl ?_
    refine q_24E (t := 107) (rfl) ?_
    refine q_5 rfl ?_
    first | refine q_31E rfl (by decide) i3 ?_ | refine q_31 rfl (by decide) ?_
    refine q_26 ?_
    first | exact k.fin Eqf.rf rfl | exact k.fin (FM_91 e1) rfl (e1 73 0 rfl)
  · refine q_5 rfl ?_
    refine q_0 ?_
    refine q_34 rfl (by decide) ?_
    refine q_5 rfl ?_
    refine q_3 rfl ?_
    refine q_0 ?_
    refine q_0 ?_
    refine q_48 (mj_ev_mono _) [_, _, _] rfl rfl rfl rfl rfl ?_
    refine s_164 ?_
    rw [if_neg (by decide), if_neg (by decide)]
    refine q_0 ?_
    refine q_47 (mj_ev_mono _) [_, _] rfl rfl rfl (by decide) rfl rfl rfl ?_
    refine s_163T I0_th ?_
    first | refine q_neN0 (by omega) (fun hh => ?_) (fun hh => absurd hh (by omega)) | refine q_neI0 (fun hh => ?_) (fun hh => absurd (by omega) hh)
    refine q_3 rfl ?_
    refine q_24E (t := 112) (rfl) ?_
    refine q_5 rfl ?_
    refine q_33 rfl (by decide) (hP _ _ _ rfl) ?_
    refine q_3 rfl ?_
    refine q_0 ?_
    first | refine q_sub (by omega) ?_ | refine q_11 rfl ?_
    first | refine q_38E _ rfl (by decide) rfl (by show _ < 3; omega) (by decide) (hS0.2.2.2.2.2.2.2.2.1 _ (by omega)) ?_ | refine q_38 _ rfl (by decide) rfl (by show _ < 3; omega) (by decide) ?_
    refine q_26 ?_
    first | exact k.fin Eqf.rf rfl | exact k.fin (FM_91 e1) rfl (e1 73 0 rfl)
  · refine q_5 rfl ?_
    refine q_0 ?_
    refine q_34 rfl (by decide) ?_
    refine q_5 rfl ?_
    refine q_3 rfl ?_
    refine q_0 ?_
    refine q_0 ?_
    refine q_48 (mj_ev_mono _) [_, _, _] rfl rfl rfl rfl rfl ?_
    refine s_164 ?_
    rw [if_neg (by decide), if_neg (by decide)]
    refine q_0 ?_
    refine q_47 (mj_ev_mono _) [_, _] rfl rfl rfl (by decide) rfl rfl rfl ?_
    refine s_163T I0_th ?_
    first | refine q_neN0 (by omega) (fun hh => ?_) (fun hh => absurd hh (by omega)) | refine q_neI0 (fun hh => ?_) (fun hh => absurd (by omega) hh)
    refine q_3 rfl ?_
    refine q_24E (t := 112) (rfl) ?_
    refine q_5 rfl ?_
    refine q_33 rfl (by decide) (hP _ _ _ rfl) ?_
    refine q_3 rfl ?_
    refine q_0 ?_
    first | refine q_sub (by omega) ?_ | refine q_11 rfl ?_
    first | refine q_38E _ rfl (by decide) rfl (by show _ < 3; omega) (by decide) (hS0.2.2.2.2.2.2.2.2.1 _ (by omega)) ?_ | refine q_38 _ rfl (by decide) rfl (by show _ < 3; omega) (by decide) ?_
    refine q_26 ?_
    first | exact k.fin Eqf.rf rfl | exact k.fin (FM_91 e1) rfl (e1 73 0 rfl)
  · refine q_5 rfl ?_
    refine q_0 ?_
    refine q_34 rfl (by decide) ?_
    refine q_5 rfl ?_
    refine q_3 rfl ?_
    refine q_0 ?_
    refine q_0 ?_
    refine q_48 (mj_ev_mono _) [_, _, _] rfl rfl rfl rfl rfl ?_
    refine s_164 ?_
    rw [if_neg (by decide), if_neg (by decide)]
    refine q_0 ?_
    refine q_47 (mj_ev_mono _) [_, _] rfl rfl rfl (by decide) rfl rfl rfl ?_
    refine s_163T I0_th ?_
    first | refine q_neN0 (by omega) (fun hh => ?_) (fun hh => absurd hh (by omega)) | refine q_neI0 (fun hh => ?_) (fun hh => absurd (by omega) hh)
    refine q_3 rfl ?_
    refine q_24E (t := 112) (rfl) ?_
    refine q_5 rfl ?_
    refine q_33 rfl (by decide) (hP _ _ _ rfl) ?_
    refine q_3 rfl ?_
    refine q_0 ?_
    first | refine q_sub (by omega) ?_ | refine q_11 rfl ?_
    first | refine q_38E _ rfl (by decide) rfl (by show _ < 3; omega) (by decide) (hS0.2.2.2.2.2.2.2.2.1 _ (by omega)) ?_ | refine q_38 _ rfl (by decide) rfl (by show _ < 3; omega) (by decide) ?_
    refine q_26 ?_
    first | exact k.fin Eqf.rf rfl | exact k.fin (FM_91 e1) rfl (e1 73 0 rfl)
theorem s_220F {x : Int32} (hx : x < nI 0 ∨ nI 10 < x) (k : kM Q I L P 1 (.int (nI 0))) : mj_ev (d + 12) 220 [.ref 73, .int x] (107, I, L, P) Q := by
  refine ⟨rfl, ?_⟩
  show mj_run (mj_ev (d + 11)) k220 Q (k220 0) [some (.ref 73), some (.int x)] [] (107, I, L, P) 0 0
  refine q_5 rfl ?_
  refine q_0 ?_
  refine q_34 rfl (by decide) ?_
  refine q_5 rfl ?_
  refine q_3 rfl ?_
  refine q_0 ?_
  refine q_0 ?_
  refine q_48 (mj_ev_mono _) [_, _, _] rfl rfl rfl rfl rfl ?_
  refine s_164 ?_
  rw [show (if x < nI 0 then 0 else if nI 10 < x then 0 else 1) = 0 from by rcases hx with h | h <;> simp [h]]
  refine q_0 ?_
  refine q_47 (mj_ev_mono _) [_, _] rfl rfl rfl (by decide) rfl rfl rfl ?_
  refine s_163F I0_th (by omega) (by omega) ?_
  first | refine q_neN0 (by omega) (fun hh => absurd hh (by omega)) (fun hh => ?_) | refine q_neI0 (fun hh => absurd hh (by omega)) (fun hh => ?_)
  refine q_0 ?_
  refine q_26 ?_
  exact k.bad
theorem s_223 (hP : PS t P) (hS : MS A I L) (ha : a < A.w.n) (hb : b ≤ 8) (k : kM Q I L P 0 (.int (sPerson A a b))) : mj_ev (d + 12) 223 [.ref 73, .int (nI a), .int (nI b)] (107, I, L, P) Q := by
  refine ⟨rfl, ?_⟩
  have hS0 := hS.i0
  have hn := hS0.hn
  have hn10 := hS.n10
  obtain ⟨w1, w2, w3, w4⟩ := hS0.mt.2.2.1 a ha
  have r1 := hS0.rw.col0 ha
  have r2 := hS0.rw.hol0 ha
  have r3 := hS0.rw.mat0 ha
  show mj_run (mj_ev (d + 11)) k223 Q (k223 0) [some (.ref 73), some (.int (nI a)), some (.int (nI b))] [] (107, I, L, P) 0 0
  obtain rfl | rfl | rfl | rfl | rfl | rfl | rfl | rfl | rfl : b = 0 ∨ b = 1 ∨ b = 2 ∨ b = 3 ∨ b = 4 ∨ b = 5 ∨ b = 6 ∨ b = 7 ∨ b = 8 := by omega
  · refine q_5 rfl ?_
    refine q_0 ?_
    refine q_34 rfl (by decide) ?_
    refine q_5 rfl ?_
    refine q_3 rfl ?_
    refine q_47 (mj_ev_mono _) [_] rfl rfl rfl (by decide) rfl rfl rfl ?_
    refine s_221T hn hn10 I0_th ha ?_
    first | refine q_eqN0 (by omega) (fun hh => absurd hh (by omega)) (fun hh => ?_) | refine q_eqI0 (fun hh => absurd hh (by omega)) (fun hh => ?_)
    refine q_5 rfl ?_
    refine q_3 rfl ?_
    refine q_0 ?_
    refine q_47 (mj_ev_mono _) [_, _] rfl rfl rfl (by decide) rfl rfl rfl ?_
    refine s_222T I0_th (by omega) (by omega) ?_
    first | refine q_neN0 (by omega) (fun hh => ?_) (fun hh => absurd hh (by omega)) | refine q_neI0 (fun hh => ?_) (fun hh => absurd (by omega) hh)
    refine q_3 rfl ?_
    refine q_24E (t := 72) (rfl) ?_
    refine q_5 rfl ?_
    refine q_33 rfl (by decide) (hP _ _ _ rfl) ?_
    refine q_0 ?_
    refine q_3 rfl ?_
    first | refine q_add ?_ | refine q_11 rfl ?_
    first | refine q_38E _ rfl (by decide) rfl (by show _ < 66; omega) (by decide) (r1) ?_ | refine q_38E _ rfl (by decide) rfl (by show _ < 66; omega) (by decide) (r2) ?_ | refine q_38E _ rfl (by decide) rfl (by show _ < 66; omega) (by decide) (r3) ?_ | refine q_38 _ rfl (by decide) rfl (by show _ < 66; omega) (by decide) ?_
    refine q_26 ?_
    first | exact k.fin Eqf.rf rfl | exact k.fin (FM_91 e1) rfl (e1 73 0 rfl)
  · refine q_5 rfl ?_
    refine q_0 ?_
    refine q_34 rfl (by decide) ?_
    refine q_5 rfl ?_
    refine q_3 rfl ?_
    refine q_47 (mj_ev_mono _) [_] rfl rfl rfl (by decide) rfl rfl rfl ?_
    refine s_221T hn hn10 I0_th ha ?_
    first | refine q_eqN0 (by omega) (fun hh => absurd hh (by omega)) (fun hh => ?_) | refine q_eqI0 (fun hh => absurd hh (by omega)) (fun hh => ?_)
    refine q_5 rfl ?_
    refine q_3 rfl ?_
    refine q_0 ?_
    refine q_47 (mj_ev_mono _) [_, _] rfl rfl rfl (by decide) rfl rfl rfl ?_
    refine s_222T I0_th (by omega) (by omega) ?_
    first | refine q_neN0 (by omega) (fun hh => ?_) (fun hh => absurd hh (by omega)) | refine q_neI0 (fun hh => ?_) (fun hh => absurd (by omega) hh)
    refine q_3 rfl ?_
    refine q_24E (t := 81) (rfl) ?_
    refine q_5 rfl ?_
    refine q_33 rfl (by decide) (hP _ _ _ rfl) ?_
    refine q_3 rfl ?_
    first | refine q_38E _ rfl (by decide) rfl (by show _ < 11; omega) (by decide) (w1) ?_ | refine q_38 _ rfl (by decide) rfl (by show _ < 11; omega) (by decide) ?_
    refine q_26 ?_
    first | exact k.fin Eqf.rf rfl | exact k.fin (FM_91 e1) rfl (e1 73 0 rfl)
  · refine q_5 rfl ?_
    refine q_0 ?_
    refine q_34 rfl (by decide) ?_
    refine q_5 rfl ?_
    refine q_3 rfl ?_
    refine q_47 (mj_ev_mono _) [_] rfl rfl rfl (by decide) rfl rfl rfl ?_
    refine s_221T hn hn10 I0_th ha ?_
    first | refine q_eqN0 (by omega) (fun hh => absurd hh (by omega)) (fun hh => ?_) | refine q_eqI0 (fun hh => absurd hh (by omega)) (fun hh => ?_)
    refine q_5 rfl ?_
    refine q_3 rfl ?_
    refine q_0 ?_
    refine q_47 (mj_ev_mono _) [_, _] rfl rfl rfl (by decide) rfl rfl rfl ?_
    refine s_222T I0_th (by omega) (by omega) ?_
    first | refine q_neN0 (by omega) (fun hh => ?_) (fun hh => absurd hh (by omega)) | refine q_neI0 (fun hh => ?_) (fun hh => absurd (by omega) hh)
    refine q_3 rfl ?_
    refine q_24E (t := 88) (rfl) ?_
    refine q_5 rfl ?_
    refine q_33 rfl (by decide) (hP _ _ _ rfl) ?_
    refine q_3 rfl ?_
    first | refine q_38E _ rfl (by decide) rfl (by show _ < 11; omega) (by decide) (w2) ?_ | refine q_38 _ rfl (by decide) rfl (by show _ < 11; omega) (by decide) ?_
    refine q_26 ?_
    first | exact k.fin Eqf.rf rfl | exact k.fin (FM_91 e1) rfl (e1 73 0 rfl)
  · refine q_5 rfl ?_
    refine q_0 ?_
    refine q_34 rfl (by decide) ?_
    refine q_5 rfl ?_
    refine q_3 rfl ?_
    refine q_47 (mj_ev_mono _) [_] rfl rfl rfl (by decide) rfl rfl rfl ?_
    refine s_221T hn hn10 I0_th ha ?_
    first | refine q_eqN0 (by omega) (fun hh => absurd hh (by omega)) (fun hh => ?_) | refine q_eqI0 (fun hh => absurd hh (by omega)) (fun hh => ?_)
    refine q_5 rfl ?_
    refine q_3 rfl ?_
    refine q_0 ?_
    refine q_47 (mj_ev_mono _) [_, _] rfl rfl rfl (by decide) rfl rfl rfl ?_
    refine s_222T I0_th (by omega) (by omega) ?_
    first | refine q_neN0 (by omega) (fun hh => ?_) (fun hh => absurd hh (by omega)) | refine q_neI0 (fun hh => ?_) (fun hh => absurd (by omega) hh)
    refine q_3 rfl ?_
    refine q_24E (t := 95) (rfl) ?_
    refine q_5 rfl ?_
    refine q_33 rfl (by decide) (hP _ _ _ rfl) ?_
    refine q_3 rfl ?_
    first | refine q_38E _ rfl (by decide) rfl (by show _ < 11; omega) (by decide) (w3) ?_ | refine q_38 _ rfl (by decide) rfl (by show _ < 11; omega) (by decide) ?_
    refine q_26 ?_
    first | exact k.fin Eqf.rf rfl | exact k.fin (FM_91 e1) rfl (e1 73 0 rfl)
  · refine q_5 rfl ?_
    refine q_0 ?_
    refine q_34 rfl (by decide) ?_
    refine q_5 rfl ?_
    refine q_3 rfl ?_
    refine q_47 (mj_ev_mono _) [_] rfl rfl rfl (by decide) rfl rfl rfl ?_
    refine s_221T hn hn10 I0_th ha ?_
    first | refine q_eqN0 (by omega) (fun hh => absurd hh (by omega)) (fun hh => ?_) | refine q_eqI0 (fun hh => absurd hh (by omega)) (fun hh => ?_)
    refine q_5 rfl ?_
    refine q_3 rfl ?_
    refine q_0 ?_
    refine q_47 (mj_ev_mono _) [_, _] rfl rfl rfl (by decide) rfl rfl rfl ?_
    refine s_222T I0_th (by omega) (by omega) ?_
    first | refine q_neN0 (by omega) (fun hh => ?_) (fun hh => absurd hh (by omega)) | refine q_neI0 (fun hh => ?_) (fun hh => absurd (by omega) hh)
    refine q_3 rfl ?_
    refine q_24E (t := 102) (rfl) ?_
    refine q_5 rfl ?_
    refine q_33 rfl (by decide) (hP _ _ _ rfl) ?_
    refine q_0 ?_
    refine q_3 rfl ?_
    first | refine q_add ?_ | refine q_11 rfl ?_
    first | refine q_38E _ rfl (by decide) rfl (by show _ < 66; omega) (by decide) (r1) ?_ | refine q_38E _ rfl (by decide) rfl (by show _ < 66; omega) (by decide) (r2) ?_ | refine q_38E _ rfl (by decide) rfl (by show _ < 66; omega) (by decide) (r3) ?_ | refine q_38 _ rfl (by decide) rfl (by show _ < 66; omega) (by decide) ?_
    refine q_26 ?_
    first | exact k.fin Eqf.rf rfl | exact k.fin (FM_91 e1) rfl (e1 73 0 rfl)
  · refine q_5 rfl ?_
    refine q_0 ?_
    refine q_34 rfl (by decide) ?_
    refine q_5 rfl ?_
    refine q_3 rfl ?_
    refine q_47 (mj_ev_mono _) [_] rfl rfl rfl (by decide) rfl rfl rfl ?_
    refine s_221T hn hn10 I0_th ha ?_
    first | refine q_eqN0 (by omega) (fun hh => absurd hh (by omega)) (fun hh => ?_) | refine q_eqI0 (fun hh => absurd hh (by omega)) (fun hh => ?_)
    refine q_5 rfl ?_
    refine q_3 rfl ?_
    refine q_0 ?_
    refine q_47 (mj_ev_mono _) [_, _] rfl rfl rfl (by decide) rfl rfl rfl ?_
    refine s_222T I0_th (by omega) (by omega) ?_
    first | refine q_neN0 (by omega) (fun hh => ?_) (fun hh => absurd hh (by omega)) | refine q_neI0 (fun hh => ?_) (fun hh => absurd (by omega) hh)
    refine q_3 rfl ?_
    refine q_24E (t := 112) (rfl) ?_
    refine q_5 rfl ?_
    refine q_33 rfl (by decide) (hP _ _ _ rfl) ?_
    refine q_3 rfl ?_
    first | refine q_38E _ rfl (by decide) rfl (by show _ < 11; omega) (by decide) (w4) ?_ | refine q_38 _ rfl (by decide) rfl (by show _ < 11; omega) (by decide) ?_
    refine q_26 ?_
    first | exact k.fin Eqf.rf rfl | exact k.fin (FM_91 e1) rfl (e1 73 0 rfl)
  · refine q_5 rfl ?_
    refine q_0 ?_
    refine q_34 rfl (by decide) ?_
    refine q_5 rfl ?_
    refine q_3 rfl ?_
    refine q_47 (mj_ev_mono _) [_] rfl rfl rfl (by decide) rfl rfl rfl ?_
    refine s_221T hn hn10 I0_th ha ?_
    first | refine q_eqN0 (by omega) (fun hh => absurd hh (by omega)) (fun hh => ?_) | refine q_eqI0 (fun hh => absurd hh (by omega)) (fun hh => ?_)
    refine q_5 rfl ?_
    refine q_3 rfl ?_
    refine q_0 ?_
    refine q_47 (mj_ev_mono _) [_, _] rfl rfl rfl (by decide) rfl rfl rfl ?_
    refine s_222T I0_th (by omega) (by omega) ?_
    first | refine q_neN0 (by omega) (fun hh => ?_) (fun hh => absurd hh (by omega)) | refine q_neI0 (fun hh => ?_) (fun hh => absurd (by omega) hh)
    refine q_3 rfl ?_
    refine q_24E (t := 119) (rfl) ?_
    refine q_5 rfl ?_
    refine q_33 rfl (by decide) (hP _ _ _ rfl) ?_
    refine q_0 ?_
    refine q_3 rfl ?_
    first | refine q_add ?_ | refine q_11 rfl ?_
    first | refine q_38E _ rfl (by decide) rfl (by show _ < 66; omega) (by decide) (r1) ?_ | refine q_38E _ rfl (by decide) rfl (by show _ < 66; omega) (by decide) (r2) ?_ | refine q_38E _ rfl (by decide) rfl (by show _ < 66; omega) (by decide) (r3) ?_ | refine q_38 _ rfl (by decide) rfl (by show _ < 66; omega) (by decide) ?_
    refine q_26 ?_
    first | exact k.fin Eqf.rf rfl | exact k.fin (FM_91 e1) rfl (e1 73 0 rfl)
  · refine q_5 rfl ?_
    refine q_0 ?_
    refine q_34 rfl (by decide) ?_
    refine q_5 rfl ?_
    refine q_3 rfl ?_
    refine q_47 (mj_ev_mono _) [_] rfl rfl rfl (by decide) rfl rfl rfl ?_
    refine s_221T hn hn10 I0_th ha ?_
    first | refine q_eqN0 (by omega) (fun hh => absurd hh (by omega)) (fun hh => ?_) | refine q_eqI0 (fun hh => absurd hh (by omega)) (fun hh => ?_)
    refine q_5 rfl ?_
    refine q_3 rfl ?_
    refine q_0 ?_
    refine q_47 (mj_ev_mono _) [_, _] rfl rfl rfl (by decide) rfl rfl rfl ?_
    refine s_222T I0_th (by omega) (by omega) ?_
    first | refine q_neN0 (by omega) (fun hh => ?_) (fun hh => absurd hh (by omega)) | refine q_neI0 (fun hh => ?_) (fun hh => absurd (by omega) hh)
    refine q_3 rfl ?_
    refine q_24E (t := 129) (rfl) ?_
    refine q_5 rfl ?_
    refine q_3 rfl ?_
    refine q_47 (mj_ev_mono _) [_] rfl rfl rfl (by decide) rfl rfl rfl ?_
    refine s_217 hP hS0.mt hS0.rw ha (fun I1 e1 => ?_)
    refine q_26 ?_
    first | exact k.fin Eqf.rf rfl | exact k.fin (FM_91 e1) rfl (e1 73 0 rfl)
  · refine q_5 rfl ?_
    refine q_0 ?_
    refine q_34 rfl (by decide) ?_
    refine q_5 rfl ?_
    refine q_3 rfl ?_
    refine q_47 (mj_ev_mono _) [_] rfl rfl rfl (by decide) rfl rfl rfl ?_
    refine s_221T hn hn10 I0_th ha ?_
    first | refine q_eqN0 (by omega) (fun hh => absurd hh (by omega)) (fun hh => ?_) | refine q_eqI0 (fun hh => absurd hh (by omega)) (fun hh => ?_)
    refine q_5 rfl ?_
    refine q_3 rfl ?_
    refine q_0 ?_
    refine q_47 (mj_ev_mono _) [_, _] rfl rfl rfl (by decide) rfl rfl rfl ?_
    refine s_222T I0_th (by omega) (by omega) ?_
    first | refine q_neN0 (by omega) (fun hh => ?_) (fun hh => absurd hh (by omega)) | refine q_neI0 (fun hh => ?_) (fun hh => absurd (by omega) hh)
    refine q_3 rfl ?_
    refine q_24E (t := 135) (rfl) ?_
    refine q_5 rfl ?_
    refine q_3 rfl ?_
    refine q_47 (mj_ev_mono _) [_] rfl rfl rfl (by decide) rfl rfl rfl ?_
    refine s_218 hP hS0.mt hS0.rw ha (fun I1 e1 => ?_)
    refine q_26 ?_
    first | exact k.fin Eqf.rf rfl | exact k.fin (FM_91 e1) rfl (e1 73 0 rfl)
theorem s_223F1 {x y : Int32} (hS : MS A I L) (hx : x < 0 ∨ nI A.w.n ≤ x) (k : kM Q I L P 1 (.int (nI 0))) : mj_ev (d + 12) 223 [.ref 73, .int x, .int y] (107, I, L, P) Q := by
  refine ⟨rfl, ?_⟩
  have hS0 := hS.i0
  show mj_run (mj_ev (d + 11)) k223 Q (k223 0) [some (.ref 73), some (.int x), some (.int y)] [] (107, I, L, P) 0 0
  refine q_5 rfl ?_
  refine q_0 ?_
  refine q_34 rfl (by decide) ?_
  refine q_5 rfl ?_
  refine q_3 rfl ?_
  refine q_47 (mj_ev_mono _) [_] rfl rfl rfl (by decide) rfl rfl rfl ?_
  refine s_221F hS0.hn hS.n10 I0_th hx ?_
  first | refine q_eqN0 (by omega) (fun hh => ?_) (fun hh => absurd hh (by omega)) | refine q_eqI0 (fun hh => ?_) (fun hh => absurd (by omega) hh)
  refine q_0 ?_
  refine q_26 ?_
  exact k.bad
theorem s_223F2 {y : Int32} (hS : MS A I L) (ha : a < A.w.n) (hy : y < nI 0 ∨ nI 8 < y) (k : kM Q I L P 1 (.int (nI 0))) : mj_ev (d + 12) 223 [.ref 73, .int (nI a), .int y] (107, I, L, P) Q := by
  refine ⟨rfl, ?_⟩
  have hS0 := hS.i0
  show mj_run (mj_ev (d + 11)) k223 Q (k223 0) [some (.ref 73), some (.int (nI a)), some (.int y)] [] (107, I, L, P) 0 0
  refine q_5 rfl ?_
  refine q_0 ?_
  refine q_34 rfl (by decide) ?_
  refine q_5 rfl ?_
  refine q_3 rfl ?_
  refine q_47 (mj_ev_mono _) [_] rfl rfl rfl (by decide) rfl rfl rfl ?_
  refine s_221T hS0.hn hS.n10 I0_th ha ?_
  first | refine q_eqN0 (by omega) (fun hh => absurd hh (by omega)) (fun hh => ?_) | refine q_eqI0 (fun hh => absurd hh (by omega)) (fun hh => ?_)
  refine q_5 rfl ?_
  refine q_3 rfl ?_
  refine q_0 ?_
  refine q_47 (mj_ev_mono _) [_, _] rfl rfl rfl (by decide) rfl rfl rfl ?_
  refine s_222F I0_th hy ?_
  first | refine q_neN0 (by omega) (fun hh => absurd hh (by omega)) (fun hh => ?_) | refine q_neI0 (fun hh => absurd hh (by omega)) (fun hh => ?_)
  refine q_0 ?_
  refine q_26 ?_
  exact k.bad
theorem s_224 (hP : PS t P) (hS : MS A I L) (ha : a < A.w.n) (hb : b < A.w.n) (k : kM Q I L P 0 (.int (alk A.w A.c A.h a b))) : mj_ev (d + 12) 224 [.ref 73, .int (nI a), .int (nI b)] (107, I, L, P) Q := by
  refine ⟨rfl, ?_⟩
  have hS0 := hS.i0
  have hn := hS0.hn
  show mj_run (mj_ev (d + 11)) k224 Q (k224 0) [some (.ref 73), some (.int (nI a)), some (.int (nI b))] [] (107, I, L, P) 0 0
  refine q_5 rfl ?_
  refine q_0 ?_
  refine q_34 rfl (by decide) ?_
  refine q_5 rfl ?_
  refine q_3 rfl ?_
  refine q_47 (mj_ev_mono _) [_] rfl rfl rfl (by decide) rfl rfl rfl ?_
  refine s_221T hn hS.n10 I0_th ha ?_
  first | refine q_eqN0 (by omega) (fun hh => absurd hh (by omega)) (fun hh => ?_) | refine q_eqI0 (fun hh => absurd hh (by omega)) (fun hh => ?_)
  refine q_5 rfl ?_
  refine q_3 rfl ?_
  refine q_47 (mj_ev_mono _) [_] rfl rfl rfl (by decide) rfl rfl rfl ?_
  refine s_221T hn hS.n10 I0_th hb ?_
  first | refine q_eqN0 (by omega) (fun hh => absurd hh (by omega)) (fun hh => ?_) | refine q_eqI0 (fun hh => absurd hh (by omega)) (fun hh => ?_)
  refine q_5 rfl ?_
  refine q_0 ?_
  refine q_3 rfl ?_
  refine q_3 rfl ?_
  refine q_47 (mj_ev_mono _) [_, _, _] rfl rfl rfl (by decide) rfl rfl rfl ?_
  refine s_205 hP (Nat.zero_le _) hS0.mt hS0.rw ha hb (fun I1 e1 => ?_)
  refine q_23 ?_
  refine q_26 ?_
  exact k.fin (FM_91 e1) rfl (e1 73 0 rfl)
theorem s_224F1 {x y : Int32} (hS : MS A I L) (hx : x < 0 ∨ nI A.w.n ≤ x) (k : kM Q I L P 1 (.int (nI 0))) : mj_ev (d + 12) 224 [.ref 73, .int x, .int y] (107, I, L, P) Q := by
  refine ⟨rfl, ?_⟩
  have hS0 := hS.i0
  show mj_run (mj_ev (d + 11)) k224 Q (k224 0) [some (.ref 73), some (.int x), some (.int y)] [] (107, I, L, P) 0 0
  refine q_5 rfl ?_
  refine q_0 ?_
  refine q_34 rfl (by decide) ?_
  refine q_5 rfl ?_
  refine q_3 rfl ?_
  refine q_47 (mj_ev_mono _) [_] rfl rfl rfl (by decide) rfl rfl rfl ?_
  refine s_221F hS0.hn hS.n10 I0_th hx ?_
  first | refine q_eqN0 (by omega) (fun hh => ?_) (fun hh => absurd hh (by omega)) | refine q_eqI0 (fun hh => ?_) (fun hh => absurd (by omega) hh)
  refine q_0 ?_
  refine q_26 ?_
  exact k.bad
theorem s_224F2 {y : Int32} (hS : MS A I L) (ha : a < A.w.n) (hy : y < 0 ∨ nI A.w.n ≤ y) (k : kM Q I L P 1 (.int (nI 0))) : mj_ev (d + 12) 224 [.ref 73, .int (nI a), .int y] (107, I, L, P) Q := by
  refine ⟨rfl, ?_⟩
  have hS0 := hS.i0
  show mj_run (mj_ev (d + 11)) k224 Q (k224 0) [some (.ref 73), some (.int (nI a)), some (.int y)] [] (107, I, L, P) 0 0
  refine q_5 rfl ?_
  refine q_0 ?_
  refine q_34 rfl (by decide) ?_
  refine q_5 rfl ?_
  refine q_3 rfl ?_
  refine q_47 (mj_ev_mono _) [_] rfl rfl rfl (by decide) rfl rfl rfl ?_
  refine s_221T hS0.hn hS.n10 I0_th ha ?_
  first | refine q_eqN0 (by omega) (fun hh => absurd hh (by omega)) (fun hh => ?_) | refine q_eqI0 (fun hh => absurd hh (by omega)) (fun hh => ?_)
  refine q_5 rfl ?_
  refine q_3 rfl ?_
  refine q_47 (mj_ev_mono _) [_] rfl rfl rfl (by decide) rfl rfl rfl ?_
  refine s_221F hS0.hn hS.n10 I0_th hy ?_
  first | refine q_eqN0 (by omega) (fun hh => ?_) (fun hh => absurd hh (by omega)) | refine q_eqI0 (fun hh => ?_) (fun hh => absurd (by omega) hh)
  refine q_0 ?_
  refine q_26 ?_
  exact k.bad
theorem s_225 (hP : PS t P) (hS : MS A I L) (ha : a < A.w.n) (hb : b < A.w.n) (k : kM Q I L P 0 (.int (lik A.w A.c A.h a b))) : mj_ev (d + 12) 225 [.ref 73, .int (nI a), .int (nI b)] (107, I, L, P) Q := by
  refine ⟨rfl, ?_⟩
  have hS0 := hS.i0
  have hn := hS0.hn
  show mj_run (mj_ev (d + 11)) k225 Q (k225 0) [some (.ref 73), some (.int (nI a)), some (.int (nI b))] [] (107, I, L, P) 0 0
  refine q_5 rfl ?_
  refine q_0 ?_
  refine q_34 rfl (by decide) ?_
  refine q_5 rfl ?_
  refine q_3 rfl ?_
  refine q_47 (mj_ev_mono _) [_] rfl rfl rfl (by decide) rfl rfl rfl ?_
  refine s_221T hn hS.n10 I0_th ha ?_
  first | refine q_eqN0 (by omega) (fun hh => absurd hh (by omega)) (fun hh => ?_) | refine q_eqI0 (fun hh => absurd hh (by omega)) (fun hh => ?_)
  refine q_5 rfl ?_
  refine q_3 rfl ?_
  refine q_47 (mj_ev_mono _) [_] rfl rfl rfl (by decide) rfl rfl rfl ?_
  refine s_221T hn hS.n10 I0_th hb ?_
  first | refine q_eqN0 (by omega) (fun hh => absurd hh (by omega)) (fun hh => ?_) | refine q_eqI0 (fun hh => absurd hh (by omega)) (fun hh => ?_)
  refine q_5 rfl ?_
  refine q_3 rfl ?_
  refine q_3 rfl ?_
  refine q_47 (mj_ev_mono _) [_, _] rfl rfl rfl (by decide) rfl rfl rfl ?_
  refine s_207 hP hS0.mt hS0.rw ha hb (fun I1 e1 => ?_)
  refine q_23 ?_
  refine q_26 ?_
  exact k.fin (FM_91 e1) rfl (e1 73 0 rfl)
theorem s_225F1 {x y : Int32} (hS : MS A I L) (hx : x < 0 ∨ nI A.w.n ≤ x) (k : kM Q I L P 1 (.int (nI 0))) : mj_ev (d + 12) 225 [.ref 73, .int x, .int y] (107, I, L, P) Q := by
  refine ⟨rfl, ?_⟩
  have hS0 := hS.i0
  show mj_run (mj_ev (d + 11)) k225 Q (k225 0) [some (.ref 73), some (.int x), some (.int y)] [] (107, I, L, P) 0 0
  refine q_5 rfl ?_
  refine q_0 ?_
  refine q_34 rfl (by decide) ?_
  refine q_5 rfl ?_
  refine q_3 rfl ?_
  refine q_47 (mj_ev_mono _) [_] rfl rfl rfl (by decide) rfl rfl rfl ?_
  refine s_221F hS0.hn hS.n10 I0_th hx ?_
  first | refine q_eqN0 (by omega) (fun hh => ?_) (fun hh => absurd hh (by omega)) | refine q_eqI0 (fun hh => ?_) (fun hh => absurd (by omega) hh)
  refine q_0 ?_
  refine q_26 ?_
  exact k.bad
theorem s_225F2 {y : Int32} (hS : MS A I L) (ha : a < A.w.n) (hy : y < 0 ∨ nI A.w.n ≤ y) (k : kM Q I L P 1 (.int (nI 0))) : mj_ev (d + 12) 225 [.ref 73, .int (nI a), .int y] (107, I, L, P) Q := by
  refine ⟨rfl, ?_⟩
  have hS0 := hS.i0
  show mj_run (mj_ev (d + 11)) k225 Q (k225 0) [some (.ref 73), some (.int (nI a)), some (.int y)] [] (107, I, L, P) 0 0
  refine q_5 rfl ?_
  refine q_0 ?_
  refine q_34 rfl (by decide) ?_
  refine q_5 rfl ?_
  refine q_3 rfl ?_
  refine q_47 (mj_ev_mono _) [_] rfl rfl rfl (by decide) rfl rfl rfl ?_
  refine s_221T hS0.hn hS.n10 I0_th ha ?_
  first | refine q_eqN0 (by omega) (fun hh => absurd hh (by omega)) (fun hh => ?_) | refine q_eqI0 (fun hh => absurd hh (by omega)) (fun hh => ?_)
  refine q_5 rfl ?_
  refine q_3 rfl ?_
  refine q_47 (mj_ev_mono _) [_] rfl rfl rfl (by decide) rfl rfl rfl ?_
  refine s_221F hS0.hn hS.n10 I0_th hy ?_
  first | refine q_eqN0 (by omega) (fun hh => ?_) (fun hh => absurd hh (by omega)) | refine q_eqI0 (fun hh => ?_) (fun hh => absurd (by omega) hh)
  refine q_0 ?_
  refine q_26 ?_
  exact k.bad
theorem s_233F {x : Int32} (hS : MS A I L) (hx : x < 0 ∨ nI A.w.n ≤ x) (k : kM Q I L P 1 (.int (nI 0))) : mj_ev (d + 12) 233 [.ref 73, .int x] (107, I, L, P) Q := by
  refine ⟨rfl, ?_⟩
  have hS0 := hS.i0
  show mj_run (mj_ev (d + 11)) k233 Q (k233 0) [some (.ref 73), some (.int x), none] [] (107, I, L, P) 0 0
  refine q_5 rfl ?_
  refine q_0 ?_
  refine q_34 rfl (by decide) ?_
  refine q_5 rfl ?_
  refine q_3 rfl ?_
  refine q_47 (mj_ev_mono _) [_] rfl rfl rfl (by decide) rfl rfl rfl ?_
  refine s_221F hS0.hn hS.n10 I0_th hx ?_
  first | refine q_neN0 (by omega) (fun hh => absurd hh (by omega)) (fun hh => ?_) | refine q_neI0 (fun hh => absurd hh (by omega)) (fun hh => ?_)
  refine q_0 ?_
  refine q_26 ?_
  exact k.bad
theorem s_234F {x : Int32} (hS : MS A I L) (hx : x < 0 ∨ nI A.w.n ≤ x) (k : kM Q I L P 1 (.int (nI 0))) : mj_ev (d + 12) 234 [.ref 73, .int x] (107, I, L, P) Q := by
  refine ⟨rfl, ?_⟩
  have hS0 := hS.i0
  show mj_run (mj_ev (d + 11)) k234 Q (k234 0) [some (.ref 73), some (.int x)] [] (107, I, L, P) 0 0
  refine q_5 rfl ?_
  refine q_0 ?_
  refine q_34 rfl (by decide) ?_
  refine q_5 rfl ?_
  refine q_3 rfl ?_
  refine q_47 (mj_ev_mono _) [_] rfl rfl rfl (by decide) rfl rfl rfl ?_
  refine s_221F hS0.hn hS.n10 I0_th hx ?_
  first | refine q_eqN0 (by omega) (fun hh => ?_) (fun hh => absurd hh (by omega)) | refine q_eqI0 (fun hh => ?_) (fun hh => absurd (by omega) hh)
  refine q_0 ?_
  refine q_26 ?_
  exact k.bad
theorem s_241F {x : Int32} (hS : MS A I L) (hx : x < 0 ∨ nI A.w.n ≤ x) (k : kM Q I L P 1 (.int (nI 0))) : mj_ev (d + 12) 241 [.ref 73, .int x] (107, I, L, P) Q := by
  refine ⟨rfl, ?_⟩
  have hS0 := hS.i0
  show mj_run (mj_ev (d + 11)) k241 Q (k241 0) [some (.ref 73), some (.int x), none] [] (107, I, L, P) 0 0
  refine q_5 rfl ?_
  refine q_0 ?_
  refine q_34 rfl (by decide) ?_
  refine q_5 rfl ?_
  refine q_3 rfl ?_
  refine q_47 (mj_ev_mono _) [_] rfl rfl rfl (by decide) rfl rfl rfl ?_
  refine s_221F hS0.hn hS.n10 I0_th hx ?_
  first | refine q_neN0 (by omega) (fun hh => absurd hh (by omega)) (fun hh => ?_) | refine q_neI0 (fun hh => absurd hh (by omega)) (fun hh => ?_)
  refine q_0 ?_
  refine q_26 ?_
  exact k.bad
theorem s_234 (hP : PS t P) (hS : MS A I L) (ha : a < A.w.n) (k : kM Q I L P 0 (.int (nI (9 - A.h a)))) : mj_ev (d + 12) 234 [.ref 73, .int (nI a)] (107, I, L, P) Q := by
  refine ⟨rfl, ?_⟩
  have hS0 := hS.i0
  have hn10 := hS.n10
  have r2 := hS0.rw.hol0 ha
  have r3 := hS0.rw.h10 ha
  show mj_run (mj_ev (d + 11)) k234 Q (k234 0) [some (.ref 73), some (.int (nI a))] [] (107, I, L, P) 0 0
  refine q_5 rfl ?_
  refine q_0 ?_
  refine q_34 rfl (by decide) ?_
  refine q_5 rfl ?_
  refine q_3 rfl ?_
  refine q_47 (mj_ev_mono _) [_] rfl rfl rfl (by decide) rfl rfl rfl ?_
  refine s_221T hS0.hn hS.n10 I0_th ha ?_
  first | refine q_eqN0 (by omega) (fun hh => absurd hh (by omega)) (fun hh => ?_) | refine q_eqI0 (fun hh => absurd hh (by omega)) (fun hh => ?_)
  refine q_0 ?_
  refine q_5 rfl ?_
  refine q_33 rfl (by decide) (hP _ _ _ rfl) ?_
  refine q_0 ?_
  refine q_3 rfl ?_
  first | refine q_add ?_ | refine q_11 rfl ?_
  first | refine q_38E _ rfl (by decide) rfl (by show _ < 66; omega) (by decide) (r2) ?_ | refine q_38 _ rfl (by decide) rfl (by show _ < 66; omega) (by decide) ?_
  first | refine q_sub (by omega) ?_ | refine q_11 rfl ?_
  refine q_23 ?_
  refine q_26 ?_
  exact k.fin Eqf.rf rfl
theorem s_232 {N : Nat} (hP : PS t P) (hS : MS A I L) (ha : a < A.w.n) (hN : N ≤ 30) (k : kM Q I L P 0 (.int (mI ((many A.w A.c (A.h, A.m) N).2 a)))) : mj_ev (d + 12) 232 [.ref 73, .int (nI a), .int (nI N)] (107, I, L, P) Q := by
  refine ⟨rfl, ?_⟩
  have hS0 := hS.i0
  have hn10 := hS.n10
  show mj_run (mj_ev (d + 11)) k232 Q (k232 0) [some (.ref 73), some (.int (nI a)), some (.int (nI N))] [] (107, I, L, P) 0 0
  refine q_5 rfl ?_
  refine q_0 ?_
  refine q_34 rfl (by decide) ?_
  refine q_5 rfl ?_
  refine q_3 rfl ?_
  refine q_47 (mj_ev_mono _) [_] rfl rfl rfl (by decide) rfl rfl rfl ?_
  refine s_221T hS0.hn hS.n10 I0_th ha ?_
  first | refine q_eqN0 (by omega) (fun hh => absurd hh (by omega)) (fun hh => ?_) | refine q_eqI0 (fun hh => absurd hh (by omega)) (fun hh => ?_)
  refine q_5 rfl ?_
  refine q_3 rfl ?_
  refine q_0 ?_
  refine q_47 (mj_ev_mono _) [_, _] rfl rfl rfl (by decide) rfl rfl rfl ?_
  refine s_231T I0_th hN ?_
  first | refine q_neN0 (by omega) (fun hh => ?_) (fun hh => absurd hh (by omega)) | refine q_neI0 (fun hh => ?_) (fun hh => absurd (by omega) hh)
  refine q_5 rfl ?_
  refine q_3 rfl ?_
  refine q_47 (mj_ev_mono _) [_] rfl rfl rfl (by decide) rfl rfl rfl ?_
  refine s_214 hP (by omega) hS0.mt hS0.rw (fun I1 e1 hR1 => ?_)
  have r3 := hR1.mat ha
  refine q_5 rfl ?_
  refine q_33 rfl (by decide) (hP _ _ _ rfl) ?_
  refine q_0 ?_
  refine q_3 rfl ?_
  first | refine q_add ?_ | refine q_11 rfl ?_
  first | refine q_38E _ rfl (by decide) rfl (by show _ < 66; omega) (by decide) (r3) ?_ | refine q_38 _ rfl (by decide) rfl (by show _ < 66; omega) (by decide) ?_
  refine q_26 ?_
  exact k.fin (FM_33 e1) rfl (e1 73 0 rfl)
theorem s_232F1 {x y : Int32} (hS : MS A I L) (hx : x < 0 ∨ nI A.w.n ≤ x) (k : kM Q I L P 1 (.int (nI 0))) : mj_ev (d + 12) 232 [.ref 73, .int x, .int y] (107, I, L, P) Q := by
  refine ⟨rfl, ?_⟩
  have hS0 := hS.i0
  show mj_run (mj_ev (d + 11)) k232 Q (k232 0) [some (.ref 73), some (.int x), some (.int y)] [] (107, I, L, P) 0 0
  refine q_5 rfl ?_
  refine q_0 ?_
  refine q_34 rfl (by decide) ?_
  refine q_5 rfl ?_
  refine q_3 rfl ?_
  refine q_47 (mj_ev_mono _) [_] rfl rfl rfl (by decide) rfl rfl rfl ?_
  refine s_221F hS0.hn hS.n10 I0_th hx ?_
  first | refine q_eqN0 (by omega) (fun hh => ?_) (fun hh => absurd hh (by omega)) | refine q_eqI0 (fun hh => ?_) (fun hh => absurd (by omega) hh)
  refine q_0 ?_
  refine q_26 ?_
  exact k.bad
theorem s_232F2 {y : Int32} (hS : MS A I L) (ha : a < A.w.n) (hy : y < nI 0 ∨ nI 30 < y) (k : kM Q I L P 2 (.int (nI 0))) : mj_ev (d + 12) 232 [.ref 73, .int (nI a), .int y] (107, I, L, P) Q := by
  refine ⟨rfl, ?_⟩
  have hS0 := hS.i0
  show mj_run (mj_ev (d + 11)) k232 Q (k232 0) [some (.ref 73), some (.int (nI a)), some (.int y)] [] (107, I, L, P) 0 0
  refine q_5 rfl ?_
  refine q_0 ?_
  refine q_34 rfl (by decide) ?_
  refine q_5 rfl ?_
  refine q_3 rfl ?_
  refine q_47 (mj_ev_mono _) [_] rfl rfl rfl (by decide) rfl rfl rfl ?_
  refine s_221T hS0.hn hS.n10 I0_th ha ?_
  first | refine q_eqN0 (by omega) (fun hh => absurd hh (by omega)) (fun hh => ?_) | refine q_eqI0 (fun hh => absurd hh (by omega)) (fun hh => ?_)
  refine q_5 rfl ?_
  refine q_3 rfl ?_
  refine q_0 ?_
  refine q_47 (mj_ev_mono _) [_, _] rfl rfl rfl (by decide) rfl rfl rfl ?_
  refine s_231F (by omega) (by omega) I0_th hy ?_
  first | refine q_neN0 (by omega) (fun hh => absurd hh (by omega)) (fun hh => ?_) | refine q_neI0 (fun hh => absurd hh (by omega)) (fun hh => ?_)
  refine q_0 ?_
  refine q_26 ?_
  exact k.bad
theorem s_233 (hP : PS t P) (hS : MS A I L) (ha : a < A.w.n) (k : kM Q I L P 0 (.int (mI (fnd 31 0 (fun j => bm (many A.w A.c (A.h, A.m) j).2 a))))) : mj_ev (d + 12) 233 [.ref 73, .int (nI a)] (107, I, L, P) Q := by
  refine ⟨rfl, ?_⟩
  have hS0 := hS.i0
  have hn10 := hS.n10
  have L21 : ∀ i, i ≤ 31 → ∀ I', Eqf (frr 33) (I0 I) I' → RW A.w.n 33 A.c (many A.w A.c (A.h, A.m) i).1 (many A.w A.c (A.h, A.m) i).2 I' → fnd 31 i (fun j => bm (many A.w A.c (A.h, A.m) j).2 a) = fnd 31 0 (fun j => bm (many A.w A.c (A.h, A.m) j).2 a) → mj_run (mj_ev (d + 11)) k233 Q (k233 21) [some (.ref 73), some (.int (nI a)), some (.int (nI i))] [] (107, I', L, P) 0 0 := by
    refine loop_up ?_ (fun i hi ih => ?_)
    · intro I' e' hR' hf
      rw [fnd_end (Nat.le_refl _)] at hf
      refine q_3 rfl ?_
      refine q_0 ?_
      refine q_gtN (by omega) (by omega) (fun hh => ?_) (fun hh => absurd hh (by omega))
      refine q_1 ?_
      refine q_26 ?_
      exact k.fin (FM_33 e') (by rw [← hf]; rfl) (e' 73 0 rfl)
    · intro I' e' hR' hf
      have r3 := hR'.mat ha
      have m1 := hR'.m31 ha
      refine q_3 rfl ?_
      refine q_0 ?_
      refine q_gtN (by omega) (by omega) (fun hh => absurd hh (by omega)) (fun hh => ?_)
      refine q_5 rfl ?_
      refine q_33 rfl (by decide) (hP _ _ _ rfl) ?_
      refine q_0 ?_
      refine q_3 rfl ?_
      first | refine q_add ?_ | refine q_11 rfl ?_
      first | refine q_38E _ rfl (by decide) rfl (by show _ < 66; omega) (by decide) (r3) ?_ | refine q_38 _ rfl (by decide) rfl (by show _ < 66; omega) (by decide) ?_
      refine q_1 ?_
      refine q_eqM m1 (fun h1 => ?_) (fun h1 => ?_)
      · refine q_5 rfl ?_
        refine q_0 ?_
        refine q_47 (mj_ev_mono _) [_] rfl rfl rfl (by decide) rfl rfl rfl ?_
        refine s_213 hP (by omega) (hS0.mt.frr e') hR' (fun I2 e2 hR2 _ => ?_)
        refine q_19 rfl ?_
        first | refine q_inc rfl rfl rfl ?_ | refine q_9 rfl rfl rfl ?_
        refine q_23 ?_
        rw [fnd_no hi (by unfold bm; exact decide_eq_false (fun q => q h1))] at hf
        exact ih I2 (e'.tr e2) hR2 hf
      · refine q_3 rfl ?_
        refine q_26 ?_
        rw [fnd_yes hi (by unfold bm; exact decide_eq_true h1)] at hf
        exact k.fin (FM_33 e') (by rw [← hf]; rfl) (e' 73 0 rfl)
  show mj_run (mj_ev (d + 11)) k233 Q (k233 0) [some (.ref 73), some (.int (nI a)), none] [] (107, I, L, P) 0 0
  refine q_5 rfl ?_
  refine q_0 ?_
  refine q_34 rfl (by decide) ?_
  refine q_5 rfl ?_
  refine q_3 rfl ?_
  refine q_47 (mj_ev_mono _) [_] rfl rfl rfl (by decide) rfl rfl rfl ?_
  refine s_221T hS0.hn hS.n10 I0_th ha ?_
  first | refine q_neN0 (by omega) (fun hh => ?_) (fun hh => absurd hh (by omega)) | refine q_neI0 (fun hh => ?_) (fun hh => absurd (by omega) hh)
  refine q_5 rfl ?_
  refine q_47 (mj_ev_mono _) [] rfl rfl rfl (by decide) rfl rfl rfl ?_
  refine s_200 hP (fun I1 e1 h1 => ?_)
  refine q_0 ?_
  refine q_6 rfl rfl rfl ?_
  exact L21 0 (by omega) I1 e1 (hS0.rw.cp h1) rfl
theorem s_241 (hP : PS t P) (hS : MS A I L) (ha : a < A.w.n) (k : kM Q I L P 0 (.int (mI (if A.m a = none then none else fnd 31 1 (fun j => !bm (many A.w A.c (A.h, A.m) j).2 a))))) : mj_ev (d + 12) 241 [.ref 73, .int (nI a)] (107, I, L, P) Q := by
  refine ⟨rfl, ?_⟩
  have hS0 := hS.i0
  have hn10 := hS.n10
  have r3 := hS0.rw.mat0 ha
  have m1 := hS0.rw.m31 ha
  have L36 : ¬ A.m a = none → ∀ i, i ≤ 31 → 1 ≤ i → ∀ I', Eqf (frr 33) (I0 I) I' → RW A.w.n 33 A.c (many A.w A.c (A.h, A.m) (i - 1)).1 (many A.w A.c (A.h, A.m) (i - 1)).2 I' → fnd 31 i (fun j => !bm (many A.w A.c (A.h, A.m) j).2 a) = fnd 31 1 (fun j => !bm (many A.w A.c (A.h, A.m) j).2 a) → mj_run (mj_ev (d + 11)) k241 Q (k241 36) [some (.ref 73), some (.int (nI a)), some (.int (nI i))] [] (107, I', L, P) 0 0 := by
    intro hne
    rw [if_neg hne] at k
    refine loop_up ?_ (fun i hi ih => ?_)
    · intro _ I' e' hR' hf
      rw [fnd_end (Nat.le_refl _)] at hf
      refine q_3 rfl ?_
      refine q_0 ?_
      refine q_gtN (by omega) (by omega) (fun hh => ?_) (fun hh => absurd hh (by omega))
      refine q_1 ?_
      refine q_26 ?_
      exact k.fin (FM_33 e') (by rw [← hf]; rfl) (e' 73 0 rfl)
    · intro h1i I' e' hR' hf
      refine q_3 rfl ?_
      refine q_0 ?_
      refine q_gtN (by omega) (by omega) (fun hh => absurd hh (by omega)) (fun hh => ?_)
      refine q_5 rfl ?_
      refine q_0 ?_
      refine q_47 (mj_ev_mono _) [_] rfl rfl rfl (by decide) rfl rfl rfl ?_
      refine s_213 hP (by omega) (hS0.mt.frr e') hR' (fun I2 e2 hR2 _ => ?_)
      have hR3 : RW A.w.n 33 A.c (many A.w A.c (A.h, A.m) i).1 (many A.w A.c (A.h, A.m) i).2 I2 := by
        obtain ⟨j, rfl⟩ : ∃ j, i = j + 1 := ⟨i - 1, by omega⟩
        exact hR2
      have r3 := hR3.mat ha
      have m1 := hR3.m31 ha
      refine q_19 rfl ?_
      refine q_5 rfl ?_
      refine q_33 rfl (by decide) (hP _ _ _ rfl) ?_
      refine q_0 ?_
      refine q_3 rfl ?_
      first | refine q_add ?_ | refine q_11 rfl ?_
      first | refine q_38E _ rfl (by decide) rfl (by show _ < 66; omega) (by decide) (r3) ?_ | refine q_38 _ rfl (by decide) rfl (by show _ < 66; omega) (by decide) ?_
      refine q_1 ?_
      refine q_neM m1 (fun h1 => ?_) (fun h1 => ?_)
      · first | refine q_inc rfl rfl rfl ?_ | refine q_9 rfl rfl rfl ?_
        refine q_23 ?_
        rw [fnd_no hi (by unfold bm; simp [h1])] at hf
        exact ih (by omega) I2 (e'.tr e2) hR3 hf
      · refine q_3 rfl ?_
        refine q_26 ?_
        rw [fnd_yes hi (by unfold bm; simp [h1])] at hf
        exact k.fin (FM_33 (e'.tr e2)) (by rw [← hf]; rfl) ((e'.tr e2) 73 0 rfl)
  show mj_run (mj_ev (d + 11)) k241 Q (k241 0) [some (.ref 73), some (.int (nI a)), none] [] (107, I, L, P) 0 0
  refine q_5 rfl ?_
  refine q_0 ?_
  refine q_34 rfl (by decide) ?_
  refine q_5 rfl ?_
  refine q_3 rfl ?_
  refine q_47 (mj_ev_mono _) [_] rfl rfl rfl (by decide) rfl rfl rfl ?_
  refine s_221T hS0.hn hS.n10 I0_th ha ?_
  first | refine q_neN0 (by omega) (fun hh => ?_) (fun hh => absurd hh (by omega)) | refine q_neI0 (fun hh => ?_) (fun hh => absurd (by omega) hh)
  refine q_5 rfl ?_
  refine q_33 rfl (by decide) (hP _ _ _ rfl) ?_
  refine q_0 ?_
  refine q_3 rfl ?_
  first | refine q_add ?_ | refine q_11 rfl ?_
  first | refine q_38E _ rfl (by decide) rfl (by show _ < 66; omega) (by decide) (r3) ?_ | refine q_38 _ rfl (by decide) rfl (by show _ < 66; omega) (by decide) ?_
  refine q_1 ?_
  refine q_neM m1 (fun h1 => ?_) (fun h1 => ?_)
  · refine q_5 rfl ?_
    refine q_47 (mj_ev_mono _) [] rfl rfl rfl (by decide) rfl rfl rfl ?_
    refine s_200 hP (fun I1 e1 h1c => ?_)
    refine q_0 ?_
    refine q_6 rfl rfl rfl ?_
    exact L36 h1 1 (by omega) (by omega) I1 e1 (hS0.rw.cp h1c) rfl
  · refine q_1 ?_
    refine q_26 ?_
    exact k.fin Eqf.rf (by rw [if_pos h1]; rfl)
theorem s_235 {N : Nat} (hP : PS t P) (hS : MS A I L) (hN : N ≤ 30) (k : kM Q I L P 0 (.int (nI (bmk A.w A.c (A.h, A.m) N / 2)))) : mj_ev (d + 12) 235 [.ref 73, .int (nI N)] (107, I, L, P) Q := by
  refine ⟨rfl, ?_⟩
  have hS0 := hS.i0
  have hn10 := hS.n10
  have hb : bmk A.w A.c (A.h, A.m) N ≤ A.w.n := cntF_le _ _
  show mj_run (mj_ev (d + 11)) k235 Q (k235 0) [some (.ref 73), some (.int (nI N))] [] (107, I, L, P) 0 0
  refine q_5 rfl ?_
  refine q_0 ?_
  refine q_34 rfl (by decide) ?_
  refine q_5 rfl ?_
  refine q_3 rfl ?_
  refine q_0 ?_
  refine q_47 (mj_ev_mono _) [_, _] rfl rfl rfl (by decide) rfl rfl rfl ?_
  refine s_231T I0_th hN ?_
  first | refine q_neN0 (by omega) (fun hh => ?_) (fun hh => absurd hh (by omega)) | refine q_neI0 (fun hh => ?_) (fun hh => absurd (by omega) hh)
  refine q_5 rfl ?_
  refine q_3 rfl ?_
  refine q_47 (mj_ev_mono _) [_] rfl rfl rfl (by decide) rfl rfl rfl ?_
  refine s_214 hP (by omega) hS0.mt hS0.rw (fun I1 e1 hR1 => ?_)
  refine q_5 rfl ?_
  refine q_0 ?_
  refine q_47 (mj_ev_mono _) [_] rfl rfl rfl (by decide) rfl rfl rfl ?_
  refine s_215 hP (by omega) (hS0.mt.frr e1).hn hR1 ?_
  refine q_48 (mj_ev_mono _) [_] rfl rfl rfl rfl rfl ?_
  refine s_166 hn10 ?_
  refine q_0 ?_
  refine q_divN (show bmk A.w A.c (A.h, A.m) N < 2 ^ 31 by omega) (by omega) (by omega) ?_
  refine q_26 ?_
  exact k.fin (FM_33 e1) rfl (e1 73 0 rfl)
theorem s_236 {N : Nat} (hP : PS t P) (hS : MS A I L) (hN : N ≤ 30) (k : kM Q I L P 0 (.int (nI (maskF (fun p => !bm (many A.w A.c (A.h, A.m) N).2 p) A.w.n)))) : mj_ev (d + 12) 236 [.ref 73, .int (nI N)] (107, I, L, P) Q := by
  refine ⟨rfl, ?_⟩
  have hS0 := hS.i0
  have hn10 := hS.n10
  have h2 := Nat.two_pow_pos A.w.n
  show mj_run (mj_ev (d + 11)) k236 Q (k236 0) [some (.ref 73), some (.int (nI N))] [] (107, I, L, P) 0 0
  refine q_5 rfl ?_
  refine q_0 ?_
  refine q_34 rfl (by decide) ?_
  refine q_5 rfl ?_
  refine q_3 rfl ?_
  refine q_0 ?_
  refine q_47 (mj_ev_mono _) [_, _] rfl rfl rfl (by decide) rfl rfl rfl ?_
  refine s_231T I0_th hN ?_
  first | refine q_neN0 (by omega) (fun hh => ?_) (fun hh => absurd hh (by omega)) | refine q_neI0 (fun hh => ?_) (fun hh => absurd (by omega) hh)
  refine q_5 rfl ?_
  refine q_3 rfl ?_
  refine q_47 (mj_ev_mono _) [_] rfl rfl rfl (by decide) rfl rfl rfl ?_
  refine s_214 hP (by omega) hS0.mt hS0.rw (fun I1 e1 hR1 => ?_)
  have hn := (hS0.mt.frr e1).hn
  refine q_0 ?_
  refine q_5 rfl ?_
  first | refine q_31E rfl (by decide) hn ?_ | refine q_31 rfl (by decide) ?_
  first | refine q_shl1 (by omega) ?_ | refine q_11 rfl ?_
  refine q_0 ?_
  first | refine q_sub (by omega) ?_ | refine q_11 rfl ?_
  refine q_5 rfl ?_
  refine q_0 ?_
  refine q_47 (mj_ev_mono _) [_] rfl rfl rfl (by decide) rfl rfl rfl ?_
  refine s_215 hP (by omega) (hS0.mt.frr e1).hn hR1 ?_
  refine q_andnot ?_
  refine q_26 ?_
  exact k.fin (FM_33 e1) (by rw [mask_all, mask_diff]; rfl) (e1 73 0 rfl)
theorem s_235F {x : Int32} (hx : x < nI 0 ∨ nI 30 < x) (k : kM Q I L P 1 (.int (nI 0))) : mj_ev (d + 12) 235 [.ref 73, .int x] (107, I, L, P) Q := by
  refine ⟨rfl, ?_⟩
  show mj_run (mj_ev (d + 11)) k235 Q (k235 0) [some (.ref 73), some (.int x)] [] (107, I, L, P) 0 0
  refine q_5 rfl ?_
  refine q_0 ?_
  refine q_34 rfl (by decide) ?_
  refine q_5 rfl ?_
  refine q_3 rfl ?_
  refine q_0 ?_
  refine q_47 (mj_ev_mono _) [_, _] rfl rfl rfl (by decide) rfl rfl rfl ?_
  refine s_231F (by omega) (by omega) I0_th hx ?_
  first | refine q_neN0 (by omega) (fun hh => absurd hh (by omega)) (fun hh => ?_) | refine q_neI0 (fun hh => absurd hh (by omega)) (fun hh => ?_)
  refine q_0 ?_
  refine q_26 ?_
  exact k.bad
theorem s_236F {x : Int32} (hx : x < nI 0 ∨ nI 30 < x) (k : kM Q I L P 1 (.int (nI 0))) : mj_ev (d + 12) 236 [.ref 73, .int x] (107, I, L, P) Q := by
  refine ⟨rfl, ?_⟩
  show mj_run (mj_ev (d + 11)) k236 Q (k236 0) [some (.ref 73), some (.int x)] [] (107, I, L, P) 0 0
  refine q_5 rfl ?_
  refine q_0 ?_
  refine q_34 rfl (by decide) ?_
  refine q_5 rfl ?_
  refine q_3 rfl ?_
  refine q_0 ?_
  refine q_47 (mj_ev_mono _) [_, _] rfl rfl rfl (by decide) rfl rfl rfl ?_
  refine s_231F (by omega) (by omega) I0_th hx ?_
  first | refine q_neN0 (by omega) (fun hh => absurd hh (by omega)) (fun hh => ?_) | refine q_neI0 (fun hh => absurd hh (by omega)) (fun hh => ?_)
  refine q_0 ?_
  refine q_26 ?_
  exact k.bad
theorem s_238 (hP : PS t P) (hS : MS A I L) (k : kM Q I L P 0 (.int (nI (maskF (fun p => decide (maskF (my A.w A.c A.h p) A.w.n = 0)) A.w.n)))) : mj_ev (d + 12) 238 [.ref 73] (107, I, L, P) Q := by
  refine ⟨rfl, ?_⟩
  have hS0 := hS.i0
  have hn10 := hS.n10
  have L9 : ∀ i, i ≤ A.w.n → ∀ I', Eqf (frm [91, 92] []) (I0 I) I' → mj_run (mj_ev (d + 11)) k238 Q (k238 9) [some (.ref 73), some (.int (nI (maskF (fun p => decide (maskF (my A.w A.c A.h p) A.w.n = 0)) i))), some (.int (nI i))] [] (107, I', L, P) 0 0 := by
    refine loop_up ?_ (fun i hi ih => ?_)
    · intro I' e'
      have hn := (hS0.mt.f91 e').hn
      refine q_3 rfl ?_
      refine q_5 rfl ?_
      first | refine q_31E rfl (by decide) hn ?_ | refine q_31 rfl (by decide) ?_
      refine q_geN (by omega) (by omega) (fun hh => ?_) (fun hh => absurd hh (by omega))
      refine q_3 rfl ?_
      refine q_26 ?_
      exact k.fin (FM_91 e') rfl (e' 73 0 rfl)
    · intro I' e'
      have hn := (hS0.mt.f91 e').hn
      refine q_3 rfl ?_
      refine q_5 rfl ?_
      first | refine q_31E rfl (by decide) hn ?_ | refine q_31 rfl (by decide) ?_
      refine q_geN (by omega) (by omega) (fun hh => absurd hh (by omega)) (fun hh => ?_)
      refine q_3 rfl ?_
      refine q_5 rfl ?_
      refine q_3 rfl ?_
      refine q_47 (mj_ev_mono _) [_] rfl rfl rfl (by decide) rfl rfl rfl ?_
      refine s_217 hP (hS0.mt.f91 e') (hS0.rw.f91 e') hi (fun I2 e2 => ?_)
      refine q_d21_1Nn (J := 33) (mask_lt31 _ hn10) (fun j => q_0 (j)) (fun j => q_0 (q_3 rfl (q_shl1 (by omega) (q_23 (j))))) ?_
      refine q_orN ?_
      rw [mask_acc1 (p := fun p => decide (maskF (my A.w A.c A.h p) A.w.n = 0)) (by simp)]
      refine q_6 rfl rfl rfl ?_
      refine q_inc rfl rfl rfl ?_
      refine q_23 ?_
      exact ih I2 (e'.tr e2)
  show mj_run (mj_ev (d + 11)) k238 Q (k238 0) [some (.ref 73), none, none] [] (107, I, L, P) 0 0
  refine q_5 rfl ?_
  refine q_0 ?_
  refine q_34 rfl (by decide) ?_
  refine q_0 ?_
  refine q_6 rfl rfl rfl ?_
  refine q_0 ?_
  refine q_6 rfl rfl rfl ?_
  exact L9 0 (by omega) (I0 I) Eqf.rf
theorem s_237 (hP : PS t P) (hS : MS A I L) (k : kM Q I L P 0 (.int (bI (cls A.w.n (alk A.w A.c A.h)).1))) : mj_ev (d + 12) 237 [.ref 73] (107, I, L, P) Q := by
  refine ⟨rfl, ?_⟩
  have hS0 := hS.i0
  have hn10 := hS.n10
  have ok : ∀ (x : Option (Nat × Nat)), (∀ q, x = some q → q.1 < 10 ∧ q.2 < 10) → (bI x = -(nI 1) ↔ x = none) := by
    intro x hx
    cases x with
    | none => exact ⟨fun _ => rfl, fun _ => rfl⟩
    | some q =>
      have := hx q rfl
      exact ⟨fun e => absurd e (mI_ne (by omega)), fun e => by cases e⟩
  have L11 : ∀ a, a ≤ A.w.n → ∀ (acc : Option (Nat × Nat) × Int32) (I' : mj_I) (x4 x5 : Option Value), (∀ q, acc.1 = some q → q.1 < 10 ∧ q.2 < 10) → Eqf (frm [91, 92] []) (I0 I) I' → fld A.w.n a (fun acc a => fld A.w.n (a + 1) (clsF (alk A.w A.c A.h) a) acc) acc = cls A.w.n (alk A.w A.c A.h) → mj_run (mj_ev (d + 11)) k237 Q (k237 11) [some (.ref 73), some (.int (bI acc.1)), some (.int acc.2), some (.int (nI a)), x4, x5] [] (107, I', L, P) 0 0 := by
    refine loop_up ?_ (fun a ha ih => ?_)
    · intro acc I' x4 x5 hq e' hf
      rw [fld_end (Nat.le_refl _)] at hf
      subst hf
      have hn := (hS0.mt.f91 e').hn
      refine q_3 rfl ?_
      refine q_5 rfl ?_
      first | refine q_31E rfl (by decide) hn ?_ | refine q_31 rfl (by decide) ?_
      refine q_geN (by omega) (by omega) (fun hh => ?_) (fun hh => absurd hh (by omega))
      refine q_3 rfl ?_
      refine q_26 ?_
      exact k.fin (FM_91 e') rfl (e' 73 0 rfl)
    · have L24 : ∀ b, b ≤ A.w.n → a + 1 ≤ b → ∀ (acc : Option (Nat × Nat) × Int32) (I' : mj_I) (x5 : Option Value), (∀ q, acc.1 = some q → q.1 < 10 ∧ q.2 < 10) → Eqf (frm [91, 92] []) (I0 I) I' → fld A.w.n (a + 1) (fun acc a => fld A.w.n (a + 1) (clsF (alk A.w A.c A.h) a) acc) (fld A.w.n b (clsF (alk A.w A.c A.h) a) acc) = cls A.w.n (alk A.w A.c A.h) → mj_run (mj_ev (d + 11)) k237 Q (k237 24) [some (.ref 73), some (.int (bI acc.1)), some (.int acc.2), some (.int (nI a)), some (.int (nI b)), x5] [] (107, I', L, P) 0 0 := by
        refine loop_up ?_ (fun b hb ih2 => ?_)
        · intro _ acc I' x5 hq e' hf
          rw [fld_end (Nat.le_refl _)] at hf
          have hn := (hS0.mt.f91 e').hn
          refine q_3 rfl ?_
          refine q_5 rfl ?_
          first | refine q_31E rfl (by decide) hn ?_ | refine q_31 rfl (by decide) ?_
          refine q_geN (by omega) (by omega) (fun hh => ?_) (fun hh => absurd hh (by omega))
          first | refine q_inc rfl rfl rfl ?_ | refine q_9 rfl rfl rfl ?_
          refine q_23 ?_
          exact ih acc I' _ _ hq e' hf
        · intro hab acc I' x5 hq e' hf
          have hn := (hS0.mt.f91 e').hn
          rw [fld_step hb] at hf
          have yes : (acc.1 = none ∨ acc.2 < alk A.w A.c A.h a b) → clsF (alk A.w A.c A.h) a acc b = (some (a, b), alk A.w A.c A.h a b) := fun q => if_pos q
          have no : ¬ (acc.1 = none ∨ acc.2 < alk A.w A.c A.h a b) → clsF (alk A.w A.c A.h) a acc b = acc := fun q => if_neg q
          refine q_3 rfl ?_
          refine q_5 rfl ?_
          first | refine q_31E rfl (by decide) hn ?_ | refine q_31 rfl (by decide) ?_
          refine q_geN (by omega) (by omega) (fun hh => absurd hh (by omega)) (fun hh => ?_)
          refine q_5 rfl ?_
          refine q_0 ?_
          refine q_3 rfl ?_
          refine q_3 rfl ?_
          refine q_47 (mj_ev_mono _) [_, _, _] rfl rfl rfl (by decide) rfl rfl rfl ?_
          refine s_205 hP (by omega) (hS0.mt.f91 e') (hS0.rw.f91 e') ha hb (fun I2 e2 => ?_)
          refine q_6 rfl rfl rfl ?_
          refine q_3 rfl ?_
          refine q_1 ?_
          refine q_eqI (fun h1 => ?_) (fun h1 => ?_)
          · refine q_0 ?_
            refine q_3 rfl ?_
            first | refine q_mul ?_ | refine q_11 rfl ?_
            refine q_3 rfl ?_
            first | refine q_add ?_ | refine q_11 rfl ?_
            refine q_6 rfl rfl rfl ?_
            refine q_3 rfl ?_
            refine q_6 rfl rfl rfl ?_
            first | refine q_inc rfl rfl rfl ?_ | refine q_9 rfl rfl rfl ?_
            refine q_23 ?_
            first | (rw [yes (Or.inl ((ok _ hq).mp h1))] at hf; exact ih2 (by omega) (some (a, b), alk A.w A.c A.h a b) I2 _ (fun q e => by cases e; exact ⟨by show a < 10; omega, by show b < 10; omega⟩) (e'.tr e2) hf) | (rw [yes (Or.inr h2)] at hf; exact ih2 (by omega) (some (a, b), alk A.w A.c A.h a b) I2 _ (fun q e => by cases e; exact ⟨by show a < 10; omega, by show b < 10; omega⟩) (e'.tr e2) hf) | (rw [no (fun q => q.elim (fun q => h1 ((ok _ hq).mpr q)) h2)] at hf; exact ih2 (by omega) acc I2 _ hq (e'.tr e2) hf)
          · refine q_3 rfl ?_
            refine q_3 rfl ?_
            refine q_gtI (fun h2 => ?_) (fun h2 => ?_)
            · refine q_0 ?_
              refine q_3 rfl ?_
              first | refine q_mul ?_ | refine q_11 rfl ?_
              refine q_3 rfl ?_
              first | refine q_add ?_ | refine q_11 rfl ?_
              refine q_6 rfl rfl rfl ?_
              refine q_3 rfl ?_
              refine q_6 rfl rfl rfl ?_
              first | refine q_inc rfl rfl rfl ?_ | refine q_9 rfl rfl rfl ?_
              refine q_23 ?_
              first | (rw [yes (Or.inl ((ok _ hq).mp h1))] at hf; exact ih2 (by omega) (some (a, b), alk A.w A.c A.h a b) I2 _ (fun q e => by cases e; exact ⟨by show a < 10; omega, by show b < 10; omega⟩) (e'.tr e2) hf) | (rw [yes (Or.inr h2)] at hf; exact ih2 (by omega) (some (a, b), alk A.w A.c A.h a b) I2 _ (fun q e => by cases e; exact ⟨by show a < 10; omega, by show b < 10; omega⟩) (e'.tr e2) hf) | (rw [no (fun q => q.elim (fun q => h1 ((ok _ hq).mpr q)) h2)] at hf; exact ih2 (by omega) acc I2 _ hq (e'.tr e2) hf)
            · refine q_23 ?_
              first | refine q_inc rfl rfl rfl ?_ | refine q_9 rfl rfl rfl ?_
              refine q_23 ?_
              first | (rw [yes (Or.inl ((ok _ hq).mp h1))] at hf; exact ih2 (by omega) (some (a, b), alk A.w A.c A.h a b) I2 _ (fun q e => by cases e; exact ⟨by show a < 10; omega, by show b < 10; omega⟩) (e'.tr e2) hf) | (rw [yes (Or.inr h2)] at hf; exact ih2 (by omega) (some (a, b), alk A.w A.c A.h a b) I2 _ (fun q e => by cases e; exact ⟨by show a < 10; omega, by show b < 10; omega⟩) (e'.tr e2) hf) | (rw [no (fun q => q.elim (fun q => h1 ((ok _ hq).mpr q)) h2)] at hf; exact ih2 (by omega) acc I2 _ hq (e'.tr e2) hf)
      intro acc I' x4 x5 hq e' hf
      rw [fld_step ha] at hf
      have hn := (hS0.mt.f91 e').hn
      refine q_3 rfl ?_
      refine q_5 rfl ?_
      first | refine q_31E rfl (by decide) hn ?_ | refine q_31 rfl (by decide) ?_
      refine q_geN (by omega) (by omega) (fun hh => absurd hh (by omega)) (fun hh => ?_)
      refine q_3 rfl ?_
      refine q_0 ?_
      first | refine q_add ?_ | refine q_11 rfl ?_
      refine q_6 rfl rfl rfl ?_
      exact L24 (a + 1) (by omega) (Nat.le_refl _) acc I' _ hq e' hf
  show mj_run (mj_ev (d + 11)) k237 Q (k237 0) [some (.ref 73), none, none, none, none, none] [] (107, I, L, P) 0 0
  refine q_5 rfl ?_
  refine q_0 ?_
  refine q_34 rfl (by decide) ?_
  refine q_1 ?_
  refine q_6 rfl rfl rfl ?_
  refine q_0 ?_
  refine q_6 rfl rfl rfl ?_
  refine q_0 ?_
  refine q_6 rfl rfl rfl ?_
  exact L11 0 (by omega) (none, 0) (I0 I) _ _ (fun q e => by cases e) Eqf.rf rfl
end M
