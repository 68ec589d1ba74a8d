/-! the model reads an EXPR -/
def XF4 : List (Nat × Nat) := [(73, 11), (73, 12), (73, 15), (73, 16), (73, 17), (73, 18), (73, 19), (73, 20), (73, 25), (73, 28), (73, 29)]
/-- no FAULT so far -/
def GD (I : mj_I) : Prop := I 73 11 = nI 0 ∧ I 73 12 = -(nI 1)
theorem GD.tk {I I' : mj_I} (h : GD I) (e : Eqf (frm [] tkF) I I') : GD I' := ⟨(e 73 11 rfl).trans h.1, (e 73 12 rfl).trans h.2⟩
def XS0 (b : Nat → Nat) (n j : Nat) (W : List Nat) (dp : Nat) (ts : Nat → Bool) (O : List Nat) (I : mj_I) (L : mj_L) : Prop := MB b n I ∧ TM b n j I L ∧ GD I ∧ (I 73 28 = nI W.length ∧ wst (I 87) W ∧ (∀ a, a ∈ W → act a)) ∧ (I 73 29 = nI dp ∧ 1 ≤ dp ∧ dp ≤ 6 ∧ ∀ i, 1 ≤ i → i ≤ dp → I 88 i = nI (if ts i then 1 else 0)) ∧ (I 73 25 = nI O.length ∧ OUT O (I 86))
def XB (b : Nat → Nat) (n j : Nat) (W O : List Nat) : Prop := O.length + W.length + 2 ≤ 2 * tkp b n j ∧ W.length ≤ tkp b n j
/-- a FAULT was found -/
def XFl (b : Nat → Nat) (n c jf : Nat) (I : mj_I) : Prop := 0 < c ∧ c < 10 ∧ I 73 11 = nI c ∧ I 73 12 = nI (tB b n jf) ∧ ∃ (W : List Nat) (o : Nat), I 73 28 = nI W.length ∧ wst (I 87) W ∧ (∀ a, a ∈ W → act a) ∧ W.length ≤ 900 ∧ I 73 25 = nI o ∧ o + W.length + 1 ≤ 1400
theorem nb0 : vp_nar .boolean (nI 0) = nI 0 := by first | rfl | decide | simp [vp_nar]
theorem nb1 : vp_nar .boolean (nI 1) = nI 1 := by first | rfl | decide | simp [vp_nar]
theorem out_any (f : Nat → Int32) (o : Nat) : ∃ O : List Nat, O.length = o ∧ OUT O f := by
  refine ⟨(List.range o).map (fun i => (f i).toBitVec.toNat), by simp, fun i v hv => ?_⟩
  rw [List.getElem?_map] at hv
  by_cases q : i < o
  · rw [List.getElem?_range q] at hv
    cases hv
    apply Int32.toBitVec_inj.mp
    apply BitVec.eq_of_toNat_eq
    rw [pk_tn (f i).toBitVec.isLt]
  · rw [List.getElem?_eq_none (by simp; omega)] at hv
    cases hv
theorem wst_dpr {f : Nat → Int32} {l : Nat} : ∀ {W : List Nat}, wst f W → wst f (dpr l W)
  | [], h => h
  | a :: W, h => by
    unfold dpr
    split
    · exact wst_dpr h.2
    · exact h
theorem dpr_mem {l a : Nat} : ∀ {W : List Nat}, a ∈ dpr l W → a ∈ W
  | [], h => h
  | x :: W, h => by
    unfold dpr at h
    split at h
    · exact List.mem_cons_of_mem _ (dpr_mem h)
    · exact h
theorem mk18 {k : Nat} : mk k = some 18 ↔ k = 9 := by
  unfold mk
  constructor
  · intro h
    split at h
    · rename_i q
      have e : mw k = 18 := Option.some.inj h
      have := (cw_mw k q).1
      rw [e] at this
      exact this.symm
    · cases h
  · rintro rfl
    rfl
theorem mk_lt {k v : Nat} (h : mk k = some v) : k < 19 ∧ v < 19 := by
  unfold mk at h
  split at h
  · rename_i q
    have e : mw k = v := Option.some.inj h
    exact ⟨q, by rw [← e]; exact (cw_mw k q).2⟩
  · cases h
theorem mk31 {k : Nat} : ∀ q, mk k = some q → q < 2 ^ 31 := fun q hq => by
  have := (mk_lt hq).2
  omega
section X
variable {b : Nat → Nat} {n j : Nat} {W O : List Nat} {dp : Nat} {ts : Nat → Bool} {I I' : mj_I} {L L' : mj_L}
theorem TM.fr (h : TM b n j I L) (e : ∀ q, q = 15 ∨ q = 16 ∨ q = 17 ∨ q = 18 ∨ q = 19 ∨ q = 20 → I' 73 q = I 73 q) (eL : L' 73 21 = L 73 21) : TM b n j I' L' := by
  obtain ⟨h1, h2, h3, h4, h5, h6, h7⟩ := h
  exact ⟨(e 15 (by omega)).trans h1, (e 16 (by omega)).trans h2, (e 17 (by omega)).trans h3, (e 18 (by omega)).trans h4, fun q => (e 19 (by omega)).trans (h5 q), fun q => (e 20 (by omega)).trans (h6 q), fun q => eL.trans (h7 q)⟩
theorem XS0.puts {v : Nat} (h : XS0 b n j W dp ts O I L) (e : Eqf (frm [86] [(73, 25)]) I I') (h1 : I' 73 25 = nI (O ++ [v]).length) (h2 : OUT (O ++ [v]) (I' 86)) : XS0 b n j W dp ts (O ++ [v]) I' L := by
  obtain ⟨a1, a2, a3, ⟨a4, a5, a6⟩, ⟨a7, a8, a9, a10⟩, -⟩ := h
  exact ⟨a1.fr (fun q => e 79 q rfl) (e 73 14 rfl), a2.fr (fun q hq => by rcases hq with rfl | rfl | rfl | rfl | rfl | rfl <;> exact e 73 _ rfl) rfl, ⟨(e 73 11 rfl).trans a3.1, (e 73 12 rfl).trans a3.2⟩, ⟨(e 73 28 rfl).trans a4, wst_up (fun q _ => e 87 q rfl) a5, a6⟩, ⟨(e 73 29 rfl).trans a7, a8, a9, fun i g1 g2 => (e 88 i rfl).trans (a10 i g1 g2)⟩, h1, h2⟩
theorem XS0.push {v : Nat} (hv : act v) (h : XS0 b n j W dp ts O I L) (e : Eqf (frm [87] [(73, 28)]) I I') (h1 : I' 73 28 = nI (v :: W).length) (h2 : wst (I' 87) (v :: W)) : XS0 b n j (v :: W) dp ts O I' L := by
  obtain ⟨a1, a2, a3, ⟨a4, a5, a6⟩, ⟨a7, a8, a9, a10⟩, a11, a12⟩ := h
  exact ⟨a1.fr (fun q => e 79 q rfl) (e 73 14 rfl), a2.fr (fun q hq => by rcases hq with rfl | rfl | rfl | rfl | rfl | rfl <;> exact e 73 _ rfl) rfl, ⟨(e 73 11 rfl).trans a3.1, (e 73 12 rfl).trans a3.2⟩, ⟨h1, h2, fun a ha => (List.mem_cons.mp ha).elim (fun q => by rw [q]; exact hv) (a6 a)⟩, ⟨(e 73 29 rfl).trans a7, a8, a9, fun i g1 g2 => (e 88 i rfl).trans (a10 i g1 g2)⟩, (e 73 25 rfl).trans a11, fun i v hv => (e 86 i rfl).trans (a12 i v hv)⟩
theorem XS0.drop {l : Nat} (h : XS0 b n j W dp ts O I L) (e : Eqf (frm [86] [(73, 25), (73, 28)]) I I') (h1 : I' 73 28 = nI (dpr l W).length) (h2 : I' 73 25 = nI (O ++ dpd l W).length) (h3 : OUT (O ++ dpd l W) (I' 86)) : XS0 b n j (dpr l W) dp ts (O ++ dpd l W) I' L := by
  obtain ⟨a1, a2, a3, ⟨a4, a5, a6⟩, ⟨a7, a8, a9, a10⟩, -⟩ := h
  exact ⟨a1.fr (fun q => e 79 q rfl) (e 73 14 rfl), a2.fr (fun q hq => by rcases hq with rfl | rfl | rfl | rfl | rfl | rfl <;> exact e 73 _ rfl) rfl, ⟨(e 73 11 rfl).trans a3.1, (e 73 12 rfl).trans a3.2⟩, ⟨h1, wst_up (fun q _ => e 87 q rfl) (wst_dpr a5), fun a ha => a6 a (dpr_mem ha)⟩, ⟨(e 73 29 rfl).trans a7, a8, a9, fun i g1 g2 => (e 88 i rfl).trans (a10 i g1 g2)⟩, h2, h3⟩
theorem XS0.go {j' : Nat} (h : XS0 b n j W dp ts O I L) (e : Eqf (frm [] tkF) I I') (hT : TM b n j' I' L') : XS0 b n j' W dp ts O I' L' := by
  obtain ⟨a1, a2, a3, ⟨a4, a5, a6⟩, ⟨a7, a8, a9, a10⟩, a11, a12⟩ := h
  exact ⟨a1.fr (fun q => e 79 q rfl) (e 73 14 rfl), hT, ⟨(e 73 11 rfl).trans a3.1, (e 73 12 rfl).trans a3.2⟩, ⟨(e 73 28 rfl).trans a4, wst_up (fun q _ => e 87 q rfl) a5, a6⟩, ⟨(e 73 29 rfl).trans a7, a8, a9, fun i g1 g2 => (e 88 i rfl).trans (a10 i g1 g2)⟩, (e 73 25 rfl).trans a11, fun i v hv => (e 86 i rfl).trans (a12 i v hv)⟩
theorem XS0.mb (h : XS0 b n j W dp ts O I L) : MB b n I := h.1
theorem XS0.tm (h : XS0 b n j W dp ts O I L) : TM b n j I L := h.2.1
theorem XS0.g (h : XS0 b n j W dp ts O I L) : I 73 11 = nI 0 := h.2.2.1.1
theorem XS0.gd (h : XS0 b n j W dp ts O I L) : GD I := h.2.2.1
theorem XS0.n7 (h : XS0 b n j W dp ts O I L) : n ≤ 700 := h.1.2.1
theorem XB.go {W' O' : List Nat} (h : XB b n j W O) (hk : tK b n j ≠ 21) (h1 : O'.length + W'.length ≤ O.length + W.length + 2) (h2 : W'.length ≤ W.length + 1) : XB b n (j + 1) W' O' := by
  have := t_adv hk
  unfold XB at h ⊢
  omega
theorem XB.top (h : XB b n j W O) (hn : n ≤ 700) : O.length + W.length + 2 ≤ 1400 ∧ W.length ≤ 700 := by
  have := tkp_le (b := b) (n := n) j
  unfold XB at h
  omega
/-- the fault of the token that stands -/
theorem XS0.flt {c jf : Nat} (h : XS0 b n j W dp ts O I L) (hb : XB b n j W O) (hk : tK b n j ≠ 21) (hc : 0 < c ∧ c < 10) (hj : jf = j) {o : Nat} (ho : o ≤ O.length + 2) (e : Eqf (frm [86] [(73, 11), (73, 12), (73, 25)]) I I') (h11 : I' 73 11 = nI c) (h12 : I' 73 12 = nI (tB b n jf)) (h25 : I' 73 25 = nI o) : XFl b n c jf I' := by
  have hn := h.n7
  obtain ⟨a1, a2, a3, ⟨a4, a5, a6⟩, a7, a11, a12⟩ := h
  have t1 := t_adv hk
  unfold XB at hb
  exact ⟨hc.1, hc.2, h11, h12, W, o, (e 73 28 rfl).trans a4, wst_up (fun q _ => e 87 q rfl) a5, a6, by omega, h25, by omega⟩
/-- the same at the end -/
theorem XS0.flt0 {c : Nat} (h : XS0 b n j W dp ts O I L) (hb : XB b n j W O) (hc : 0 < c ∧ c < 10) (e : Eqf (frm [] [(73, 11), (73, 12)]) I I') (h11 : I' 73 11 = nI c) (h12 : I' 73 12 = nI (tB b n j)) : XFl b n c j I' := by
  have hn := h.n7
  obtain ⟨a1, a2, a3, ⟨a4, a5, a6⟩, a7, a11, a12⟩ := h
  have t1 := tkp_le (b := b) (n := n) j
  unfold XB at hb
  exact ⟨hc.1, hc.2, h11, h12, W, O.length, (e 73 28 rfl).trans a4, wst_up (fun q _ => e 87 q rfl) a5, a6, by omega, (e 73 25 rfl).trans a11, by omega⟩
end X
section M
variable {I : mj_I} {L : mj_L} {P : mj_P} {Q : mj_Q} {d n r t j : Nat} {b : Nat → Nat} {W O : List Nat} {dp : Nat} {ts : Nat → Bool} {lo hi : Nat}
theorem s_187B {f : Nat} (h11 : I 73 11 = nI f) (hf : 0 < f) (hf9 : f < 10) (k : Q (.inl none) (107, I, L, P)) : mj_ev (d + 2) 187 [.ref 73] (107, I, L, P) Q := by
  refine ⟨rfl, ?_⟩
  show mj_run (mj_ev (d + 1)) k187 Q (k187 0) [some (.ref 73), none] [] (107, I, L, P) 0 0
  refine q_5 rfl ?_
  refine q_47 (mj_ev_mono _) [] rfl rfl rfl (by decide) rfl rfl rfl ?_
  refine s_177B h11 hf hf9 ?_
  first | refine q_neN0 (by omega) (fun hh => absurd hh (by omega)) (fun hh => ?_) | refine q_neI0 (fun hh => absurd hh (by omega)) (fun hh => ?_)
  refine q_25 ?_
  exact k
theorem s_187n (hP : PS t P) (hX : XS0 b n j W dp ts O I L) (hb : XB b n j W O) (hk : tK b n j = 20) (hd : tD b n j ≤ 4) (k : ∀ I' L', Eqf (frm [86] ((73, 25) :: tkF)) I I' → EqL (frm [] [(73, 21)]) L L' → XS0 b n (j + 1) W dp ts (O ++ [1, tV b n j]) I' L' → Q (.inl none) (107, I', L', P)) : mj_ev (d + 4) 187 [.ref 73] (107, I, L, P) Q := by
  refine ⟨rfl, ?_⟩
  have tp := hb.top hX.n7
  obtain ⟨h15, h16, h17, h18, h19, h20, h21⟩ := hX.tm
  rw [hk, show srt 20 = 2 from rfl] at h16
  have g19 := h19 hk
  show mj_run (mj_ev (d + 3)) k187 Q (k187 0) [some (.ref 73), none] [] (107, I, L, P) 0 0
  refine q_5 rfl ?_
  refine q_47 (mj_ev_mono _) [] rfl rfl rfl (by decide) rfl rfl rfl ?_
  refine s_177G hX.g ?_
  first | refine q_neN0 (by omega) (fun hh => ?_) (fun hh => absurd hh (by omega)) | refine q_neI0 (fun hh => ?_) (fun hh => absurd (by omega) hh)
  refine q_5 rfl ?_
  first | refine q_31E rfl (by decide) h16 ?_ | refine q_31 rfl (by decide) ?_
  refine q_0 ?_
  refine q_neN (by omega) (by omega) (fun hh => absurd hh (by omega)) (fun hh => ?_)
  refine q_5 rfl ?_
  first | refine q_31E rfl (by decide) h18 ?_ | refine q_31 rfl (by decide) ?_
  refine q_0 ?_
  refine q_leN (by omega) (by omega) (fun hh => ?_) (fun hh => absurd hh (by omega))
  refine q_5 rfl ?_
  refine q_0 ?_
  refine q_47 (mj_ev_mono _) [_] rfl rfl rfl (by decide) rfl rfl rfl ?_
  refine s_182 (O := O) (v := 1) hP hX.2.2.2.2.2.1 hX.2.2.2.2.2.2 (by omega) (fun I1 e1 f1 f2 => ?_)
  have hX1 := hX.puts e1 f1 f2
  have g19b : I1 73 19 = nI (tV b n j) := (e1 73 19 rfl).trans g19
  refine q_5 rfl ?_
  refine q_5 rfl ?_
  first | refine q_31E rfl (by decide) g19b ?_ | refine q_31 rfl (by decide) ?_
  refine q_47 (mj_ev_mono _) [_] rfl rfl rfl (by decide) rfl rfl rfl ?_
  refine s_182 (O := O ++ [1]) (v := tV b n j) hP hX1.2.2.2.2.2.1 hX1.2.2.2.2.2.2 (by rw [List.length_append]; show O.length + 1 < 1400; omega) (fun I2 e2 f3 f4 => ?_)
  have hX2 := hX1.puts e2 f3 f4
  refine q_23 ?_
  refine q_5 rfl ?_
  refine q_47 (mj_ev_mono _) [] rfl rfl rfl (by decide) rfl rfl rfl ?_
  refine s_177G hX2.g ?_
  first | refine q_eqN0 (by omega) (fun hh => absurd hh (by omega)) (fun hh => ?_) | refine q_eqI0 (fun hh => absurd hh (by omega)) (fun hh => ?_)
  refine q_5 rfl ?_
  refine q_47 (mj_ev_mono _) [] rfl rfl rfl (by decide) rfl rfl rfl ?_
  refine s_172 (j := j + 1) hP hX2.mb hX2.tm.1 (fun I3 L3 e3 eL hT => ?_)
  refine q_25 ?_
  refine k I3 L3 (((e1.to rfl rfl).tr (e2.to rfl rfl)).tr (e3.to rfl rfl)) eL ?_
  have hX3 := hX2.go e3 hT
  rw [List.append_assoc] at hX3
  exact hX3
theorem s_187nF (hP : PS t P) (hX : XS0 b n j W dp ts O I L) (hb : XB b n j W O) (hk : tK b n j = 20) (hd : 4 < tD b n j) (k : ∀ I', Eqf (frm [86] [(73, 11), (73, 12), (73, 25)]) I I' → XFl b n 2 j I' → Q (.inl none) (107, I', L, P)) : mj_ev (d + 4) 187 [.ref 73] (107, I, L, P) Q := by
  refine ⟨rfl, ?_⟩
  have tp := hb.top hX.n7
  obtain ⟨h15, h16, h17, h18, h19, h20, h21⟩ := hX.tm
  rw [hk, show srt 20 = 2 from rfl] at h16
  have tl := tkp_le (b := b) (n := n) (j + 1)
  have n7 := hX.n7
  have dl : tD b n j ≤ 700 := by unfold tD; omega
  show mj_run (mj_ev (d + 3)) k187 Q (k187 0) [some (.ref 73), none] [] (107, I, L, P) 0 0
  refine q_5 rfl ?_
  refine q_47 (mj_ev_mono _) [] rfl rfl rfl (by decide) rfl rfl rfl ?_
  refine s_177G hX.g ?_
  first | refine q_neN0 (by omega) (fun hh => ?_) (fun hh => absurd hh (by omega)) | refine q_neI0 (fun hh => ?_) (fun hh => absurd (by omega) hh)
  refine q_5 rfl ?_
  first | refine q_31E rfl (by decide) h16 ?_ | refine q_31 rfl (by decide) ?_
  refine q_0 ?_
  refine q_neN (by omega) (by omega) (fun hh => absurd hh (by omega)) (fun hh => ?_)
  refine q_5 rfl ?_
  first | refine q_31E rfl (by decide) h18 ?_ | refine q_31 rfl (by decide) ?_
  refine q_0 ?_
  refine q_leN (by omega) (by omega) (fun hh => absurd hh (by omega)) (fun hh => ?_)
  refine q_5 rfl ?_
  refine q_0 ?_
  refine q_47 (mj_ev_mono _) [_] rfl rfl rfl (by decide) rfl rfl rfl ?_
  refine s_176G hX.g h17 ?_
  refine q_5 rfl ?_
  refine q_0 ?_
  refine q_47 (mj_ev_mono _) [_] rfl rfl rfl (by decide) rfl rfl rfl ?_
  refine s_182B (o := O.length) hP hX.2.2.2.2.2.1 (by omega) (fun I1 e1 f1 => ?_)
  refine q_5 rfl ?_
  refine q_5 rfl ?_
  refine q_31 rfl (by decide) ?_
  refine q_47 (mj_ev_mono _) [_] rfl rfl rfl (by decide) rfl rfl rfl ?_
  refine s_182B (o := O.length + 1) hP f1 (by omega) (fun I2 e2 f2 => ?_)
  have g11 : I2 73 11 = nI 2 := (e2 73 11 rfl).trans (e1 73 11 rfl)
  refine q_23 ?_
  refine q_5 rfl ?_
  refine q_47 (mj_ev_mono _) [] rfl rfl rfl (by decide) rfl rfl rfl ?_
  refine s_177B g11 (by omega) (by omega) ?_
  first | refine q_eqN0 (by omega) (fun hh => ?_) (fun hh => absurd hh (by omega)) | refine q_eqI0 (fun hh => ?_) (fun hh => absurd (by omega) hh)
  refine q_25 ?_
  have E : Eqf (frm [86] [(73, 11), (73, 12), (73, 25)]) I I2 := (((Eqf.rf.up rfl).up rfl).tr (e1.to rfl rfl)).tr (e2.to rfl rfl)
  exact k I2 E (hX.flt hb (by omega) (by omega) rfl (Nat.le_refl _) E g11 ((e2 73 12 rfl).trans (e1 73 12 rfl)) f2)
theorem s_187v {v : Nat} (hP : PS t P) (hX : XS0 b n j W dp ts O I L) (hb : XB b n j W O) (hk : tK b n j ≤ 19) (hm : mk (tK b n j) = some v) (h26 : I 73 26 = nI lo) (h27 : I 73 27 = nI hi) (hlo : lo ≤ v) (hhi : v ≤ hi) (hi9 : hi < 100) (k : ∀ I' L', Eqf (frm [86] ((73, 25) :: tkF)) I I' → EqL (frm [] [(73, 21)]) L L' → XS0 b n (j + 1) W dp ts (O ++ [2, v]) I' L' → Q (.inl none) (107, I', L', P)) : mj_ev (d + 4) 187 [.ref 73] (107, I, L, P) Q := by
  refine ⟨rfl, ?_⟩
  have tp := hb.top hX.n7
  obtain ⟨h15, h16, h17, h18, h19, h20, h21⟩ := hX.tm
  rw [srt_1.mpr hk] at h16
  show mj_run (mj_ev (d + 3)) k187 Q (k187 0) [some (.ref 73), none] [] (107, I, L, P) 0 0
  refine q_5 rfl ?_
  refine q_47 (mj_ev_mono _) [] rfl rfl rfl (by decide) rfl rfl rfl ?_
  refine s_177G hX.g ?_
  first | refine q_neN0 (by omega) (fun hh => ?_) (fun hh => absurd hh (by omega)) | refine q_neI0 (fun hh => ?_) (fun hh => absurd (by omega) hh)
  refine q_5 rfl ?_
  first | refine q_31E rfl (by decide) h16 ?_ | refine q_31 rfl (by decide) ?_
  refine q_0 ?_
  refine q_neN (by omega) (by omega) (fun hh => ?_) (fun hh => absurd hh (by omega))
  refine q_5 rfl ?_
  first | refine q_31E rfl (by decide) h16 ?_ | refine q_31 rfl (by decide) ?_
  refine q_0 ?_
  refine q_neN (by omega) (by omega) (fun hh => absurd hh (by omega)) (fun hh => ?_)
  refine q_5 rfl ?_
  refine q_47 (mj_ev_mono _) [] rfl rfl rfl (by decide) rfl rfl rfl ?_
  refine s_175 hP hX.tm hX.n7 ?_
  rw [hm, show mI (some v) = nI v from rfl]
  refine q_6 rfl rfl rfl ?_
  refine q_3 rfl ?_
  refine q_5 rfl ?_
  first | refine q_31E rfl (by decide) h26 ?_ | refine q_31 rfl (by decide) ?_
  refine q_ltN (by omega) (by omega) (fun hh => absurd hh (by omega)) (fun hh => ?_)
  refine q_3 rfl ?_
  refine q_5 rfl ?_
  first | refine q_31E rfl (by decide) h27 ?_ | refine q_31 rfl (by decide) ?_
  refine q_leN (by omega) (by omega) (fun hh => ?_) (fun hh => absurd hh (by omega))
  refine q_5 rfl ?_
  refine q_0 ?_
  refine q_47 (mj_ev_mono _) [_] rfl rfl rfl (by decide) rfl rfl rfl ?_
  refine s_182 (O := O) (v := 2) hP hX.2.2.2.2.2.1 hX.2.2.2.2.2.2 (by omega) (fun I1 e1 f1 f2 => ?_)
  have hX1 := hX.puts e1 f1 f2
  refine q_5 rfl ?_
  refine q_3 rfl ?_
  refine q_47 (mj_ev_mono _) [_] rfl rfl rfl (by decide) rfl rfl rfl ?_
  refine s_182 (O := O ++ [2]) (v := v) hP hX1.2.2.2.2.2.1 hX1.2.2.2.2.2.2 (by rw [List.length_append]; show O.length + 1 < 1400; omega) (fun I2 e2 f3 f4 => ?_)
  have hX2 := hX1.puts e2 f3 f4
  refine q_23 ?_
  refine q_5 rfl ?_
  refine q_47 (mj_ev_mono _) [] rfl rfl rfl (by decide) rfl rfl rfl ?_
  refine s_177G hX2.g ?_
  first | refine q_eqN0 (by omega) (fun hh => absurd hh (by omega)) (fun hh => ?_) | refine q_eqI0 (fun hh => absurd hh (by omega)) (fun hh => ?_)
  refine q_5 rfl ?_
  refine q_47 (mj_ev_mono _) [] rfl rfl rfl (by decide) rfl rfl rfl ?_
  refine s_172 (j := j + 1) hP hX2.mb hX2.tm.1 (fun I3 L3 e3 eL hT => ?_)
  refine q_25 ?_
  refine k I3 L3 (((e1.to rfl rfl).tr (e2.to rfl rfl)).tr (e3.to rfl rfl)) eL ?_
  have hX3 := hX2.go e3 hT
  rw [List.append_assoc] at hX3
  exact hX3
theorem s_187vF (hP : PS t P) (hX : XS0 b n j W dp ts O I L) (hb : XB b n j W O) (hk : tK b n j ≤ 19) (hm : ∀ v, mk (tK b n j) = some v → ¬ (lo ≤ v ∧ v ≤ hi)) (h26 : I 73 26 = nI lo) (h27 : I 73 27 = nI hi) (lo9 : lo < 100) (hi9 : hi < 100) (k : ∀ I', Eqf (frm [86] [(73, 11), (73, 12), (73, 25)]) I I' → XFl b n 3 j I' → Q (.inl none) (107, I', L, P)) : mj_ev (d + 4) 187 [.ref 73] (107, I, L, P) Q := by
  refine ⟨rfl, ?_⟩
  have tp := hb.top hX.n7
  obtain ⟨h15, h16, h17, h18, h19, h20, h21⟩ := hX.tm
  rw [srt_1.mpr hk] at h16
  have S74 : ∀ x : Int32, mj_run (mj_ev (d + 3)) k187 Q (k187 74) [some (.ref 73), some (.int x)] [] (107, I, L, P) 0 0 := by
    intro x
    refine q_5 rfl ?_
    refine q_0 ?_
    refine q_47 (mj_ev_mono _) [_] rfl rfl rfl (by decide) rfl rfl rfl ?_
    refine s_176G hX.g h17 ?_
    refine q_5 rfl ?_
    refine q_0 ?_
    refine q_47 (mj_ev_mono _) [_] rfl rfl rfl (by decide) rfl rfl rfl ?_
    refine s_182B (o := O.length) hP hX.2.2.2.2.2.1 (by omega) (fun I1 e1 f1 => ?_)
    refine q_5 rfl ?_
    refine q_3 rfl ?_
    refine q_47 (mj_ev_mono _) [_] rfl rfl rfl (by decide) rfl rfl rfl ?_
    refine s_182B (o := O.length + 1) hP f1 (by omega) (fun I2 e2 f2 => ?_)
    have g11 : I2 73 11 = nI 3 := (e2 73 11 rfl).trans (e1 73 11 rfl)
    refine q_23 ?_
    refine q_5 rfl ?_
    refine q_47 (mj_ev_mono _) [] rfl rfl rfl (by decide) rfl rfl rfl ?_
    refine s_177B g11 (by omega) (by omega) ?_
    first | refine q_eqN0 (by omega) (fun hh => ?_) (fun hh => absurd hh (by omega)) | refine q_eqI0 (fun hh => ?_) (fun hh => absurd (by omega) hh)
    refine q_25 ?_
    have E : Eqf (frm [86] [(73, 11), (73, 12), (73, 25)]) I I2 := (((Eqf.rf.up rfl).up rfl).tr (e1.to rfl rfl)).tr (e2.to rfl rfl)
    exact k I2 E (hX.flt hb (by omega) (by omega) rfl (Nat.le_refl _) E g11 ((e2 73 12 rfl).trans (e1 73 12 rfl)) f2)
  show mj_run (mj_ev (d + 3)) k187 Q (k187 0) [some (.ref 73), none] [] (107, I, L, P) 0 0
  cases hmk : mk (tK b n j) with
  | none =>
    have hneg : -(nI 1) < nI lo := by
      have h2 := nI_pos' (n := lo) (by omega)
      exact Int32.lt_iff_toInt_lt.mpr (by have h5 : (-(nI 1)).toInt = -1 := (by decide); have h6 := Int32.le_iff_toInt_le.mp h2; have h7 : (0 : Int32).toInt = 0 := (by decide); omega)
    refine q_5 rfl ?_
    refine q_47 (mj_ev_mono _) [] rfl rfl rfl (by decide) rfl rfl rfl ?_
    refine s_177G hX.g ?_
    first | refine q_neN0 (by omega) (fun hh => ?_) (fun hh => absurd hh (by omega)) | refine q_neI0 (fun hh => ?_) (fun hh => absurd (by omega) hh)
    refine q_5 rfl ?_
    first | refine q_31E rfl (by decide) h16 ?_ | refine q_31 rfl (by decide) ?_
    refine q_0 ?_
    refine q_neN (by omega) (by omega) (fun hh => ?_) (fun hh => absurd hh (by omega))
    refine q_5 rfl ?_
    first | refine q_31E rfl (by decide) h16 ?_ | refine q_31 rfl (by decide) ?_
    refine q_0 ?_
    refine q_neN (by omega) (by omega) (fun hh => absurd hh (by omega)) (fun hh => ?_)
    refine q_5 rfl ?_
    refine q_47 (mj_ev_mono _) [] rfl rfl rfl (by decide) rfl rfl rfl ?_
    refine s_175 hP hX.tm hX.n7 ?_
    rw [hmk, show mI none = -(nI 1) from rfl]
    refine q_6 rfl rfl rfl ?_
    refine q_3 rfl ?_
    refine q_5 rfl ?_
    first | refine q_31E rfl (by decide) h26 ?_ | refine q_31 rfl (by decide) ?_
    refine q_ltI (fun _ => ?_) (fun z => absurd hneg z)
    exact S74 _
  | some v =>
    have hv := hm v hmk
    have v19 := (mk_lt hmk).2
    by_cases h1 : v < lo
    · refine q_5 rfl ?_
      refine q_47 (mj_ev_mono _) [] rfl rfl rfl (by decide) rfl rfl rfl ?_
      refine s_177G hX.g ?_
      first | refine q_neN0 (by omega) (fun hh => ?_) (fun hh => absurd hh (by omega)) | refine q_neI0 (fun hh => ?_) (fun hh => absurd (by omega) hh)
      refine q_5 rfl ?_
      first | refine q_31E rfl (by decide) h16 ?_ | refine q_31 rfl (by decide) ?_
      refine q_0 ?_
      refine q_neN (by omega) (by omega) (fun hh => ?_) (fun hh => absurd hh (by omega))
      refine q_5 rfl ?_
      first | refine q_31E rfl (by decide) h16 ?_ | refine q_31 rfl (by decide) ?_
      refine q_0 ?_
      refine q_neN (by omega) (by omega) (fun hh => absurd hh (by omega)) (fun hh => ?_)
      refine q_5 rfl ?_
      refine q_47 (mj_ev_mono _) [] rfl rfl rfl (by decide) rfl rfl rfl ?_
      refine s_175 hP hX.tm hX.n7 ?_
      rw [hmk, show mI (some v) = nI v from rfl]
      refine q_6 rfl rfl rfl ?_
      refine q_3 rfl ?_
      refine q_5 rfl ?_
      first | refine q_31E rfl (by decide) h26 ?_ | refine q_31 rfl (by decide) ?_
      refine q_ltN (by omega) (by omega) (fun hh => ?_) (fun hh => absurd hh (by omega))
      exact S74 _
    · refine q_5 rfl ?_
      refine q_47 (mj_ev_mono _) [] rfl rfl rfl (by decide) rfl rfl rfl ?_
      refine s_177G hX.g ?_
      first | refine q_neN0 (by omega) (fun hh => ?_) (fun hh => absurd hh (by omega)) | refine q_neI0 (fun hh => ?_) (fun hh => absurd (by omega) hh)
      refine q_5 rfl ?_
      first | refine q_31E rfl (by decide) h16 ?_ | refine q_31 rfl (by decide) ?_
      refine q_0 ?_
      refine q_neN (by omega) (by omega) (fun hh => ?_) (fun hh => absurd hh (by omega))
      refine q_5 rfl ?_
      first | refine q_31E rfl (by decide) h16 ?_ | refine q_31 rfl (by decide) ?_
      refine q_0 ?_
      refine q_neN (by omega) (by omega) (fun hh => absurd hh (by omega)) (fun hh => ?_)
      refine q_5 rfl ?_
      refine q_47 (mj_ev_mono _) [] rfl rfl rfl (by decide) rfl rfl rfl ?_
      refine s_175 hP hX.tm hX.n7 ?_
      rw [hmk, show mI (some v) = nI v from rfl]
      refine q_6 rfl rfl rfl ?_
      refine q_3 rfl ?_
      refine q_5 rfl ?_
      first | refine q_31E rfl (by decide) h26 ?_ | refine q_31 rfl (by decide) ?_
      refine q_ltN (by omega) (by omega) (fun hh => absurd hh (by omega)) (fun hh => ?_)
      refine q_3 rfl ?_
      refine q_5 rfl ?_
      first | refine q_31E rfl (by decide) h27 ?_ | refine q_31 rfl (by decide) ?_
      refine q_leN (by omega) (by omega) (fun hh => absurd hh (by omega)) (fun hh => ?_)
      exact S74 _
theorem s_187b (hP : PS t P) (hX : XS0 b n j W dp ts O I L) (hb : XB b n j W O) (hk : 20 < tK b n j) (k : ∀ I', Eqf (frm [86] [(73, 11), (73, 12), (73, 25)]) I I' → XFl b n 1 j I' → Q (.inl none) (107, I', L, P)) : mj_ev (d + 4) 187 [.ref 73] (107, I, L, P) Q := by
  refine ⟨rfl, ?_⟩
  obtain ⟨h15, h16, h17, h18, h19, h20, h21⟩ := hX.tm
  have s1 : srt (tK b n j) ≠ 1 := fun e => absurd (srt_1.mp e) (by omega)
  have s2 : srt (tK b n j) ≠ 2 := fun e => absurd (srt_2.mp e) (by omega)
  have s4 := srt_le (tK b n j)
  have g11 : mj_upI (mj_upI I 73 11 (nI 1)) 73 12 (nI (tB b n j)) 73 11 = nI 1 := rfl
  show mj_run (mj_ev (d + 3)) k187 Q (k187 0) [some (.ref 73), none] [] (107, I, L, P) 0 0
  refine q_5 rfl ?_
  refine q_47 (mj_ev_mono _) [] rfl rfl rfl (by decide) rfl rfl rfl ?_
  refine s_177G hX.g ?_
  first | refine q_neN0 (by omega) (fun hh => ?_) (fun hh => absurd hh (by omega)) | refine q_neI0 (fun hh => ?_) (fun hh => absurd (by omega) hh)
  refine q_5 rfl ?_
  first | refine q_31E rfl (by decide) h16 ?_ | refine q_31 rfl (by decide) ?_
  refine q_0 ?_
  refine q_neN (by omega) (by omega) (fun hh => ?_) (fun hh => absurd hh (by omega))
  refine q_5 rfl ?_
  first | refine q_31E rfl (by decide) h16 ?_ | refine q_31 rfl (by decide) ?_
  refine q_0 ?_
  refine q_neN (by omega) (by omega) (fun hh => ?_) (fun hh => absurd hh (by omega))
  refine q_5 rfl ?_
  refine q_0 ?_
  refine q_47 (mj_ev_mono _) [_] rfl rfl rfl (by decide) rfl rfl rfl ?_
  refine s_176G hX.g h17 ?_
  refine q_5 rfl ?_
  refine q_47 (mj_ev_mono _) [] rfl rfl rfl (by decide) rfl rfl rfl ?_
  refine s_177B g11 (by omega) (by omega) ?_
  first | refine q_eqN0 (by omega) (fun hh => ?_) (fun hh => absurd hh (by omega)) | refine q_eqI0 (fun hh => ?_) (fun hh => absurd (by omega) hh)
  refine q_25 ?_
  have E : Eqf (frm [] [(73, 11), (73, 12)]) I (mj_upI (mj_upI I 73 11 (nI 1)) 73 12 (nI (tB b n j))) := (Eqf.rf.up rfl).up rfl
  exact k _ (E.to rfl rfl) (hX.flt0 hb (by omega) E rfl rfl)
theorem s_188 (hP : PS t P) (hX : XS0 b n j W dp ts O I L) (hd : dp < 6) (k : ∀ I', Eqf (frm [88] [(73, 29)]) I I' → XS0 b n j W (dp + 1) (fun i => if i = dp + 1 then false else ts i) O I' L → Q (.inl none) (107, I', L, P)) : mj_ev (d + 3) 188 [.ref 73] (107, I, L, P) Q := by
  refine ⟨rfl, ?_⟩
  obtain ⟨a1, a2, a3, ⟨a4, a5, a6⟩, ⟨a7, a8, a9, a10⟩, a11, a12⟩ := hX
  have a7b : mj_upI I 73 29 (nI (dp + 1)) 73 29 = nI (dp + 1) := upI_s
  show mj_run (mj_ev (d + 2)) k188 Q (k188 0) [some (.ref 73)] [] (107, I, L, P) 0 0
  refine q_5 rfl ?_
  first | refine q_31E rfl (by decide) a7 ?_ | refine q_31E rfl (by decide) a7b ?_ | refine q_31 rfl (by decide) ?_
  refine q_0 ?_
  refine q_geN (by omega) (by omega) (fun hh => absurd hh (by omega)) (fun hh => ?_)
  refine q_5 rfl ?_
  refine q_18 rfl ?_
  first | refine q_31E rfl (by decide) a7 ?_ | refine q_31E rfl (by decide) a7b ?_ | refine q_31 rfl (by decide) ?_
  refine q_0 ?_
  first | refine q_add ?_ | refine q_11 rfl ?_
  refine q_34 rfl (by decide) ?_
  refine q_5 rfl ?_
  refine q_33 rfl (by decide) (hP _ _ _ rfl) ?_
  refine q_5 rfl ?_
  first | refine q_31E rfl (by decide) a7 ?_ | refine q_31E rfl (by decide) a7b ?_ | refine q_31 rfl (by decide) ?_
  refine q_0 ?_
  refine q_45 _ rfl (by decide) rfl (by show _ < 9; omega) (by decide) ?_
  refine q_25 ?_
  refine k _ ((Eqf.rf.up rfl).up rfl) ⟨a1.fr (fun _ => rfl) rfl, a2.fr (fun q hq => by rcases hq with rfl | rfl | rfl | rfl | rfl | rfl <;> rfl) rfl, a3, ⟨a4, a5, a6⟩, ⟨a7b, by omega, by omega, fun i g1 g2 => ?_⟩, a11, a12⟩
  show _ = nI (if (if i = dp + 1 then false else ts i) = true then 1 else 0)
  by_cases e : i = dp + 1
  · rw [if_pos e, e, upI_s, nb0]
    rfl
  · rw [if_neg e, upI_j e]
    exact a10 i g1 (by omega)
theorem s_188F (hP : PS t P) (hX : XS0 b n j W dp ts O I L) (hb : XB b n j W O) (hd : dp = 6) (k : ∀ I', Eqf (frm [86] [(73, 11), (73, 12), (73, 25)]) I I' → XFl b n (if tK b n j ≤ 20 ∨ tK b n j = 40 then 2 else 1) j I' → Q (.inl none) (107, I', L, P)) : mj_ev (d + 3) 188 [.ref 73] (107, I, L, P) Q := by
  refine ⟨rfl, ?_⟩
  have hX' := hX
  obtain ⟨a1, a2, a3, ⟨a4, a5, a6⟩, ⟨a7, a8, a9, a10⟩, a11, a12⟩ := hX
  obtain ⟨h15, h16, h17, h18, h19, h20, h21⟩ := a2
  subst hd
  have s4 := srt_le (tK b n j)
  have fin : ∀ c, c = (if tK b n j ≤ 20 ∨ tK b n j = 40 then 2 else 1) → mj_run (mj_ev (d + 2)) k188 Q (k188 61) [some (.ref 73)] [.int (nI c), .ref 73] (107, I, L, P) 0 0 := by
    intro c hc
    have c1 : 0 < c ∧ c < 10 := by rw [hc]; split <;> omega
    rw [← hc] at k
    refine q_47 (mj_ev_mono _) [_] rfl rfl rfl (by decide) rfl rfl rfl ?_
    refine s_176G a3.1 h17 ?_
    refine q_25 ?_
    have E : Eqf (frm [] [(73, 11), (73, 12)]) I (mj_upI (mj_upI I 73 11 (nI c)) 73 12 (nI (tB b n j))) := (Eqf.rf.up rfl).up rfl
    exact k _ (E.to rfl rfl) (hX'.flt0 hb c1 E rfl rfl)
  show mj_run (mj_ev (d + 2)) k188 Q (k188 0) [some (.ref 73)] [] (107, I, L, P) 0 0
  by_cases k20 : tK b n j = 20
  · rw [k20, show srt 20 = 2 from rfl] at h16
    refine q_5 rfl ?_
    first | refine q_31E rfl (by decide) a7 ?_ | refine q_31 rfl (by decide) ?_
    refine q_0 ?_
    refine q_geN (by omega) (by omega) (fun hh => ?_) (fun hh => absurd hh (by omega))
    refine q_5 rfl ?_
    refine q_5 rfl ?_
    first | refine q_31E rfl (by decide) h16 ?_ | refine q_31 rfl (by decide) ?_
    refine q_0 ?_
    refine q_eqN (by omega) (by omega) (fun hh => ?_) (fun hh => absurd hh (by omega))
    refine q_0 ?_
    refine q_23 ?_
    exact fin 2 (if_pos (by omega)).symm
  · have s2 : srt (tK b n j) ≠ 2 := fun e => k20 (srt_2.mp e)
    by_cases k19 : tK b n j ≤ 19
    · have s1 := srt_1.mpr k19
      rw [s1] at h16
      refine q_5 rfl ?_
      first | refine q_31E rfl (by decide) a7 ?_ | refine q_31 rfl (by decide) ?_
      refine q_0 ?_
      refine q_geN (by omega) (by omega) (fun hh => ?_) (fun hh => absurd hh (by omega))
      refine q_5 rfl ?_
      refine q_5 rfl ?_
      first | refine q_31E rfl (by decide) h16 ?_ | refine q_31 rfl (by decide) ?_
      refine q_0 ?_
      refine q_eqN (by omega) (by omega) (fun hh => absurd hh (by omega)) (fun hh => ?_)
      refine q_5 rfl ?_
      first | refine q_31E rfl (by decide) h16 ?_ | refine q_31 rfl (by decide) ?_
      refine q_0 ?_
      refine q_eqN (by omega) (by omega) (fun hh => ?_) (fun hh => absurd hh (by omega))
      refine q_0 ?_
      refine q_23 ?_
      exact fin 2 (if_pos (by omega)).symm
    · have s1 : srt (tK b n j) ≠ 1 := fun e => k19 (srt_1.mp e)
      by_cases k40 : tK b n j = 40
      · refine q_5 rfl ?_
        first | refine q_31E rfl (by decide) a7 ?_ | refine q_31 rfl (by decide) ?_
        refine q_0 ?_
        refine q_geN (by omega) (by omega) (fun hh => ?_) (fun hh => absurd hh (by omega))
        refine q_5 rfl ?_
        refine q_5 rfl ?_
        first | refine q_31E rfl (by decide) h16 ?_ | refine q_31 rfl (by decide) ?_
        refine q_0 ?_
        refine q_eqN (by omega) (by omega) (fun hh => absurd hh (by omega)) (fun hh => ?_)
        refine q_5 rfl ?_
        first | refine q_31E rfl (by decide) h16 ?_ | refine q_31 rfl (by decide) ?_
        refine q_0 ?_
        refine q_eqN (by omega) (by omega) (fun hh => absurd hh (by omega)) (fun hh => ?_)
        refine q_5 rfl ?_
        refine q_0 ?_
        refine q_47 (mj_ev_mono _) [_] rfl rfl rfl (by decide) rfl rfl rfl ?_
        refine s_178 hX'.tm (by omega) (by omega) (fun i hi => (a1.1 i hi).2) ?_
        rw [if_pos k40]
        first | refine q_eqN0 (by omega) (fun hh => absurd hh (by omega)) (fun hh => ?_) | refine q_eqI0 (fun hh => absurd hh (by omega)) (fun hh => ?_)
        refine q_0 ?_
        refine q_23 ?_
        exact fin 2 (if_pos (by omega)).symm
      · refine q_5 rfl ?_
        first | refine q_31E rfl (by decide) a7 ?_ | refine q_31 rfl (by decide) ?_
        refine q_0 ?_
        refine q_geN (by omega) (by omega) (fun hh => ?_) (fun hh => absurd hh (by omega))
        refine q_5 rfl ?_
        refine q_5 rfl ?_
        first | refine q_31E rfl (by decide) h16 ?_ | refine q_31 rfl (by decide) ?_
        refine q_0 ?_
        refine q_eqN (by omega) (by omega) (fun hh => absurd hh (by omega)) (fun hh => ?_)
        refine q_5 rfl ?_
        first | refine q_31E rfl (by decide) h16 ?_ | refine q_31 rfl (by decide) ?_
        refine q_0 ?_
        refine q_eqN (by omega) (by omega) (fun hh => absurd hh (by omega)) (fun hh => ?_)
        refine q_5 rfl ?_
        refine q_0 ?_
        refine q_47 (mj_ev_mono _) [_] rfl rfl rfl (by decide) rfl rfl rfl ?_
        refine s_178 hX'.tm (by omega) (by omega) (fun i hi => (a1.1 i hi).2) ?_
        rw [if_neg k40]
        first | refine q_eqN0 (by omega) (fun hh => ?_) (fun hh => absurd hh (by omega)) | refine q_eqI0 (fun hh => ?_) (fun hh => absurd (by omega) hh)
        refine q_0 ?_
        exact fin 1 (if_neg (by omega)).symm
end M
