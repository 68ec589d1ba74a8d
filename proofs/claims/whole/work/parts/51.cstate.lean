/-! the class's state -/
def cx (n : Nat) (c : Nat → Nat) (p : Nat) : Nat := if p < n then c p else 0
def mx (n : Nat) (m : MM) (p : Nat) : Option Nat := if p < n then m p else none
theorem cx_lt {n : Nat} {c : Nat → Nat} {p : Nat} (h : p < n) : cx n c p = c p := if_pos h
theorem mx_lt {n : Nat} {m : MM} {p : Nat} (h : p < n) : mx n m p = m p := if_pos h
/-- what a text told, in the class -/
def CT (w : WT) (I : mj_I) : Prop := w.ok ∧ I 3 0 = nI w.n ∧ (∀ p, p < w.n → I 4 p = nI (w.pat p) ∧ I 5 p = nI (w.woo p) ∧ I 6 p = nI (w.siz p) ∧ I 7 p = nI (w.chm p)) ∧ ruleC (I 14) (I 12 2) (I 12 3) 0 6 w.al ∧ ruleC (I 14) (I 12 4) (I 12 5) 6 10 w.li
  ∧ (∀ R, w.al = some R → ∃ M, M < 2 ^ 20 ∧ I 12 6 = nI M ∧ ∀ v, v ≤ 6 → M.testBit (kv v) = R.any (fun q => decide (q = (2, v))))
/-- socks in three cells -/
def CW (n x y z : Nat) (c h : Nat → Nat) (m : MM) (I : mj_I) : Prop := n ≤ 10 ∧ (∀ p, p < 10 → I x p = nI (cx n c p)) ∧ (∀ p, p < 10 → I y p = nI (cx n h p)) ∧ (∀ p, p < 10 → I z p = mI (mx n m p)) ∧ (∀ p, p < n → c p < 10) ∧ (∀ p, p < n → h p < 10) ∧ gm n m
section CW
variable {n x y z : Nat} {c h : Nat → Nat} {m : MM} {I I' : mj_I}
theorem CW.n10 (hR : CW n x y z c h m I) : n ≤ 10 := hR.1
theorem CW.col (hR : CW n x y z c h m I) {p : Nat} (hp : p < n) : I x p = nI (c p) := by
  rw [hR.2.1 p (by have := hR.1; omega), cx_lt hp]
theorem CW.hol (hR : CW n x y z c h m I) {p : Nat} (hp : p < n) : I y p = nI (h p) := by
  rw [hR.2.2.1 p (by have := hR.1; omega), cx_lt hp]
theorem CW.mat (hR : CW n x y z c h m I) {p : Nat} (hp : p < n) : I z p = mI (m p) := by
  rw [hR.2.2.2.1 p (by have := hR.1; omega), mx_lt hp]
theorem CW.c10 (hR : CW n x y z c h m I) {p : Nat} (hp : p < n) : c p < 10 := hR.2.2.2.2.1 p hp
theorem CW.h10 (hR : CW n x y z c h m I) {p : Nat} (hp : p < n) : h p < 10 := hR.2.2.2.2.2.1 p hp
theorem CW.gm (hR : CW n x y z c h m I) : gm n m := hR.2.2.2.2.2.2
theorem CW.m31 (hR : CW n x y z c h m I) {p : Nat} (hp : p < n) : ∀ q, m p = some q → q < 2 ^ 31 := fun q hq => by
  have h1 := (hR.gm p hp q hq).1
  have h2 := hR.n10
  omega
theorem CW.fr (hR : CW n x y z c h m I) (e1 : I' x = I x) (e2 : I' y = I y) (e3 : I' z = I z) : CW n x y z c h m I' := ⟨hR.1, fun p hp => by rw [e1]; exact hR.2.1 p hp, fun p hp => by rw [e2]; exact hR.2.2.1 p hp, fun p hp => by rw [e3]; exact hR.2.2.2.1 p hp, hR.2.2.2.2⟩
end CW
def pck (c h : Nat) (m : Option Nat) : Nat := c + 16 * h + 256 * mN m
/-- a row of the ACTS -/
def PR (n : Nat) (f : Nat → Int32) (b : Nat) (ro : RO) : Prop := f b = ro.1 ∧ (∀ p, p < 10 → f (b + 1 + p) = nI (pck (cx n ro.2.1 p) (cx n ro.2.2.1 p) (mx n ro.2.2.2 p))) ∧ (∀ p, p < n → ro.2.1 p < 10) ∧ (∀ p, p < n → ro.2.2.1 p < 10) ∧ gm n ro.2.2.2
/-- a book: its cells, what it holds -/
def CI (n b s x y z r u v o : Nat) (im : IM) (I : mj_I) : Prop := I s 0 = im.1.1 ∧ CW n x y z im.1.2.1 im.1.2.2.1 im.1.2.2.2 I
  ∧ (∃ f0, f0 < 40 ∧ I b 3 = nI f0 ∧ ∀ i ro, im.2.1[i]? = some ro → PR n (I r) ((f0 + i) % 40 * 11) ro) ∧ I b 1 = nI im.2.1.length ∧ im.2.1.length ≤ 40
  ∧ I b 2 = nI im.2.2.length ∧ im.2.2.length ≤ 8 ∧ (∀ (i : Nat) (e : Nat × Nat × Option Nat), im.2.2[i]? = some e → I u i = nI e.1 ∧ I v i = nI e.2.1 ∧ I o i = mI e.2.2 ∧ e.1 < n ∧ 1 ≤ e.2.1 ∧ e.2.1 ≤ 20 ∧ (∀ q, e.2.2 = some q → q < n))
theorem CI.fr {n b s x y z r u v o : Nat} {im : IM} {I I' : mj_I} (h : CI n b s x y z r u v o im I) (eb : ∀ j, j = 1 ∨ j = 2 ∨ j = 3 → I' b j = I b j) (es : I' s 0 = I s 0) (ex : I' x = I x) (ey : I' y = I y) (ez : I' z = I z) (er : I' r = I r) (eu : I' u = I u) (ev : I' v = I v) (eo : I' o = I o) : CI n b s x y z r u v o im I' := by
  obtain ⟨h1, h2, ⟨f0, h3, h4, h5⟩, h6, h7, h8, h9, h10⟩ := h
  exact ⟨es.trans h1, h2.fr ex ey ez, ⟨f0, h3, (eb 3 (by omega)).trans h4, fun i ro hi => by rw [er]; exact h5 i ro hi⟩, (eb 1 (by omega)).trans h6, h7, (eb 2 (by omega)).trans h8, h9, fun i e he => by rw [eu, ev, eo]; exact h10 i e he⟩
/-- a byte as Java reads it -/
def sbt (x : Nat) : Int32 := if x < 128 then nI x else nI x - nI 256
def CB (A : AS) (I : mj_I) : Prop := CT A.w I ∧ CI A.w.n 30 31 32 33 34 35 36 37 38 A.im I
  ∧ (match A.kp with
    | none => I 0 9 = nI 0
    | some i => I 0 9 = nI 1 ∧ CI A.w.n 39 40 41 42 43 44 45 46 47 i I)
  ∧ I 0 1 = nI A.td ∧ A.td ≤ 700 ∧ (∀ j, j < A.td → I 1 j = sbt (A.tp j) ∧ A.tp j < 256) ∧ I 0 2 = mI A.fp ∧ (∀ q, A.fp = some q → q ≤ 700) ∧ (∀ j, j < 3 → I 2 j = A.rf j)
def hu (h : Nat → Nat) : Nat → Nat → Nat
  | 0 => h
  | k + 1 => hup (hu h k)
theorem many_1 {w : WT} {c : Nat → Nat} {s : HM} : ∀ k, (many w c s k).1 = hu s.1 k
  | 0 => rfl
  | k + 1 => by
    show hup (many w c s k).1 = hup (hu s.1 k)
    rw [many_1 k]
theorem hu_eq {h : Nat → Nat} {p : Nat} (hp : h p < 10) : ∀ k, hu h k p = if h p + k < 9 then h p + k else 9
  | 0 => by
    show h p = _
    split <;> omega
  | k + 1 => by
    show hup (hu h k) p = _
    unfold hup
    rw [hu_eq hp k]
    (repeat' split) <;> omega
/-! what is kept of what was reckoned -/
def CO (A : AS) (I : mj_I) : Prop := ∃ k, k ≤ 8 ∧ I 48 4 = nI k ∧ ∀ j, j < k → ∀ a b, a < A.w.n → b < A.w.n → a ≠ b → I 49 (100 * j + 10 * a + b) = alk A.w A.c (hu A.h j) a b
def CK (A : AS) (I : mj_I) : Prop := I 51 4 = -(nI 1) ∨ ∃ k, k ≤ 8 ∧ I 51 4 = nI k ∧ ∀ j, j ≤ k → ∀ p, p < A.w.n → I 52 (10 * j + p) = mI ((many A.w A.c (A.h, A.m) j).2 p)
def CU (A : AS) (I : mj_I) : Prop := I 55 1 = nI 0 ∨ (I 55 1 = nI 1 ∧ (∃ k, 1 ≤ k ∧ k ≤ 8 ∧ I 48 4 = nI k) ∧ (∀ p, p < A.w.n → I 56 p = nI (maskF (my A.w A.c A.h p) A.w.n)) ∧ ∀ a b, a < A.w.n → b < A.w.n → a ≠ b → I 57 (10 * a + b) = lik A.w A.c A.h a b)
def CZ (A : AS) (I : mj_I) : Prop := I 60 1 = nI 0 ∨ (I 60 1 = nI 1 ∧ I 60 2 = nI (sRS A).length ∧ (∀ p, p < A.w.n → I 62 p = mI (((sRS A).head?.getD (fun _ => none)) p)) ∧ ∀ p, p < A.w.n → I 63 p = nI (maskF (inR (sRS A) p) A.w.n))
def CD (A : AS) (I : mj_I) : Prop := I 65 0 = nI 0 ∨ (I 65 0 = nI 1 ∧ I 65 1 = nI (gmn A) ∧ I 65 2 = mI (fnd (10 * A.w.n) 0 (gss A.w A.c (A.h, A.m) A.se)) ∧ ∀ f, f < 8 → I 66 (f + 1) = nI (dst (fun a => rof A a f) (gmn A)))
def CS (A : AS) (I : mj_I) : Prop := CB A I ∧ CO A I ∧ CK A I ∧ CU A I ∧ CZ A I ∧ CD A I
/-- what of the class a call may change that only tells: what is kept of what was reckoned -/
def pC (c j : Nat) : Bool := (c == 0 && (j == 1 || j == 2 || j == 9)) || c == 1 || c == 2 || (c == 3 && j == 0) || c == 4 || c == 5 || c == 6 || c == 7 || (c == 12 && (j == 2 || j == 3 || j == 4 || j == 5 || j == 6)) || c == 14 || (c == 30 && (j == 1 || j == 2 || j == 3)) || (c == 31 && j == 0) || c == 32 || c == 33 || c == 34 || c == 35 || c == 36 || c == 37 || c == 38 || (c == 39 && (j == 1 || j == 2 || j == 3)) || (c == 40 && j == 0) || c == 41 || c == 42 || c == 43 || c == 44 || c == 45 || c == 46 || c == 47
def FB (c j : Nat) : Bool := Nat.blt c 73 && !(pC c j)
theorem CT.fr {w : WT} {I I' : mj_I} {F : Nat → Nat → Bool} (h : CT w I) (e : Eqf F I I') (hF : F 3 0 = false ∧ F 12 2 = false ∧ F 12 3 = false ∧ F 12 4 = false ∧ F 12 5 = false ∧ F 12 6 = false) (hG : ∀ j, F 14 j = false) (hN : ∀ j, j < w.n → F 4 j = false ∧ F 5 j = false ∧ F 6 j = false ∧ F 7 j = false) : CT w I' := by
  obtain ⟨h0, h1, h2, h3, h4, h5⟩ := h
  have e8 : I' 14 = I 14 := funext fun j => e 14 j (hG j)
  refine ⟨h0, (e _ _ hF.1).trans h1, fun p hp => ?_, ?_, ?_, fun R hR => ?_⟩
  · obtain ⟨q1, q2, q3, q4⟩ := h2 p hp
    obtain ⟨n1, n2, n3, n4⟩ := hN p hp
    exact ⟨(e _ _ n1).trans q1, (e _ _ n2).trans q2, (e _ _ n3).trans q3, (e _ _ n4).trans q4⟩
  · rw [e8, e _ _ hF.2.1, e _ _ hF.2.2.1]
    exact h3
  · rw [e8, e _ _ hF.2.2.2.1, e _ _ hF.2.2.2.2.1]
    exact h4
  · rw [e _ _ hF.2.2.2.2.2]
    exact h5 R hR
theorem CB.fr {A : AS} {I I' : mj_I} {F : Nat → Nat → Bool} (h : CB A I) (e : Eqf F I I') (hF : ∀ c j, c < 73 → pC c j = true → F c j = false) : CB A I' := by
  obtain ⟨h1, h2, h3, h4, h5, h6, h7, h8, h9⟩ := h
  have w : ∀ c, (∀ j, pC c j = true) → c < 73 → I' c = I c := fun c hc h73 => funext fun j => e c j (hF c j h73 (hc j))
  have w1 : ∀ c j, pC c j = true → c < 73 → I' c j = I c j := fun c j hc h73 => e c j (hF c j h73 hc)
  refine ⟨h1.fr e ⟨hF _ _ (by decide) rfl, hF _ _ (by decide) rfl, hF _ _ (by decide) rfl, hF _ _ (by decide) rfl, hF _ _ (by decide) rfl, hF _ _ (by decide) rfl⟩ (fun j => hF _ _ (by decide) rfl) (fun j _ => ⟨hF _ _ (by decide) rfl, hF _ _ (by decide) rfl, hF _ _ (by decide) rfl, hF _ _ (by decide) rfl⟩), h2.fr (fun j hj => ?_) (w1 31 0 rfl (by decide)) (w 32 (fun _ => rfl) (by decide)) (w 33 (fun _ => rfl) (by decide)) (w 34 (fun _ => rfl) (by decide)) (w 35 (fun _ => rfl) (by decide)) (w 36 (fun _ => rfl) (by decide)) (w 37 (fun _ => rfl) (by decide)) (w 38 (fun _ => rfl) (by decide)), ?_, (w1 0 1 rfl (by decide)).trans h4, h5, fun j hj => ⟨(w1 1 j rfl (by decide)).trans (h6 j hj).1, (h6 j hj).2⟩, (w1 0 2 rfl (by decide)).trans h7, h8, fun j hj => (w1 2 j rfl (by decide)).trans (h9 j hj)⟩
  · rcases hj with rfl | rfl | rfl
    · exact w1 30 1 rfl (by decide)
    · exact w1 30 2 rfl (by decide)
    · exact w1 30 3 rfl (by decide)
  · cases hk : A.kp with
    | none =>
      rw [hk] at h3
      exact (w1 0 9 rfl (by decide)).trans h3
    | some i =>
      rw [hk] at h3
      refine ⟨(w1 0 9 rfl (by decide)).trans h3.1, h3.2.fr (fun j hj => ?_) (w1 40 0 rfl (by decide)) (w 41 (fun _ => rfl) (by decide)) (w 42 (fun _ => rfl) (by decide)) (w 43 (fun _ => rfl) (by decide)) (w 44 (fun _ => rfl) (by decide)) (w 45 (fun _ => rfl) (by decide)) (w 46 (fun _ => rfl) (by decide)) (w 47 (fun _ => rfl) (by decide))⟩
      rcases hj with rfl | rfl | rfl
      · exact w1 39 1 rfl (by decide)
      · exact w1 39 2 rfl (by decide)
      · exact w1 39 3 rfl (by decide)
theorem CB.fb {A : AS} {I I' : mj_I} (h : CB A I) (e : Eqf FB I I') : CB A I' := h.fr e (fun c j _ hp => by
  unfold FB
  rw [hp]
  simp)
theorem FB_hi {c j : Nat} (h : 73 ≤ c) : FB c j = false := by
  unfold FB
  rw [show Nat.blt c 73 = false from Bool.eq_false_iff.mpr (fun e => by have := Nat.le_of_ble_eq_true (n := c + 1) e; omega)]
  rfl
theorem CS.cb {A : AS} {I : mj_I} (h : CS A I) : CB A I := h.1
theorem CB.ct {A : AS} {I : mj_I} (h : CB A I) : CT A.w I := h.1
theorem CB.cw {A : AS} {I : mj_I} (h : CB A I) : CW A.w.n 32 33 34 A.c A.h A.m I := h.2.1.2.1
theorem CB.hy {A : AS} {I : mj_I} (h : CB A I) : I 31 0 = A.y := h.2.1.1
theorem CT.n10 {w : WT} {I : mj_I} (h : CT w I) : w.n ≤ 10 := h.1.1
theorem CT.hn {w : WT} {I : mj_I} (h : CT w I) : I 3 0 = nI w.n := h.2.1
theorem CB.n10 {A : AS} {I : mj_I} (h : CB A I) : A.w.n ≤ 10 := h.1.1.1
theorem CB.hn {A : AS} {I : mj_I} (h : CB A I) : I 3 0 = nI A.w.n := h.1.2.1
/-- frames within what was reckoned, beside the caches -/
theorem CT.f13 {w : WT} {I I' : mj_I} (h : CT w I) (e : Eqf (frm [13, 15] []) I I') : CT w I' := h.fr e ⟨rfl, rfl, rfl, rfl, rfl, rfl⟩ (fun _ => rfl) (fun _ _ => ⟨rfl, rfl, rfl, rfl⟩)
theorem CW.f13 {n x y z : Nat} {c h : Nat → Nat} {m : MM} {I I' : mj_I} (hR : CW n x y z c h m I) (e : Eqf (frm [13, 15] []) I I') (hx : x ≠ 13 ∧ x ≠ 15) (hy : y ≠ 13 ∧ y ≠ 15) (hz : z ≠ 13 ∧ z ≠ 15) : CW n x y z c h m I' := by
  have w : ∀ c, c ≠ 13 ∧ c ≠ 15 → I' c = I c := fun c hc => funext fun j => e c j (by unfold frm; simp [hc.1, hc.2])
  exact hR.fr (w x hx) (w y hy) (w z hz)
/-- a call of the class: the state behind it, what it tells -/
def kC (Q : mj_Q) (I : mj_I) (L : mj_L) (P : mj_P) (A : AS) (v : mj_R) : Prop := ∀ I' L', CS A I' → (∀ c j, 73 ≤ c → I' c j = I c j) → (∀ c j, 73 ≤ c → L' c j = L c j) → Q v (107, I', L', P)
theorem kC.same {Q : mj_Q} {I : mj_I} {L : mj_L} {P : mj_P} {A : AS} {v v' : mj_R} (k : kC Q I L P A v) (h : CS A I) (e : v' = v) : Q v' (107, I, L, P) := by
  subst e
  exact k I L h (fun _ _ _ => rfl) (fun _ _ _ => rfl)
section C
variable {I : mj_I} {L : mj_L} {P : mj_P} {Q : mj_Q} {d n r t a b : Nat} {A : AS} {w : WT} {c h : Nat → Nat} {m : MM}
theorem c_88 (hP : PS t P) {al : Int32} {ho : Nat} (ha : a < w.n) (hb : b < w.n) (hW : CT w I) (k : ∀ I', Eqf (frm [13, 15] []) I I' → Q (.inl (some (.int (match w.li with
    | none => al + nI (w.chm b)
    | some R => rpv (vL al (w.chm b) (w.chm a) (w.siz b) ho) R)))) (107, I', L, P)) : mj_ev (d + 2) 88 [.ref 3, .int (nI a), .int (nI b), .int al, .int (nI ho)] (107, I, L, P) Q := by
  refine ⟨rfl, ?_⟩
  have hn10 := hW.n10
  obtain ⟨-, -, hW2, -, hli, -⟩ := hW
  have q7 := (hW2 b hb).2.2.2
  have q7a := (hW2 a ha).2.2.2
  have q6 := (hW2 b hb).2.2.1
  show mj_run (mj_ev (d + 1)) k88 Q (k88 0) [some (.ref 3), some (.int (nI a)), some (.int (nI b)), some (.int al), some (.int (nI ho)), none] [] (107, I, L, P) 0 0
  cases hl : w.li with
  | none =>
    rw [hl] at hli k
    obtain ⟨q2, q3⟩ := hli
    refine q_5 rfl ?_
    refine q_33 rfl (by decide) (hP _ _ _ rfl) ?_
    refine q_47 (mj_ev_mono _) [] rfl rfl rfl (by decide) rfl rfl rfl ?_
    refine c_57F q2 q3 ?_
    first | refine q_neN0 (by omega) (fun hh => absurd hh (by omega)) (fun hh => ?_) | refine q_neI0 (fun hh => absurd hh (by omega)) (fun hh => ?_)
    refine q_3 rfl ?_
    refine q_5 rfl ?_
    refine q_33 rfl (by decide) (hP _ _ _ rfl) ?_
    refine q_3 rfl ?_
    first | refine q_38E _ rfl (by decide) rfl (by show _ < 11; omega) (by decide) (q7) ?_ | refine q_38 _ rfl (by decide) rfl (by show _ < 11; omega) (by decide) ?_
    refine q_11 rfl ?_
    refine q_26 ?_
    exact k I Eqf.rf
  | some R =>
    rw [hl] at hli k
    obtain ⟨k0, q2, q3, hk, hf, hok, hpos⟩ := hli
    refine q_5 rfl ?_
    refine q_33 rfl (by decide) (hP _ _ _ rfl) ?_
    refine q_47 (mj_ev_mono _) [] rfl rfl rfl (by decide) rfl rfl rfl ?_
    refine c_57T q2 q3 (by omega) (by omega) ?_
    first | refine q_neN0 (by omega) (fun hh => ?_) (fun hh => absurd hh (by omega)) | refine q_neI0 (fun hh => ?_) (fun hh => absurd (by omega) hh)
    refine q_5 rfl ?_
    refine q_33 rfl (by decide) (hP _ _ _ rfl) ?_
    refine q_33 rfl (by decide) (hP _ _ _ rfl) ?_
    refine q_8 rfl rfl rfl ?_
    refine q_5 rfl ?_
    refine q_0 ?_
    refine q_3 rfl ?_
    refine q_42 _ rfl (by decide) rfl (by show _ < 32; omega) (by decide) ?_
    refine q_5 rfl ?_
    refine q_0 ?_
    refine q_5 rfl ?_
    refine q_33 rfl (by decide) (hP _ _ _ rfl) ?_
    refine q_3 rfl ?_
    first | refine q_38E _ rfl (by decide) rfl (by show _ < 11; omega) (by decide) (q7) ?_ | refine q_38E _ rfl (by decide) rfl (by show _ < 11; omega) (by decide) (q7a) ?_ | refine q_38 _ rfl (by decide) rfl (by show _ < 11; omega) (by decide) ?_
    refine q_42 _ rfl (by decide) rfl (by show _ < 32; omega) (by decide) ?_
    refine q_5 rfl ?_
    refine q_0 ?_
    refine q_5 rfl ?_
    refine q_33 rfl (by decide) (hP _ _ _ rfl) ?_
    refine q_3 rfl ?_
    first | refine q_38E _ rfl (by decide) rfl (by show _ < 11; omega) (by decide) (q7) ?_ | refine q_38E _ rfl (by decide) rfl (by show _ < 11; omega) (by decide) (q7a) ?_ | refine q_38 _ rfl (by decide) rfl (by show _ < 11; omega) (by decide) ?_
    refine q_42 _ rfl (by decide) rfl (by show _ < 32; omega) (by decide) ?_
    refine q_5 rfl ?_
    refine q_0 ?_
    refine q_5 rfl ?_
    refine q_33 rfl (by decide) (hP _ _ _ rfl) ?_
    refine q_3 rfl ?_
    first | refine q_38E _ rfl (by decide) rfl (by show _ < 11; omega) (by decide) (q6) ?_ | refine q_38 _ rfl (by decide) rfl (by show _ < 11; omega) (by decide) ?_
    refine q_42 _ rfl (by decide) rfl (by show _ < 32; omega) (by decide) ?_
    refine q_5 rfl ?_
    refine q_0 ?_
    refine q_3 rfl ?_
    refine q_42 _ rfl (by decide) rfl (by show _ < 32; omega) (by decide) ?_
    refine q_5 rfl ?_
    refine q_33 rfl (by decide) (hP _ _ _ rfl) ?_
    refine q_5 rfl ?_
    refine q_33 rfl (by decide) (hP _ _ _ rfl) ?_
    first | refine q_31E rfl (by decide) q2 ?_ | refine q_31 rfl (by decide) ?_
    refine q_5 rfl ?_
    refine q_33 rfl (by decide) (hP _ _ _ rfl) ?_
    first | refine q_31E rfl (by decide) q3 ?_ | refine q_31 rfl (by decide) ?_
    refine q_47 (mj_ev_mono _) [_, _] rfl rfl rfl (by decide) rfl rfl rfl ?_
    refine c_62 hP (R := R) (val := vL al (w.chm b) (w.chm a) (w.siz b) ho) (lo := 6) (hi := 10) (by decide) hk hf hok ?_ ?_
    · intro v hv1 hv2
      obtain rfl | rfl | rfl | rfl | rfl : v = 6 ∨ v = 7 ∨ v = 8 ∨ v = 9 ∨ v = 10 := by omega
      all_goals rfl
    intro I' e'
    refine q_26 ?_
    exact k I' (Eqf.tr (((((Eqf.rf.up rfl).up rfl).up rfl).up rfl).up rfl) (e'.to rfl rfl))
/-- ALIKE of two of the people -/
theorem c_87w (hP : PS t P) {ca ha cb hb : Nat} (hW : CT w I) (ia : a < w.n) (ib : b < w.n) (z1 : ca < 100 ∧ ha < 100) (z2 : cb < 100 ∧ hb < 100) (k : ∀ I', Eqf (frm [13, 15] []) I I' → Q (.inl (some (.int (alkV w.al (w.pat a) (w.woo a) (w.siz a) ca ha (w.pat b) (w.woo b) (w.siz b) cb hb)))) (107, I', L, P)) : mj_ev (d + 2) 87 [.ref 3, .int (nI a), .int (nI ca), .int (nI ha), .int (nI b), .int (nI cb), .int (nI hb)] (107, I, L, P) Q := by
  have hn10 := hW.n10
  obtain ⟨e1, e2, e3, -⟩ := hW.2.2.1 a ia
  obtain ⟨f1, f2, f3, -⟩ := hW.2.2.1 b ib
  obtain ⟨y1, y2, y3, y4, -⟩ := hW.1.2.1 a ia
  obtain ⟨x1, x2, x3, x4, -⟩ := hW.1.2.1 b ib
  exact c_87 hP (by omega) (by omega) hW.2.2.2.1 e1 e2 e3 f1 f2 f3 (by omega) (by omega) k
theorem c_156 (hP : PS t P) {ha hb : Nat} (hW : CT w I) (hR : CW w.n 32 33 34 c h m I) (ia : a < w.n) (ib : b < w.n) (z1 : ha < 100) (z2 : hb < 100) (k : ∀ I', Eqf (frm [13, 15] []) I I' → Q (.inl (some (.int (alkV w.al (w.pat a) (w.woo a) (w.siz a) (c a) ha (w.pat b) (w.woo b) (w.siz b) (c b) hb)))) (107, I', L, P)) : mj_ev (d + 3) 156 [.ref 0, .int (nI a), .int (nI ha), .int (nI b), .int (nI hb)] (107, I, L, P) Q := by
  refine ⟨rfl, ?_⟩
  have hn10 := hW.n10
  have r1 := hR.col ia
  have r2 := hR.col ib
  have r3 := hR.c10 ia
  have r4 := hR.c10 ib
  show mj_run (mj_ev (d + 2)) k156 Q (k156 0) [some (.ref 0), some (.int (nI a)), some (.int (nI ha)), some (.int (nI b)), some (.int (nI hb))] [] (107, I, L, P) 0 0
  refine q_5 rfl ?_
  refine q_33 rfl (by decide) (hP _ _ _ rfl) ?_
  refine q_3 rfl ?_
  refine q_5 rfl ?_
  refine q_33 rfl (by decide) (hP _ _ _ rfl) ?_
  refine q_33 rfl (by decide) (hP _ _ _ rfl) ?_
  refine q_3 rfl ?_
  first | refine q_38E _ rfl (by decide) rfl (by show _ < 10; omega) (by decide) (r1) ?_ | refine q_38E _ rfl (by decide) rfl (by show _ < 10; omega) (by decide) (r2) ?_ | refine q_38 _ rfl (by decide) rfl (by show _ < 10; omega) (by decide) ?_
  refine q_3 rfl ?_
  refine q_3 rfl ?_
  refine q_5 rfl ?_
  refine q_33 rfl (by decide) (hP _ _ _ rfl) ?_
  refine q_33 rfl (by decide) (hP _ _ _ rfl) ?_
  refine q_3 rfl ?_
  first | refine q_38E _ rfl (by decide) rfl (by show _ < 10; omega) (by decide) (r1) ?_ | refine q_38E _ rfl (by decide) rfl (by show _ < 10; omega) (by decide) (r2) ?_ | refine q_38 _ rfl (by decide) rfl (by show _ < 10; omega) (by decide) ?_
  refine q_3 rfl ?_
  refine q_47 (mj_ev_mono _) [_, _, _, _, _, _] rfl rfl rfl (by decide) rfl rfl rfl ?_
  refine c_87w hP hW ia ib ⟨by omega, z1⟩ ⟨by omega, z2⟩ (fun I' e' => ?_)
  refine q_26 ?_
  exact k I' e'
theorem c_149T (hP : PS t P) (hn : I 3 0 = nI n) (hn10 : n ≤ 10) (ha : a < n) (k : Q (.inl none) (107, I, L, P)) : mj_ev (d + 1) 149 [.ref 0, .int (nI a)] (107, I, L, P) Q := by
  refine ⟨rfl, ?_⟩
  show mj_run (mj_ev d) k149 Q (k149 0) [some (.ref 0), some (.int (nI a))] [] (107, I, L, P) 1 6
  refine q_3 rfl ?_
  first | refine q_ltN0 (by omega) ?_ | refine q_ltI0 (fun hh => absurd hh (by omega)) (fun hh => ?_)
  refine q_3 rfl ?_
  refine q_5 rfl ?_
  refine q_33 rfl (by decide) (hP _ _ _ rfl) ?_
  first | refine q_31E rfl (by decide) hn ?_ | refine q_31 rfl (by decide) ?_
  refine q_ltN (by omega) (by omega) (fun hh => ?_) (fun hh => absurd hh (by omega))
  refine q_25 ?_
  exact k
theorem c_149F {x : Int32} (hP : PS t P) (hn : I 3 0 = nI n) (hn10 : n ≤ 10) (hx : x < 0 ∨ nI n ≤ x) (k : Q (.inr 0) (107, I, L, P)) : mj_ev (d + 1) 149 [.ref 0, .int x] (107, I, L, P) Q := by
  refine ⟨rfl, ?_⟩
  show mj_run (mj_ev d) k149 Q (k149 0) [some (.ref 0), some (.int x)] [] (107, I, L, P) 1 6
  refine q_3 rfl ?_
  refine q_ltI0 (fun h1 => ?_) (fun h1 => ?_)
  · refine q_30 rfl rfl rfl rfl ?_
    exact k
  · refine q_3 rfl ?_
    refine q_5 rfl ?_
    refine q_33 rfl (by decide) (hP _ _ _ rfl) ?_
    first | refine q_31E rfl (by decide) hn ?_ | refine q_31 rfl (by decide) ?_
    refine q_ltI (fun h2 => absurd (hx.resolve_left h1) (Int32.not_le.mpr h2)) (fun h2 => ?_)
    refine q_30 rfl rfl rfl rfl ?_
    exact k
theorem c_150T {g : Nat} (ha : a ≤ g) (hg : g < 100) (k : Q (.inl none) (107, I, L, P)) : mj_ev (d + 1) 150 [.int (nI a), .int (nI g)] (107, I, L, P) Q := by
  refine ⟨rfl, ?_⟩
  show mj_run (mj_ev d) k150 Q (k150 0) [some (.int (nI a)), some (.int (nI g))] [] (107, I, L, P) 1 6
  refine q_3 rfl ?_
  first | refine q_ltN0 (by omega) ?_ | refine q_ltI0 (fun hh => absurd hh (by omega)) (fun hh => ?_)
  refine q_3 rfl ?_
  refine q_3 rfl ?_
  refine q_leN (by omega) (by omega) (fun hh => ?_) (fun hh => absurd hh (by omega))
  refine q_25 ?_
  exact k
theorem c_150F {g : Nat} {x : Int32} (hx : x < nI 0 ∨ nI g < x) (k : Q (.inr 0) (107, I, L, P)) : mj_ev (d + 1) 150 [.int x, .int (nI g)] (107, I, L, P) Q := by
  refine ⟨rfl, ?_⟩
  show mj_run (mj_ev d) k150 Q (k150 0) [some (.int x), some (.int (nI g))] [] (107, I, L, P) 1 6
  refine q_3 rfl ?_
  refine q_ltI0 (fun h1 => ?_) (fun h1 => ?_)
  · refine q_30 rfl rfl rfl rfl ?_
    exact k
  · refine q_3 rfl ?_
    refine q_3 rfl ?_
    refine q_leI (fun h2 => absurd (hx.resolve_left h1) (Int32.not_lt.mpr h2)) (fun h2 => ?_)
    refine q_30 rfl rfl rfl rfl ?_
    exact k
theorem c_151T (ha : a ≤ 30) (k : Q (.inl none) (107, I, L, P)) : mj_ev (d + 1) 151 [.int (nI a)] (107, I, L, P) Q := by
  refine ⟨rfl, ?_⟩
  show mj_run (mj_ev d) k151 Q (k151 0) [some (.int (nI a))] [] (107, I, L, P) 1 6
  refine q_3 rfl ?_
  first | refine q_ltN0 (by omega) ?_ | refine q_ltI0 (fun hh => absurd hh (by omega)) (fun hh => ?_)
  refine q_3 rfl ?_
  refine q_0 ?_
  refine q_leN (by omega) (by omega) (fun hh => ?_) (fun hh => absurd hh (by omega))
  refine q_25 ?_
  exact k
theorem c_151F {x : Int32} (hx : x < nI 0 ∨ nI 30 < x) (k : Q (.inr 1) (107, I, L, P)) : mj_ev (d + 1) 151 [.int x] (107, I, L, P) Q := by
  refine ⟨rfl, ?_⟩
  show mj_run (mj_ev d) k151 Q (k151 0) [some (.int x)] [] (107, I, L, P) 1 6
  refine q_3 rfl ?_
  refine q_ltI0 (fun h1 => ?_) (fun h1 => ?_)
  · refine q_30 rfl rfl rfl rfl ?_
    exact k
  · refine q_3 rfl ?_
    refine q_0 ?_
    refine q_leI (fun h2 => absurd (hx.resolve_left h1) (Int32.not_lt.mpr h2)) (fun h2 => ?_)
    refine q_30 rfl rfl rfl rfl ?_
    exact k
theorem c_152 (hP : PS t P) (hW : CT w I) (hR : CW w.n 32 33 34 c h m I) (k : Q (.inl (some (.int (nI (maskF (frs m) w.n))))) (107, I, L, P)) : mj_ev (d + 1) 152 [.ref 0] (107, I, L, P) Q := by
  refine ⟨rfl, ?_⟩
  have hn10 := hW.n10
  have hn := hW.hn
  have L4 : ∀ i, i ≤ w.n → mj_run (mj_ev d) k152 Q (k152 4) [some (.ref 0), some (.int (nI (maskF (frs m) i))), some (.int (nI i))] [] (107, I, L, P) 0 0 := by
    refine loop_up ?_ (fun i hi ih => ?_)
    · refine q_3 rfl ?_
      refine q_5 rfl ?_
      refine q_33 rfl (by decide) (hP _ _ _ rfl) ?_
      first | refine q_31E rfl (by decide) hn ?_ | refine q_31 rfl (by decide) ?_
      refine q_geN (by omega) (by omega) (fun hh => ?_) (fun hh => absurd hh (by omega))
      refine q_3 rfl ?_
      refine q_26 ?_
      exact k
    · have r3 := hR.mat hi
      have m3 := hR.m31 hi
      refine q_3 rfl ?_
      refine q_5 rfl ?_
      refine q_33 rfl (by decide) (hP _ _ _ rfl) ?_
      first | refine q_31E rfl (by decide) hn ?_ | refine q_31 rfl (by decide) ?_
      refine q_geN (by omega) (by omega) (fun hh => absurd hh (by omega)) (fun hh => ?_)
      refine q_5 rfl ?_
      refine q_33 rfl (by decide) (hP _ _ _ rfl) ?_
      refine q_33 rfl (by decide) (hP _ _ _ rfl) ?_
      refine q_3 rfl ?_
      first | refine q_38E _ rfl (by decide) rfl (by show _ < 10; omega) (by decide) (r3) ?_ | refine q_38 _ rfl (by decide) rfl (by show _ < 10; omega) (by decide) ?_
      refine q_1 ?_
      refine q_neM m3 (fun h1 => ?_) (fun h1 => ?_)
      · first | refine q_inc rfl rfl rfl ?_ | refine q_9 rfl rfl rfl ?_
        refine q_23 ?_
        first | (rw [maskF_no (frs m) (by unfold frs bm; simp [h1])] at ih; exact ih) | (have e := mask_acc1 (p := frs m) (i := i) (c := True) (by unfold frs bm; simp [h1]); rw [if_pos trivial] at e; rw [e]; exact ih)
      · refine q_3 rfl ?_
        refine q_0 ?_
        refine q_3 rfl ?_
        first | refine q_shl1 (by omega) ?_ | refine q_11 rfl ?_
        first | refine q_orN ?_ | refine q_11 rfl ?_
        refine q_6 rfl rfl rfl ?_
        first | refine q_inc rfl rfl rfl ?_ | refine q_9 rfl rfl rfl ?_
        refine q_23 ?_
        first | (rw [maskF_no (frs m) (by unfold frs bm; simp [h1])] at ih; exact ih) | (have e := mask_acc1 (p := frs m) (i := i) (c := True) (by unfold frs bm; simp [h1]); rw [if_pos trivial] at e; rw [e]; exact ih)
  show mj_run (mj_ev d) k152 Q (k152 0) [some (.ref 0), none, none] [] (107, I, L, P) 0 0
  refine q_0 ?_
  refine q_6 rfl rfl rfl ?_
  refine q_0 ?_
  refine q_6 rfl rfl rfl ?_
  exact L4 0 (by omega)
end C
