/-! the model's ALIKE, LIKING -/
/-- what a text told, in the model -/
def MT (w : WT) (I : mj_I) : Prop := w.ok ∧ I 73 1 = nI w.n ∧ (∀ p, p < w.n → I 74 p = nI (w.pat p) ∧ I 75 p = nI (w.woo p) ∧ I 76 p = nI (w.siz p) ∧ I 77 p = nI (w.chm p)) ∧ ruleAt (I 78) (I 73 2) 0 6 w.al ∧ ruleAt (I 78) (I 73 3) 6 10 w.li
theorem MT.fr {w : WT} {I I' : mj_I} {F : Nat → Nat → Bool} (h : MT w I) (e : Eqf F I I') (hF : ∀ j, F 73 1 = false ∧ F 73 2 = false ∧ F 73 3 = false ∧ F 74 j = false ∧ F 75 j = false ∧ F 76 j = false ∧ F 77 j = false ∧ F 78 j = false) : MT w I' := by
  obtain ⟨h0, h1, h2, h3, h4⟩ := h
  have e8 : I' 78 = I 78 := funext fun j => e 78 j (hF j).2.2.2.2.2.2.2
  refine ⟨h0, (e _ _ (hF 0).1).trans h1, fun p hp => ?_, ?_, ?_⟩
  · obtain ⟨q1, q2, q3, q4⟩ := h2 p hp
    exact ⟨(e _ _ (hF p).2.2.2.1).trans q1, (e _ _ (hF p).2.2.2.2.1).trans q2, (e _ _ (hF p).2.2.2.2.2.1).trans q3, (e _ _ (hF p).2.2.2.2.2.2.1).trans q4⟩
  · rw [e8, e _ _ (hF 0).2.1]
    exact h3
  · rw [e8, e _ _ (hF 0).2.2.1]
    exact h4
/-- a row of the model: colours, holes, to whom bound -/
def RW (n r : Nat) (c h : Nat → Nat) (m : Nat → Option Nat) (I : mj_I) : Prop := n ≤ 10 ∧ (∀ p, p < n → I 89 (r + 1 + p) = nI (c p)) ∧ (∀ p, p < n → I 89 (r + 12 + p) = nI (h p)) ∧ (∀ p, p < n → I 89 (r + 23 + p) = mI (m p)) ∧ (∀ p, p < n → c p < 10) ∧ (∀ p, p < n → h p < 10) ∧ gm n m
section RW
variable {n r : Nat} {c h : Nat → Nat} {m : Nat → Option Nat} {I I' : mj_I}
theorem RW.n10 (hR : RW n r c h m I) : n ≤ 10 := hR.1
theorem RW.col (hR : RW n r c h m I) {p : Nat} (hp : p < n) : I 89 (r + 1 + p) = nI (c p) := hR.2.1 p hp
theorem RW.hol (hR : RW n r c h m I) {p : Nat} (hp : p < n) : I 89 (r + 12 + p) = nI (h p) := hR.2.2.1 p hp
theorem RW.mat (hR : RW n r c h m I) {p : Nat} (hp : p < n) : I 89 (r + 23 + p) = mI (m p) := hR.2.2.2.1 p hp
theorem RW.col0 (hR : RW n 0 c h m I) {p : Nat} (hp : p < n) : I 89 (1 + p) = nI (c p) := by
  have := hR.col hp
  rw [Nat.zero_add] at this
  exact this
theorem RW.hol0 (hR : RW n 0 c h m I) {p : Nat} (hp : p < n) : I 89 (12 + p) = nI (h p) := by
  have := hR.hol hp
  rw [Nat.zero_add] at this
  exact this
theorem RW.mat0 (hR : RW n 0 c h m I) {p : Nat} (hp : p < n) : I 89 (23 + p) = mI (m p) := by
  have := hR.mat hp
  rw [Nat.zero_add] at this
  exact this
theorem RW.c10 (hR : RW n r c h m I) {p : Nat} (hp : p < n) : c p < 10 := hR.2.2.2.2.1 p hp
theorem RW.h10 (hR : RW n r c h m I) {p : Nat} (hp : p < n) : h p < 10 := hR.2.2.2.2.2.1 p hp
theorem RW.gm (hR : RW n r c h m I) : gm n m := hR.2.2.2.2.2.2
theorem RW.m31 (hR : RW n r c h m I) {p : Nat} (hp : p < n) : ∀ q, m p = some q → q < 2 ^ 31 := fun q hq => by
  have h1 := (hR.gm p hp q hq).1
  have h2 := hR.n10
  omega
theorem RW.fr {F : Nat → Nat → Bool} (hR : RW n r c h m I) (e : Eqf F I I') (hF : ∀ j, r ≤ j → j < r + 33 → F 89 j = false) : RW n r c h m I' := by
  have hn := hR.n10
  exact ⟨hn, fun p hp => (e _ _ (hF _ (by omega) (by omega))).trans (hR.col hp), fun p hp => (e _ _ (hF _ (by omega) (by omega))).trans (hR.hol hp), fun p hp => (e _ _ (hF _ (by omega) (by omega))).trans (hR.mat hp), hR.2.2.2.2⟩
end RW
section M
variable {I : mj_I} {L : mj_L} {P : mj_P} {Q : mj_Q} {σ : mj_S} {d n r t a b : Nat}
theorem s_204 (hP : PS t P) {al : Option RP} {pa wa sa ca ha pb wb sb cb hb : Nat} (hr : r ≤ 33) (ha10 : a ≤ 10) (hb10 : b ≤ 10) (hal : ruleAt (I 78) (I 73 2) 0 6 al)
    (e1 : I 74 a = nI pa) (e2 : I 75 a = nI wa) (e3 : I 76 a = nI sa) (e4 : I 89 (r + 1 + a) = nI ca) (f1 : I 74 b = nI pb) (f2 : I 75 b = nI wb) (f3 : I 76 b = nI sb) (f4 : I 89 (r + 1 + b) = nI cb)
    (z1 : pa < 100 ∧ wa < 100 ∧ sa < 100 ∧ ca < 100 ∧ ha < 100) (z2 : pb < 100 ∧ wb < 100 ∧ sb < 100 ∧ cb < 100 ∧ hb < 100)
    (k : ∀ I', Eqf (frm [91, 92] []) I I' → Q (.inl (some (.int (alkV al pa wa sa ca ha pb wb sb cb hb)))) (107, I', L, P)) : mj_ev (d + 3) 204 [.ref 73, .int (nI r), .int (nI a), .int (nI b), .int (nI ha), .int (nI hb)] (107, I, L, P) Q := by
  refine ⟨rfl, ?_⟩
  obtain ⟨y1, y2, y3, y4, y5⟩ := z1
  obtain ⟨x1, x2, x3, x4, x5⟩ := z2
  show mj_run (mj_ev (d + 2)) k204 Q (k204 0) [some (.ref 73), some (.int (nI r)), some (.int (nI a)), some (.int (nI b)), some (.int (nI ha)), some (.int (nI hb)), none, none, none] [] (107, I, L, P) 0 0
  cases al with
  | none =>
    have q2 : I 73 2 = -(nI 1) := hal
    refine q_5 rfl ?_
    refine q_33 rfl (by decide) (hP _ _ _ rfl) ?_
    refine q_3 rfl ?_
    refine q_0 ?_
    first | refine q_add ?_ | refine q_11 rfl ?_
    refine q_3 rfl ?_
    first | refine q_add ?_ | refine q_11 rfl ?_
    first | refine q_38E _ rfl (by decide) rfl (by show _ < 66; omega) (by decide) (e4) ?_ | refine q_38E _ rfl (by decide) rfl (by show _ < 66; omega) (by decide) (f4) ?_ | refine q_38 _ rfl (by decide) rfl (by show _ < 66; omega) (by decide) ?_
    refine q_5 rfl ?_
    refine q_33 rfl (by decide) (hP _ _ _ rfl) ?_
    refine q_3 rfl ?_
    refine q_0 ?_
    first | refine q_add ?_ | refine q_11 rfl ?_
    refine q_3 rfl ?_
    first | refine q_add ?_ | refine q_11 rfl ?_
    first | refine q_38E _ rfl (by decide) rfl (by show _ < 66; omega) (by decide) (e4) ?_ | refine q_38E _ rfl (by decide) rfl (by show _ < 66; omega) (by decide) (f4) ?_ | refine q_38 _ rfl (by decide) rfl (by show _ < 66; omega) (by decide) ?_
    refine q_48 (mj_ev_mono _) [_, _] rfl rfl rfl rfl rfl ?_
    refine s_203 (by omega) (by omega) ?_
    refine q_6 rfl rfl rfl ?_
    refine q_5 rfl ?_
    refine q_33 rfl (by decide) (hP _ _ _ rfl) ?_
    refine q_3 rfl ?_
    first | refine q_38E _ rfl (by decide) rfl (by show _ < 11; omega) (by decide) (e3) ?_ | refine q_38E _ rfl (by decide) rfl (by show _ < 11; omega) (by decide) (f3) ?_ | refine q_38 _ rfl (by decide) rfl (by show _ < 11; omega) (by decide) ?_
    refine q_5 rfl ?_
    refine q_33 rfl (by decide) (hP _ _ _ rfl) ?_
    refine q_3 rfl ?_
    first | refine q_38E _ rfl (by decide) rfl (by show _ < 11; omega) (by decide) (e3) ?_ | refine q_38E _ rfl (by decide) rfl (by show _ < 11; omega) (by decide) (f3) ?_ | refine q_38 _ rfl (by decide) rfl (by show _ < 11; omega) (by decide) ?_
    refine q_48 (mj_ev_mono _) [_, _] rfl rfl rfl rfl rfl ?_
    refine s_203 (by omega) (by omega) ?_
    refine q_6 rfl rfl rfl ?_
    refine q_3 rfl ?_
    refine q_3 rfl ?_
    refine q_48 (mj_ev_mono _) [_, _] rfl rfl rfl rfl rfl ?_
    refine s_203 (by omega) (by omega) ?_
    refine q_6 rfl rfl rfl ?_
    refine q_5 rfl ?_
    first | refine q_31E rfl (by decide) q2 ?_ | refine q_31 rfl (by decide) ?_
    refine q_1 ?_
    refine q_neI (fun h => absurd rfl h) (fun _ => ?_)
    refine q_0 ?_
    refine q_3 rfl ?_
    refine q_11 rfl ?_
    refine q_3 rfl ?_
    refine q_11 rfl ?_
    refine q_3 rfl ?_
    refine q_11 rfl ?_
    refine q_5 rfl ?_
    refine q_33 rfl (by decide) (hP _ _ _ rfl) ?_
    refine q_3 rfl ?_
    first | refine q_38E _ rfl (by decide) rfl (by show _ < 11; omega) (by decide) (e1) ?_ | refine q_38E _ rfl (by decide) rfl (by show _ < 11; omega) (by decide) (f1) ?_ | refine q_38 _ rfl (by decide) rfl (by show _ < 11; omega) (by decide) ?_
    refine q_5 rfl ?_
    refine q_33 rfl (by decide) (hP _ _ _ rfl) ?_
    refine q_3 rfl ?_
    first | refine q_38E _ rfl (by decide) rfl (by show _ < 11; omega) (by decide) (e1) ?_ | refine q_38E _ rfl (by decide) rfl (by show _ < 11; omega) (by decide) (f1) ?_ | refine q_38 _ rfl (by decide) rfl (by show _ < 11; omega) (by decide) ?_
    first | refine q_d22_1Nn (J := 90) (by omega) (by omega) (fun j => q_0 (j)) (fun j => q_0 (q_23 (j))) ?_ | refine q_d22_1Ni (J := 90) (by omega) (by omega) (fun j => q_0 (j)) (fun j => q_0 (q_23 (j))) ?_ | refine q_d22_1Mn (J := 90) (by assumption) (fun j => q_0 (j)) (fun j => q_0 (q_23 (j))) ?_ | refine q_d22_1In (J := 90) (fun j => q_0 (j)) (fun j => q_0 (q_23 (j))) ?_ | refine q_d22_1Ii (J := 90) (fun j => q_0 (j)) (fun j => q_0 (q_23 (j))) ?_
    refine q_11 rfl ?_
    refine q_26 ?_
    exact k I Eqf.rf
  | some R =>
    obtain ⟨k0, q2, hc, hk, hok⟩ := hal
    refine q_5 rfl ?_
    refine q_33 rfl (by decide) (hP _ _ _ rfl) ?_
    refine q_3 rfl ?_
    refine q_0 ?_
    first | refine q_add ?_ | refine q_11 rfl ?_
    refine q_3 rfl ?_
    first | refine q_add ?_ | refine q_11 rfl ?_
    first | refine q_38E _ rfl (by decide) rfl (by show _ < 66; omega) (by decide) (e4) ?_ | refine q_38E _ rfl (by decide) rfl (by show _ < 66; omega) (by decide) (f4) ?_ | refine q_38 _ rfl (by decide) rfl (by show _ < 66; omega) (by decide) ?_
    refine q_5 rfl ?_
    refine q_33 rfl (by decide) (hP _ _ _ rfl) ?_
    refine q_3 rfl ?_
    refine q_0 ?_
    first | refine q_add ?_ | refine q_11 rfl ?_
    refine q_3 rfl ?_
    first | refine q_add ?_ | refine q_11 rfl ?_
    first | refine q_38E _ rfl (by decide) rfl (by show _ < 66; omega) (by decide) (e4) ?_ | refine q_38E _ rfl (by decide) rfl (by show _ < 66; omega) (by decide) (f4) ?_ | refine q_38 _ rfl (by decide) rfl (by show _ < 66; omega) (by decide) ?_
    refine q_48 (mj_ev_mono _) [_, _] rfl rfl rfl rfl rfl ?_
    refine s_203 (by omega) (by omega) ?_
    refine q_6 rfl rfl rfl ?_
    refine q_5 rfl ?_
    refine q_33 rfl (by decide) (hP _ _ _ rfl) ?_
    refine q_3 rfl ?_
    first | refine q_38E _ rfl (by decide) rfl (by show _ < 11; omega) (by decide) (e3) ?_ | refine q_38E _ rfl (by decide) rfl (by show _ < 11; omega) (by decide) (f3) ?_ | refine q_38 _ rfl (by decide) rfl (by show _ < 11; omega) (by decide) ?_
    refine q_5 rfl ?_
    refine q_33 rfl (by decide) (hP _ _ _ rfl) ?_
    refine q_3 rfl ?_
    first | refine q_38E _ rfl (by decide) rfl (by show _ < 11; omega) (by decide) (e3) ?_ | refine q_38E _ rfl (by decide) rfl (by show _ < 11; omega) (by decide) (f3) ?_ | refine q_38 _ rfl (by decide) rfl (by show _ < 11; omega) (by decide) ?_
    refine q_48 (mj_ev_mono _) [_, _] rfl rfl rfl rfl rfl ?_
    refine s_203 (by omega) (by omega) ?_
    refine q_6 rfl rfl rfl ?_
    refine q_3 rfl ?_
    refine q_3 rfl ?_
    refine q_48 (mj_ev_mono _) [_, _] rfl rfl rfl rfl rfl ?_
    refine s_203 (by omega) (by omega) ?_
    refine q_6 rfl rfl rfl ?_
    refine q_5 rfl ?_
    first | refine q_31E rfl (by decide) q2 ?_ | refine q_31 rfl (by decide) ?_
    refine q_1 ?_
    refine q_neI (fun _ => ?_) (fun h => absurd (mI_ne (by omega)) h)
    refine q_5 rfl ?_
    refine q_33 rfl (by decide) (hP _ _ _ rfl) ?_
    refine q_0 ?_
    refine q_3 rfl ?_
    refine q_42 _ rfl (by decide) rfl (by show _ < 11; omega) (by decide) ?_
    refine q_5 rfl ?_
    refine q_33 rfl (by decide) (hP _ _ _ rfl) ?_
    refine q_0 ?_
    refine q_3 rfl ?_
    refine q_42 _ rfl (by decide) rfl (by show _ < 11; omega) (by decide) ?_
    refine q_5 rfl ?_
    refine q_33 rfl (by decide) (hP _ _ _ rfl) ?_
    refine q_0 ?_
    refine q_3 rfl ?_
    refine q_42 _ rfl (by decide) rfl (by show _ < 11; omega) (by decide) ?_
    refine q_5 rfl ?_
    refine q_33 rfl (by decide) (hP _ _ _ rfl) ?_
    refine q_0 ?_
    refine q_3 rfl ?_
    refine q_3 rfl ?_
    first | refine q_add ?_ | refine q_11 rfl ?_
    refine q_42 _ rfl (by decide) rfl (by show _ < 11; omega) (by decide) ?_
    refine q_5 rfl ?_
    refine q_33 rfl (by decide) (hP _ _ _ rfl) ?_
    refine q_0 ?_
    refine q_5 rfl ?_
    refine q_33 rfl (by decide) (hP _ _ _ rfl) ?_
    refine q_3 rfl ?_
    first | refine q_38E _ rfl (by decide) rfl (by show _ < 11; omega) (by decide) (e1) ?_ | refine q_38E _ rfl (by decide) rfl (by show _ < 11; omega) (by decide) (f1) ?_ | refine q_38 _ rfl (by decide) rfl (by show _ < 11; omega) (by decide) ?_
    refine q_5 rfl ?_
    refine q_33 rfl (by decide) (hP _ _ _ rfl) ?_
    refine q_3 rfl ?_
    first | refine q_38E _ rfl (by decide) rfl (by show _ < 11; omega) (by decide) (e1) ?_ | refine q_38E _ rfl (by decide) rfl (by show _ < 11; omega) (by decide) (f1) ?_ | refine q_38 _ rfl (by decide) rfl (by show _ < 11; omega) (by decide) ?_
    first | refine q_d22_1Nn (J := 153) (by omega) (by omega) (fun j => q_0 (j)) (fun j => q_0 (q_23 (j))) ?_ | refine q_d22_1Ni (J := 153) (by omega) (by omega) (fun j => q_0 (j)) (fun j => q_0 (q_23 (j))) ?_ | refine q_d22_1Mn (J := 153) (by assumption) (fun j => q_0 (j)) (fun j => q_0 (q_23 (j))) ?_ | refine q_d22_1In (J := 153) (fun j => q_0 (j)) (fun j => q_0 (q_23 (j))) ?_ | refine q_d22_1Ii (J := 153) (fun j => q_0 (j)) (fun j => q_0 (q_23 (j))) ?_
    refine q_42 _ rfl (by decide) rfl (by show _ < 11; omega) (by decide) ?_
    refine q_5 rfl ?_
    refine q_33 rfl (by decide) (hP _ _ _ rfl) ?_
    refine q_0 ?_
    refine q_5 rfl ?_
    refine q_33 rfl (by decide) (hP _ _ _ rfl) ?_
    refine q_3 rfl ?_
    first | refine q_38E _ rfl (by decide) rfl (by show _ < 11; omega) (by decide) (e2) ?_ | refine q_38E _ rfl (by decide) rfl (by show _ < 11; omega) (by decide) (f2) ?_ | refine q_38 _ rfl (by decide) rfl (by show _ < 11; omega) (by decide) ?_
    refine q_5 rfl ?_
    refine q_33 rfl (by decide) (hP _ _ _ rfl) ?_
    refine q_3 rfl ?_
    first | refine q_38E _ rfl (by decide) rfl (by show _ < 11; omega) (by decide) (e2) ?_ | refine q_38E _ rfl (by decide) rfl (by show _ < 11; omega) (by decide) (f2) ?_ | refine q_38 _ rfl (by decide) rfl (by show _ < 11; omega) (by decide) ?_
    first | refine q_d22_1Nn (J := 179) (by omega) (by omega) (fun j => q_0 (j)) (fun j => q_0 (q_23 (j))) ?_ | refine q_d22_1Ni (J := 179) (by omega) (by omega) (fun j => q_0 (j)) (fun j => q_0 (q_23 (j))) ?_ | refine q_d22_1Mn (J := 179) (by assumption) (fun j => q_0 (j)) (fun j => q_0 (q_23 (j))) ?_ | refine q_d22_1In (J := 179) (fun j => q_0 (j)) (fun j => q_0 (q_23 (j))) ?_ | refine q_d22_1Ii (J := 179) (fun j => q_0 (j)) (fun j => q_0 (q_23 (j))) ?_
    refine q_42 _ rfl (by decide) rfl (by show _ < 11; omega) (by decide) ?_
    refine q_5 rfl ?_
    refine q_33 rfl (by decide) (hP _ _ _ rfl) ?_
    refine q_0 ?_
    refine q_5 rfl ?_
    refine q_33 rfl (by decide) (hP _ _ _ rfl) ?_
    refine q_3 rfl ?_
    first | refine q_38E _ rfl (by decide) rfl (by show _ < 11; omega) (by decide) (e1) ?_ | refine q_38E _ rfl (by decide) rfl (by show _ < 11; omega) (by decide) (f1) ?_ | refine q_38 _ rfl (by decide) rfl (by show _ < 11; omega) (by decide) ?_
    first | refine q_d21_1Nn (J := 199) (by omega) (fun j => q_0 (j)) (fun j => q_0 (q_23 (j))) ?_ | refine q_d21_1Ni (J := 199) (by omega) (fun j => q_0 (j)) (fun j => q_0 (q_23 (j))) ?_ | refine q_d21_1In (J := 199) (fun j => q_0 (j)) (fun j => q_0 (q_23 (j))) ?_ | refine q_d21_1Ii (J := 199) (fun j => q_0 (j)) (fun j => q_0 (q_23 (j))) ?_
    refine q_5 rfl ?_
    refine q_33 rfl (by decide) (hP _ _ _ rfl) ?_
    refine q_3 rfl ?_
    first | refine q_38E _ rfl (by decide) rfl (by show _ < 11; omega) (by decide) (e1) ?_ | refine q_38E _ rfl (by decide) rfl (by show _ < 11; omega) (by decide) (f1) ?_ | refine q_38 _ rfl (by decide) rfl (by show _ < 11; omega) (by decide) ?_
    first | refine q_d21_1Nn (J := 213) (by omega) (fun j => q_0 (j)) (fun j => q_0 (q_23 (j))) ?_ | refine q_d21_1Ni (J := 213) (by omega) (fun j => q_0 (j)) (fun j => q_0 (q_23 (j))) ?_ | refine q_d21_1In (J := 213) (fun j => q_0 (j)) (fun j => q_0 (q_23 (j))) ?_ | refine q_d21_1Ii (J := 213) (fun j => q_0 (j)) (fun j => q_0 (q_23 (j))) ?_
    first | refine q_add ?_ | refine q_11 rfl ?_
    refine q_42 _ rfl (by decide) rfl (by show _ < 11; omega) (by decide) ?_
    refine q_5 rfl ?_
    refine q_5 rfl ?_
    first | refine q_31E rfl (by decide) q2 ?_ | refine q_31 rfl (by decide) ?_
    refine q_47 (mj_ev_mono _) [_] rfl rfl rfl (by decide) rfl rfl rfl ?_
    refine s_202 hP (by decide) (R := R) (val := vA (dif ca cb) (dif sa sb) (dif ha hb) (ha + hb) (if pa = pb then 1 else 0) (if wa = wb then 1 else 0) ((if pa = 0 then 1 else 0) + (if pb = 0 then 1 else 0))) hc hk hok ?_ ?_
    · intro v hv1 hv2
      obtain rfl | rfl | rfl | rfl | rfl | rfl | rfl : v = 0 ∨ v = 1 ∨ v = 2 ∨ v = 3 ∨ v = 4 ∨ v = 5 ∨ v = 6 := by omega
      all_goals rfl
    intro I' e'
    refine q_26 ?_
    exact k I' (Eqf.tr (((((((Eqf.rf.up rfl).up rfl).up rfl).up rfl).up rfl).up rfl).up rfl) (e'.to rfl rfl))
theorem s_205 (hP : PS t P) {w : WT} {c h : Nat → Nat} {m : Nat → Option Nat} (hr : r ≤ 33) (hW : MT w I) (hR : RW w.n r c h m I) (ha : a < w.n) (hb : b < w.n) (k : ∀ I', Eqf (frm [91, 92] []) I I' → Q (.inl (some (.int (alk w c h a b)))) (107, I', L, P)) : mj_ev (d + 4) 205 [.ref 73, .int (nI r), .int (nI a), .int (nI b)] (107, I, L, P) Q := by
  refine ⟨rfl, ?_⟩
  obtain ⟨hw0, hn, hW2, hW3, hW4⟩ := hW
  have hn10 := hw0.1
  obtain ⟨e1, e2, e3, -⟩ := hW2 a ha
  obtain ⟨f1, f2, f3, -⟩ := hW2 b hb
  obtain ⟨z1, z2, z3, z4, -⟩ := hw0.2.1 a ha
  obtain ⟨y1, y2, y3, y4, -⟩ := hw0.2.1 b hb
  have hca := hR.c10 ha
  have hcb := hR.c10 hb
  have hha := hR.h10 ha
  have hhb := hR.h10 hb
  have g1 := hR.hol ha
  have g2 := hR.hol hb
  show mj_run (mj_ev (d + 3)) k205 Q (k205 0) [some (.ref 73), some (.int (nI r)), some (.int (nI a)), some (.int (nI b))] [] (107, I, L, P) 0 0
  refine q_5 rfl ?_
  refine q_3 rfl ?_
  refine q_3 rfl ?_
  refine q_3 rfl ?_
  refine q_5 rfl ?_
  refine q_33 rfl (by decide) (hP _ _ _ rfl) ?_
  refine q_3 rfl ?_
  refine q_0 ?_
  first | refine q_add ?_ | refine q_11 rfl ?_
  refine q_3 rfl ?_
  first | refine q_add ?_ | refine q_11 rfl ?_
  first | refine q_38E _ rfl (by decide) rfl (by show _ < 66; omega) (by decide) (g1) ?_ | refine q_38E _ rfl (by decide) rfl (by show _ < 66; omega) (by decide) (g2) ?_ | refine q_38 _ rfl (by decide) rfl (by show _ < 66; omega) (by decide) ?_
  refine q_5 rfl ?_
  refine q_33 rfl (by decide) (hP _ _ _ rfl) ?_
  refine q_3 rfl ?_
  refine q_0 ?_
  first | refine q_add ?_ | refine q_11 rfl ?_
  refine q_3 rfl ?_
  first | refine q_add ?_ | refine q_11 rfl ?_
  first | refine q_38E _ rfl (by decide) rfl (by show _ < 66; omega) (by decide) (g1) ?_ | refine q_38E _ rfl (by decide) rfl (by show _ < 66; omega) (by decide) (g2) ?_ | refine q_38 _ rfl (by decide) rfl (by show _ < 66; omega) (by decide) ?_
  refine q_47 (mj_ev_mono _) [_, _, _, _, _] rfl rfl rfl (by decide) rfl rfl rfl ?_
  refine s_204 hP hr (by omega) (by omega) hW3 e1 e2 e3 (hR.col ha) f1 f2 f3 (hR.col hb) (by omega) (by omega) (fun I' e' => ?_)
  refine q_26 ?_
  exact k I' e'
theorem s_206 (hP : PS t P) {w : WT} {c h : Nat → Nat} {m : Nat → Option Nat} (hr : r ≤ 33) (hW : MT w I) (hR : RW w.n r c h m I) (ha : a < w.n) (hb : b < w.n) (k : ∀ I', Eqf (frm [91, 92] []) I I' → Q (.inl (some (.int (nI (if a = b then 0 else if 0 < alk w c h a b then 1 else 0))))) (107, I', L, P)) : mj_ev (d + 5) 206 [.ref 73, .int (nI r), .int (nI a), .int (nI b)] (107, I, L, P) Q := by
  refine ⟨rfl, ?_⟩
  have hn10 := hW.1.1
  show mj_run (mj_ev (d + 4)) k206 Q (k206 0) [some (.ref 73), some (.int (nI r)), some (.int (nI a)), some (.int (nI b))] [] (107, I, L, P) 0 0
  refine q_3 rfl ?_
  refine q_3 rfl ?_
  refine q_eqN (by omega) (by omega) (fun h1 => ?_) (fun h1 => ?_)
  · refine q_0 ?_
    refine q_27 (by first | exact Or.inl rfl | exact Or.inr rfl | (split <;> first | exact Or.inl rfl | exact Or.inr rfl)) ?_
    first | exact kQ (k I Eqf.rf) (by rw [if_pos h1]) | exact kQ (k I' e') (by rw [if_neg h1])
  · refine q_5 rfl ?_
    refine q_3 rfl ?_
    refine q_3 rfl ?_
    refine q_3 rfl ?_
    refine q_47 (mj_ev_mono _) [_, _, _] rfl rfl rfl (by decide) rfl rfl rfl ?_
    refine s_205 hP hr hW hR ha hb (fun I' e' => ?_)
    first | refine q_d21_5Nn (J := 20) (by omega) (fun j => q_0 (j)) (fun j => q_0 (q_23 (j))) ?_ | refine q_d21_5Ni (J := 20) (by omega) (fun j => q_0 (j)) (fun j => q_0 (q_23 (j))) ?_ | refine q_d21_5In (J := 20) (fun j => q_0 (j)) (fun j => q_0 (q_23 (j))) ?_ | refine q_d21_5Ii (J := 20) (fun j => q_0 (j)) (fun j => q_0 (q_23 (j))) ?_
    refine q_27 (by first | exact Or.inl rfl | exact Or.inr rfl | (split <;> first | exact Or.inl rfl | exact Or.inr rfl)) ?_
    first | exact kQ (k I Eqf.rf) (by rw [if_pos h1]) | exact kQ (k I' e') (by rw [if_neg h1])
theorem s_207 (hP : PS t P) {w : WT} {c h : Nat → Nat} {m : Nat → Option Nat} (hW : MT w I) (hR : RW w.n 0 c h m I) (ha : a < w.n) (hb : b < w.n) (k : ∀ I', Eqf (frm [91, 92] []) I I' → Q (.inl (some (.int (lik w c h a b)))) (107, I', L, P)) : mj_ev (d + 5) 207 [.ref 73, .int (nI a), .int (nI b)] (107, I, L, P) Q := by
  refine ⟨rfl, ?_⟩
  have hn10 := hW.1.1
  show mj_run (mj_ev (d + 4)) k207 Q (k207 0) [some (.ref 73), some (.int (nI a)), some (.int (nI b)), none] [] (107, I, L, P) 0 0
  cases hli : w.li with
  | none =>
    have el : alk w c h a b + nI (w.chm b) = lik w c h a b := by
      unfold lik
      rw [hli]
    refine q_5 rfl ?_
    refine q_0 ?_
    refine q_3 rfl ?_
    refine q_3 rfl ?_
    refine q_47 (mj_ev_mono _) [_, _, _] rfl rfl rfl (by decide) rfl rfl rfl ?_
    refine s_205 hP (Nat.zero_le _) hW hR ha hb (fun I' e' => ?_)
    have hW' : MT w I' := hW.fr e' (fun j => ⟨rfl, rfl, rfl, rfl, rfl, rfl, rfl, rfl⟩)
    have q3 : I' 73 3 = -(nI 1) := by
      have := hW'.2.2.2.2
      rw [hli] at this
      exact this
    have q7 := (hW'.2.2.1 b hb).2.2.2
    refine q_6 rfl rfl rfl ?_
    refine q_5 rfl ?_
    first | refine q_31E rfl (by decide) q3 ?_ | refine q_31 rfl (by decide) ?_
    refine q_1 ?_
    refine q_neI (fun h => absurd rfl h) (fun _ => ?_)
    refine q_3 rfl ?_
    refine q_5 rfl ?_
    refine q_33 rfl (by decide) (hP _ _ _ rfl) ?_
    refine q_3 rfl ?_
    first | refine q_38E _ rfl (by decide) rfl (by show _ < 11; omega) (by decide) (q7) ?_ | refine q_38 _ rfl (by decide) rfl (by show _ < 11; omega) (by decide) ?_
    refine q_11 rfl ?_
    refine q_26 ?_
    exact kQ (k I' e') el
  | some R =>
    have el : lik w c h a b = rpv (vL (alk w c h a b) (w.chm b) (w.chm a) (w.siz b) (h b)) R := by
      unfold lik
      rw [hli]
    refine q_5 rfl ?_
    refine q_0 ?_
    refine q_3 rfl ?_
    refine q_3 rfl ?_
    refine q_47 (mj_ev_mono _) [_, _, _] rfl rfl rfl (by decide) rfl rfl rfl ?_
    refine s_205 hP (Nat.zero_le _) hW hR ha hb (fun I' e' => ?_)
    have hW' : MT w I' := hW.fr e' (fun j => ⟨rfl, rfl, rfl, rfl, rfl, rfl, rfl, rfl⟩)
    have hR' : RW w.n 0 c h m I' := hR.fr e' (fun j _ _ => rfl)
    obtain ⟨k0, q3, hc, hk, hok⟩ : ∃ k, I' 73 3 = nI k ∧ codeAt (I' 78) k R ∧ k + 2 * R.length + 1 ≤ 1400 ∧ rpok 6 10 36 R 0 := by
      have := hW'.2.2.2.2
      rw [hli] at this
      exact this
    have qb7 := (hW'.2.2.1 b hb).2.2.2
    have qa7 := (hW'.2.2.1 a ha).2.2.2
    have qs := (hW'.2.2.1 b hb).2.2.1
    have qh := hR'.hol0 hb
    refine q_6 rfl rfl rfl ?_
    refine q_5 rfl ?_
    first | refine q_31E rfl (by decide) q3 ?_ | refine q_31 rfl (by decide) ?_
    refine q_1 ?_
    refine q_neI (fun _ => ?_) (fun h => absurd (mI_ne (by omega)) h)
    refine q_5 rfl ?_
    refine q_33 rfl (by decide) (hP _ _ _ rfl) ?_
    refine q_0 ?_
    refine q_3 rfl ?_
    refine q_42 _ rfl (by decide) rfl (by show _ < 11; omega) (by decide) ?_
    refine q_5 rfl ?_
    refine q_33 rfl (by decide) (hP _ _ _ rfl) ?_
    refine q_0 ?_
    refine q_5 rfl ?_
    refine q_33 rfl (by decide) (hP _ _ _ rfl) ?_
    refine q_3 rfl ?_
    first | refine q_38E _ rfl (by decide) rfl (by show _ < 11; omega) (by decide) (qb7) ?_ | refine q_38E _ rfl (by decide) rfl (by show _ < 11; omega) (by decide) (qa7) ?_ | refine q_38 _ rfl (by decide) rfl (by show _ < 11; omega) (by decide) ?_
    refine q_42 _ rfl (by decide) rfl (by show _ < 11; omega) (by decide) ?_
    refine q_5 rfl ?_
    refine q_33 rfl (by decide) (hP _ _ _ rfl) ?_
    refine q_0 ?_
    refine q_5 rfl ?_
    refine q_33 rfl (by decide) (hP _ _ _ rfl) ?_
    refine q_3 rfl ?_
    first | refine q_38E _ rfl (by decide) rfl (by show _ < 11; omega) (by decide) (qb7) ?_ | refine q_38E _ rfl (by decide) rfl (by show _ < 11; omega) (by decide) (qa7) ?_ | refine q_38 _ rfl (by decide) rfl (by show _ < 11; omega) (by decide) ?_
    refine q_42 _ rfl (by decide) rfl (by show _ < 11; omega) (by decide) ?_
    refine q_5 rfl ?_
    refine q_33 rfl (by decide) (hP _ _ _ rfl) ?_
    refine q_0 ?_
    refine q_5 rfl ?_
    refine q_33 rfl (by decide) (hP _ _ _ rfl) ?_
    refine q_3 rfl ?_
    first | refine q_38E _ rfl (by decide) rfl (by show _ < 11; omega) (by decide) (qs) ?_ | refine q_38 _ rfl (by decide) rfl (by show _ < 11; omega) (by decide) ?_
    refine q_42 _ rfl (by decide) rfl (by show _ < 11; omega) (by decide) ?_
    refine q_5 rfl ?_
    refine q_33 rfl (by decide) (hP _ _ _ rfl) ?_
    refine q_0 ?_
    refine q_5 rfl ?_
    refine q_33 rfl (by decide) (hP _ _ _ rfl) ?_
    refine q_0 ?_
    refine q_3 rfl ?_
    first | refine q_add ?_ | refine q_11 rfl ?_
    first | refine q_38E _ rfl (by decide) rfl (by show _ < 66; omega) (by decide) (qh) ?_ | refine q_38 _ rfl (by decide) rfl (by show _ < 66; omega) (by decide) ?_
    refine q_42 _ rfl (by decide) rfl (by show _ < 11; omega) (by decide) ?_
    refine q_5 rfl ?_
    refine q_5 rfl ?_
    first | refine q_31E rfl (by decide) q3 ?_ | refine q_31 rfl (by decide) ?_
    refine q_47 (mj_ev_mono _) [_] rfl rfl rfl (by decide) rfl rfl rfl ?_
    refine s_202 hP (by decide) (R := R) (val := vL (alk w c h a b) (w.chm b) (w.chm a) (w.siz b) (h b)) hc hk hok ?_ ?_
    · intro v hv1 hv2
      obtain rfl | rfl | rfl | rfl | rfl : v = 6 ∨ v = 7 ∨ v = 8 ∨ v = 9 ∨ v = 10 := by omega
      all_goals rfl
    intro I2 e2
    refine q_26 ?_
    rw [← el]
    exact k I2 (e'.tr (Eqf.tr (((((Eqf.rf.up rfl).up rfl).up rfl).up rfl).up rfl) (e2.to rfl rfl)))
end M
