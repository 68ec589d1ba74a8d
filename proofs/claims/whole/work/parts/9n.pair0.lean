/-! the law: each call on both sides, what both answer -/
theorem nI_int {k : Nat} (hk : k < 2 ^ 31) : (nI k).toInt = (k : Int) := by
  show (Int32.ofNat k).toInt = k
  exact Int32.toInt_ofNat_of_lt hk
theorem rg (x : Int32) {k : Nat} (hk : k < 2 ^ 31) : (∃ a, a ≤ k ∧ x = nI a) ∨ (x < nI 0 ∨ nI k < x) := by
  by_cases h0 : x < nI 0
  · exact Or.inr (Or.inl h0)
  · by_cases h1 : nI k < x
    · exact Or.inr (Or.inr h1)
    · rw [Int32.lt_iff_toInt_lt, nI_int (by decide)] at h0
      rw [Int32.lt_iff_toInt_lt, nI_int hk] at h1
      refine Or.inl ⟨x.toInt.toNat, by omega, ?_⟩
      apply Int32.toInt_inj.mp
      rw [nI_int (by omega)]
      omega
theorem rp (x : Int32) {n : Nat} (hn : n ≤ 10) : (∃ a, a < n ∧ x = nI a) ∨ (x < 0 ∨ nI n ≤ x) := by
  by_cases h0 : x < 0
  · exact Or.inr (Or.inl h0)
  · by_cases h1 : nI n ≤ x
    · exact Or.inr (Or.inr h1)
    · have e0 : (0 : Int32).toInt = 0 := by decide
      rw [Int32.lt_iff_toInt_lt, e0] at h0
      rw [Int32.le_iff_toInt_le, nI_int (by omega)] at h1
      refine Or.inl ⟨x.toInt.toNat, by omega, ?_⟩
      apply Int32.toInt_inj.mp
      rw [nI_int (by omega)]
      omega
/-- -1, a person, or neither -/
theorem rn (x : Int32) {n : Nat} (hn : n ≤ 10) : x = -(nI 1) ∨ (∃ a, a < n ∧ x = nI a) ∨ (x < -(nI 1) ∨ nI n ≤ x) := by
  rcases rp x hn with h | h | h
  · exact Or.inr (Or.inl h)
  · by_cases e : x = -(nI 1)
    · exact Or.inl e
    · refine Or.inr (Or.inr (Or.inl ?_))
      have e0 : (0 : Int32).toInt = 0 := by decide
      have e1 : (-(nI 1)).toInt = -1 := by decide
      rw [Int32.lt_iff_toInt_lt, e0] at h
      rw [Int32.lt_iff_toInt_lt, e1]
      have : x.toInt ≠ -1 := fun q => e (Int32.toInt_inj.mp (q.trans e1.symm))
      omega
  · exact Or.inr (Or.inr (Or.inr h))
theorem rsc_memn {F : (Nat → Bool) → MM → List MM} {ok : Nat → Nat → Bool} {n : Nat} {S : Nat → Bool} {m m' : MM} {p : Nat} : ∀ {j : Nat}, m' ∈ rsc F ok n S m p j → ∃ q, q < n ∧ m' ∈ F (sm (sm S p) q) (bnd m p q)
  | 0, h => absurd h List.not_mem_nil
  | j + 1, h => by
    have h' : m' ∈ (if p < n - 1 - j ∧ S (n - 1 - j) = true ∧ ok p (n - 1 - j) = true then F (sm (sm S p) (n - 1 - j)) (bnd m p (n - 1 - j)) else []) ++ rsc F ok n S m p j := h
    rcases List.mem_append.mp h' with h1 | h1
    · by_cases hc : p < n - 1 - j ∧ S (n - 1 - j) = true ∧ ok p (n - 1 - j) = true
      · rw [if_pos hc] at h1
        exact ⟨_, by omega, h1⟩
      · rw [if_neg hc] at h1
        exact absurd h1 List.not_mem_nil
    · exact rsc_memn h1
theorem rs_lt {ok : Nat → Nat → Bool} {n : Nat} (hn : n ≤ 10) : ∀ {i : Nat} {S : Nat → Bool} {m m' : MM}, m' ∈ rs ok n i S m → (∀ p q, m p = some q → q < 10) → ∀ p q, m' p = some q → q < 10
  | 0, S, m, m', h, hm => by
    have h' : m' ∈ [m] := h
    rw [List.mem_singleton.mp h']
    exact hm
  | i + 1, S, m, m', h, hm => by
    have h' : m' ∈ (if S (n - 1 - i) = true then rsc (rs ok n i) ok n S m (n - 1 - i) n ++ rs ok n i (sm S (n - 1 - i)) m else rs ok n i S m) := h
    by_cases hS : S (n - 1 - i) = true
    · rw [if_pos hS] at h'
      rcases List.mem_append.mp h' with h1 | h1
      · obtain ⟨r, r1, r4⟩ := rsc_memn h1
        refine rs_lt hn r4 (fun p q e => ?_)
        have e' : (if p = r then some (n - 1 - i) else if p = n - 1 - i then some r else m p) = some q := e
        split at e'
        · cases e'
          omega
        · split at e'
          · cases e'
            omega
          · exact hm p q e'
      · exact rs_lt hn h1 hm
    · rw [if_neg hS] at h'
      exact rs_lt hn h' hm
theorem sRS_lt {A : AS} (hn : A.w.n ≤ 10) {a : Nat} : ∀ q, ((sRS A).head?.getD (fun _ => none)) a = some q → q < 10 := by
  intro q e
  cases h : (sRS A).head? with
  | none =>
    rw [h] at e
    cases e
  | some m =>
    rw [h] at e
    have hm : m ∈ sRS A := List.mem_of_head? h
    unfold sRS RS at hm
    exact rs_lt hn (List.mem_filter.mp hm).1 (fun _ _ q => by cases q) a q e
/-- the class's state is in the cells below 73 -/
theorem CS.ext {A : AS} {I I' : mj_I} (h : CS A I) (e : ∀ c j, c < 73 → I' c j = I c j) : CS A I' := by
  have e : ∀ c, c < 73 → I' c = I c := fun c hc => funext fun j => e c j hc
  unfold CS CB CT CI CW CO CK CU CZ CD at h ⊢
  simp only [e 0 (by decide), e 1 (by decide), e 2 (by decide), e 3 (by decide), e 4 (by decide), e 5 (by decide), e 6 (by decide), e 7 (by decide), e 12 (by decide), e 14 (by decide), e 30 (by decide), e 31 (by decide), e 32 (by decide), e 33 (by decide), e 34 (by decide), e 35 (by decide), e 36 (by decide), e 37 (by decide), e 38 (by decide), e 39 (by decide), e 40 (by decide), e 41 (by decide), e 42 (by decide), e 43 (by decide), e 44 (by decide), e 45 (by decide), e 46 (by decide), e 47 (by decide), e 48 (by decide), e 49 (by decide), e 51 (by decide), e 52 (by decide), e 55 (by decide), e 56 (by decide), e 57 (by decide), e 60 (by decide), e 62 (by decide), e 63 (by decide), e 65 (by decide), e 66 (by decide)]
  exact h
/-- the model's in those behind -/
theorem MS.ext {A : AS} {I I' : mj_I} {L L' : mj_L} (h : MS A I L) (e : ∀ c j, 73 ≤ c → c < 106 → I' c j = I c j) (eL : L' 95 0 = L 95 0) : MS A I' L' := by
  have e : ∀ c, 73 ≤ c → c < 106 → I' c = I c := fun c hc h2 => funext fun j => e c j hc h2
  unfold MS MT at h ⊢
  simp only [e 73 (by decide) (by decide), e 74 (by decide) (by decide), e 75 (by decide) (by decide), e 76 (by decide) (by decide), e 77 (by decide) (by decide), e 78 (by decide) (by decide), e 79 (by decide) (by decide), e 80 (by decide) (by decide), e 89 (by decide) (by decide), e 90 (by decide) (by decide), e 94 (by decide) (by decide), e 100 (by decide) (by decide), e 103 (by decide) (by decide), e 104 (by decide) (by decide), e 105 (by decide) (by decide), eL]
  exact h
/-- both sides hold the same -/
def LWV (σ : mj_S) : Prop := σ.1 = 107 ∧ ∃ A t, CS A σ.2.1 ∧ MS A σ.2.1 σ.2.2.1 ∧ PS t σ.2.2.2
/-- what the model's call must come to, where the class's threw e (0: it threw nothing) -/
def LQ2 (e : Int32) : mj_Q := fun r σ => match r with
  | .inl (some (.int v)) => LWV σ ∧ σ.2.1 73 0 = e ∧ (e = nI 0 → σ.2.2.1 106 0 = v.toInt64)
  | _ => False
/-- what the law's call of the class must come to -/
def LQ (M : Nat) (xs : List Value) : mj_Q := fun r σ => match r with
  | .inl (some (.int e)) => σ.1 = 107 ∧ mj_ev 100 M (.ref 73 :: xs) σ (LQ2 e)
  | _ => False
/-- the same for bind -/
def LQ2b (e : Int32) : mj_Q := fun r σ => match r with
  | .inl (some (.int v)) => LWV σ ∧ σ.2.1 73 0 = e ∧ (e = nI 0 → (v = nI 0 ∨ v = nI 1) ∧ σ.2.2.1 106 0 = v.toInt64)
  | _ => False
def LQb (M : Nat) (xs : List Value) : mj_Q := fun r σ => match r with
  | .inl (some (.int e)) => σ.1 = 107 ∧ mj_ev 100 M (.ref 73 :: xs) σ (LQ2b e)
  | _ => False
/-- a call of the class by the law itself: the model answers the same -/
def LR (v : Option Value) : mj_Q := fun r σ => LWV σ ∧ r = .inl v
def LD {α : Type} (g : α → Option Value) (M : Nat) (xs : List Value) : mj_Q := fun r σ => ∃ z, r = .inl (g z) ∧ σ.1 = 107 ∧ mj_ev 100 M (.ref 73 :: xs) σ (LR (g z))
abbrev gvI (z : Int32) : Option Value := some (.int z)
abbrev gvL (z : Int64) : Option Value := some (.long z)
abbrev gvN (_ : Unit) : Option Value := none
section L
variable {I : mj_I} {L : mj_L} {P : mj_P} {A A' : AS} {t M : Nat} {xs : List Value}
theorem ms_c {I' : mj_I} {L' : mj_L} (hM : MS A I L) (h1 : ∀ c j, 73 ≤ c → I' c j = I c j) (h2 : ∀ c j, 73 ≤ c → L' c j = L c j) : MS A I' L' := hM.ext (fun c j hc _ => h1 c j hc) (h2 95 0 (by decide))
theorem ms_u {z : Int64} (hM : MS A I L) : MS A I (mj_upL L 106 0 z) := hM.ext (fun _ _ _ _ => rfl) (by rw [upL_c (by decide)])
theorem lq_ok {I' : mj_I} {L' : mj_L} {z : Int32} (hM : MS A I L) (hP : PS t P) (hC : CS A' I') (h1 : ∀ c j, 73 ≤ c → I' c j = I c j) (h2 : ∀ c j, 73 ≤ c → L' c j = L c j) (s : ∀ {I1 : mj_I} {L1 : mj_L}, MS A I1 L1 → kW (LQ2 (nI 0)) I1 L1 P A' 0 (some (.int z)) → mj_ev 100 M (.ref 73 :: xs) (107, I1, L1, P) (LQ2 (nI 0))) : mj_ev 100 M (.ref 73 :: xs) (107, I', mj_upL L' 106 0 z.toInt64, P) (LQ2 (nI 0)) := by
  refine s (ms_u (ms_c hM h1 h2)) (fun I2 L2 hM2 g1 g2 h0 => ?_)
  exact ⟨⟨rfl, A', t, hC.ext g1, hM2, hP⟩, h0, fun _ => (g2 106 0 (Or.inr rfl)).trans upL_s⟩
theorem lq_no {I' : mj_I} {L' : mj_L} {e : Nat} {z : Value} {v : Int32} (he : nI e ≠ nI 0) (hz : z = .int v) (hM : MS A I L) (hP : PS t P) (hC : CS A I') (h1 : ∀ c j, 73 ≤ c → I' c j = I c j) (h2 : ∀ c j, 73 ≤ c → L' c j = L c j) (s : ∀ {I1 : mj_I} {L1 : mj_L}, MS A I1 L1 → kM (LQ2 (nI e)) I1 L1 P e z → mj_ev 100 M (.ref 73 :: xs) (107, I1, L1, P) (LQ2 (nI e))) : mj_ev 100 M (.ref 73 :: xs) (107, I', L', P) (LQ2 (nI e)) := by
  subst hz
  have hM1 := ms_c hM h1 h2
  refine s hM1 (fun I2 L2 g1 g2 h0 => ?_)
  exact ⟨⟨rfl, A, t, hC.ext (fun c j hc => g1 c j (FM_lo hc)), hM1.fr g1 g2, hP⟩, h0, fun q => absurd q he⟩
theorem pW {z : Int32} {e : Nat} (hM : MS A I L) (hP : PS t P) (s : ∀ {I1 : mj_I} {L1 : mj_L}, MS A I1 L1 → kW (LQ2 (nI 0)) I1 L1 P A' 0 (some (.int z)) → mj_ev 100 M (.ref 73 :: xs) (107, I1, L1, P) (LQ2 (nI 0))) : kC (WQ e (LQ M xs)) I L P A' (.inl (some (.int z))) := fun _ _ hC h1 h2 => ⟨rfl, rfl, lq_ok hM hP hC h1 h2 s⟩
theorem pW2 {z : Int32} (hM : MS A I L) (hP : PS t P) (s : ∀ {I1 : mj_I} {L1 : mj_L}, MS A I1 L1 → kW (LQ2 (nI 0)) I1 L1 P A' 0 (some (.int z)) → mj_ev 100 M (.ref 73 :: xs) (107, I1, L1, P) (LQ2 (nI 0))) : kC (WQ2 (LQ M xs)) I L P A' (.inl (some (.int z))) := fun _ _ hC h1 h2 => ⟨rfl, rfl, lq_ok hM hP hC h1 h2 s⟩
theorem pT {v : Int32} {e : Nat} (hM : MS A I L) (hP : PS t P) (s : ∀ {I1 : mj_I} {L1 : mj_L}, MS A I1 L1 → kM (LQ2 (nI 1)) I1 L1 P 1 (.int v) → mj_ev 100 M (.ref 73 :: xs) (107, I1, L1, P) (LQ2 (nI 1))) : kC (WQ e (LQ M xs)) I L P A (.inr e) := fun _ _ hC h1 h2 => ⟨rfl, rfl, rfl, lq_no (by decide) rfl hM hP hC h1 h2 s⟩
theorem pT1 {v : Int32} (hM : MS A I L) (hP : PS t P) (s : ∀ {I1 : mj_I} {L1 : mj_L}, MS A I1 L1 → kM (LQ2 (nI 1)) I1 L1 P 1 (.int v) → mj_ev 100 M (.ref 73 :: xs) (107, I1, L1, P) (LQ2 (nI 1))) : kC (WQ2 (LQ M xs)) I L P A (.inr 0) := fun _ _ hC h1 h2 => ⟨rfl, rfl, lq_no (by decide) rfl hM hP hC h1 h2 s⟩
theorem pT2 {v : Int32} (hM : MS A I L) (hP : PS t P) (s : ∀ {I1 : mj_I} {L1 : mj_L}, MS A I1 L1 → kM (LQ2 (nI 2)) I1 L1 P 2 (.int v) → mj_ev 100 M (.ref 73 :: xs) (107, I1, L1, P) (LQ2 (nI 2))) : kC (WQ2 (LQ M xs)) I L P A (.inr 1) := fun _ _ hC h1 h2 => ⟨rfl, rfl, lq_no (by decide) rfl hM hP hC h1 h2 s⟩
theorem pD {α : Type} {g : α → Option Value} (z : α) (hM : MS A I L) (hP : PS t P) (s : ∀ {I1 : mj_I} {L1 : mj_L}, MS A I1 L1 → kW (LR (g z)) I1 L1 P A' 0 (g z) → mj_ev 100 M (.ref 73 :: xs) (107, I1, L1, P) (LR (g z))) : kC (LD g M xs) I L P A' (.inl (g z)) := fun _ _ hC h1 h2 => ⟨z, rfl, rfl, s (ms_c hM h1 h2) (fun _ _ hM2 g1 _ _ => ⟨⟨rfl, A', t, hC.ext g1, hM2, hP⟩, rfl⟩)⟩
theorem pDi {z : Int32} (hM : MS A I L) (hP : PS t P) (s : ∀ {I1 : mj_I} {L1 : mj_L}, MS A I1 L1 → kW (LR (some (.int z))) I1 L1 P A' 0 (some (.int z)) → mj_ev 100 M (.ref 73 :: xs) (107, I1, L1, P) (LR (some (.int z)))) : kC (LD gvI M xs) I L P A' (.inl (some (.int z))) := pD (g := gvI) z hM hP s
theorem pDl {z : Int64} (hM : MS A I L) (hP : PS t P) (s : ∀ {I1 : mj_I} {L1 : mj_L}, MS A I1 L1 → kW (LR (some (.long z))) I1 L1 P A' 0 (some (.long z)) → mj_ev 100 M (.ref 73 :: xs) (107, I1, L1, P) (LR (some (.long z)))) : kC (LD gvL M xs) I L P A' (.inl (some (.long z))) := pD (g := gvL) z hM hP s
theorem pDv (hM : MS A I L) (hP : PS t P) (s : ∀ {I1 : mj_I} {L1 : mj_L}, MS A I1 L1 → kW (LR none) I1 L1 P A' 0 none → mj_ev 100 M (.ref 73 :: xs) (107, I1, L1, P) (LR none)) : kC (LD gvN M xs) I L P A' (.inl none) := pD (g := gvN) () hM hP s
theorem pWb {z : Int32} (hz : z = nI 0 ∨ z = nI 1) (hM : MS A I L) (hP : PS t P) (s : ∀ {I1 : mj_I} {L1 : mj_L}, MS A I1 L1 → kW (LQ2b (nI 0)) I1 L1 P A' 0 (some (.int z)) → mj_ev 100 M (.ref 73 :: xs) (107, I1, L1, P) (LQ2b (nI 0))) : kC (WQb (LQb M xs)) I L P A' (.inl (some (.int z))) := fun _ _ hC h1 h2 => ⟨rfl, hz, rfl, by
  refine s (ms_u (ms_c hM h1 h2)) (fun I2 L2 hM2 g1 g2 h0 => ?_)
  exact ⟨⟨rfl, A', t, hC.ext g1, hM2, hP⟩, h0, fun _ => ⟨hz, (g2 106 0 (Or.inr rfl)).trans upL_s⟩⟩⟩
theorem pTb {v : Int32} (hM : MS A I L) (hP : PS t P) (s : ∀ {I1 : mj_I} {L1 : mj_L}, MS A I1 L1 → kM (LQ2b (nI 1)) I1 L1 P 1 (.int v) → mj_ev 100 M (.ref 73 :: xs) (107, I1, L1, P) (LQ2b (nI 1))) : kC (WQb (LQb M xs)) I L P A (.inr 0) := fun _ _ hC h1 h2 => ⟨rfl, rfl, rfl, by
  have hM1 := ms_c hM h1 h2
  refine s hM1 (fun I2 L2 g1 g2 h0 => ?_)
  exact ⟨⟨rfl, A, t, hC.ext (fun c j hc => g1 c j (FM_lo hc)), hM1.fr g1 g2, hP⟩, h0, fun q => absurd q (by decide)⟩⟩
end L
