/-! how the law begins: both sides made, nothing told -/
def pz1 (f : Nat → Option Nat) : Nat → List (Option Nat) → Bool
  | _, [] => true
  | j, none :: t => pz1 f (j + 1) t
  | j, some r :: t => (f j == some r) && pz1 f (j + 1) t
theorem pz1_ok {f : Nat → Option Nat} : ∀ {l : List (Option Nat)} {j : Nat}, pz1 f j l = true → ∀ i r, l.getD i none = some r → f (j + i) = some r
  | [], _, _, i, r, e => by
    rw [List.getD_nil] at e
    cases e
  | none :: t, j, h, 0, r, e => by cases e
  | none :: t, j, h, i + 1, r, e => by
    have := pz1_ok (l := t) (j := j + 1) h i r e
    rw [Nat.add_right_comm] at this
    exact this
  | some r0 :: t, j, h, 0, r, e => by
    have h1 : (f j == some r0 && pz1 f (j + 1) t) = true := h
    rw [Bool.and_eq_true] at h1
    exact (eq_of_beq h1.1).trans e
  | some r0 :: t, j, h, i + 1, r, e => by
    have h1 : (f j == some r0 && pz1 f (j + 1) t) = true := h
    rw [Bool.and_eq_true] at h1
    have := pz1_ok (l := t) (j := j + 1) h1.2 i r e
    rw [Nat.add_right_comm] at this
    exact this
def pz (P : mj_P) : Nat → List (List (Option Nat)) → Bool
  | _, [] => true
  | c, l :: t => pz1 (P c) 0 l && pz P (c + 1) t
theorem pz_ok {P : mj_P} : ∀ {l : List (List (Option Nat))} {c : Nat}, pz P c l = true → ∀ i j r, (l.getD i []).getD j none = some r → P (c + i) j = some r
  | [], _, _, i, j, r, e => by
    rw [List.getD_nil, List.getD_nil] at e
    cases e
  | l0 :: t, c, h, 0, j, r, e => by
    have h1 : (pz1 (P c) 0 l0 && pz P (c + 1) t) = true := h
    rw [Bool.and_eq_true] at h1
    have := pz1_ok h1.1 j r e
    rw [Nat.zero_add] at this
    exact this
  | l0 :: t, c, h, i + 1, j, r, e => by
    have h1 : (pz1 (P c) 0 l0 && pz P (c + 1) t) = true := h
    rw [Bool.and_eq_true] at h1
    have := pz_ok (l := t) (c := c + 1) h1.2 i j r e
    rw [Nat.add_right_comm] at this
    exact this
/-- what the cells of ints hold in the beginning, as far as it is asked for -/
def zl : List (Nat × Nat × Int32) := [(3, 0, nI 0), (12, 2, nI 0), (12, 3, nI 0), (12, 4, nI 0), (12, 5, nI 0), (31, 0, nI 0), (30, 3, nI 0), (30, 1, nI 0), (30, 2, nI 0), (0, 9, nI 0), (0, 1, nI 0), (0, 2, -(nI 1)), (48, 4, nI 0), (51, 4, -(nI 1)), (55, 1, nI 0), (60, 1, nI 0), (65, 0, nI 0), (73, 1, nI 0), (73, 2, -(nI 1)), (73, 3, -(nI 1)), (89, 0, nI 0), (73, 40, nI 0), (73, 52, nI 0), (73, 57, nI 0), (73, 10, nI 0), (73, 12, -(nI 1)), (94, 0, nI 0)]
def zc (I : mj_I) (L : mj_L) (P : mj_P) : Bool := pz P 0 mj_p0l && zl.all (fun q => decide (I q.1 q.2.1 = q.2.2)) && (List.range 10).all (fun p => decide (I 32 p = nI 0) && decide (I 33 p = nI 0) && decide (I 34 p = -(nI 1))) && (List.range 3).all (fun j => decide (I 2 j = nI 0) && decide (I 80 j = nI 0)) && decide (L 95 0 = 0)
def zz1 : Option mj_S := gv 100 100 [.ref 0] (1, mj_seI (fun _ _ => 0) 0 (fun _ => 0), mj_seL (fun _ _ => 0) 0 (fun _ => 0), mj_seP (fun _ _ => none) 0 (fun _ => none))
def zz2 (σ : mj_S) : Option mj_S := gv 100 161 [.ref 73] (74, mj_seI σ.2.1 73 (fun _ => 0), mj_seL σ.2.2.1 73 (fun _ => 0), mj_seP σ.2.2.2 73 (fun _ => none))
def zck : Bool := match zz1 with
  | none => false
  | some σ => (σ.1 == 73) && (match zz2 σ with
    | none => false
    | some τ => (τ.1 == 106) && zc τ.2.1 τ.2.2.1 τ.2.2.2)
set_option maxRecDepth 100000 in
theorem zck_ok : zck = true := by decide +kernel
theorem z_all : ∃ I1 L1 P1 I L P, zz1 = some (73, I1, L1, P1) ∧ zz2 (73, I1, L1, P1) = some (106, I, L, P) ∧ zc I L P = true := by
  have h := zck_ok
  unfold zck at h
  split at h
  · cases h
  · rename_i σ e1
    rw [Bool.and_eq_true] at h
    obtain ⟨h1, h2⟩ := h
    split at h2
    · cases h2
    · rename_i τ e2
      rw [Bool.and_eq_true] at h2
      obtain ⟨n1, I1, L1, P1⟩ := σ
      obtain ⟨n2, I, L, P⟩ := τ
      have q1 : n1 = 73 := eq_of_beq h1
      have q2 : n2 = 106 := eq_of_beq h2.1
      subst q1 q2
      exact ⟨I1, L1, P1, I, L, P, e1, e2, h2.2⟩
/-- nothing told -/
def A0 : AS := ((fun _ => 0, 0), none, fun _ => 0, (0, fun _ => 0, fun _ => 0, fun _ => 0, fun _ => 0, none, none), ((0, fun _ => 0, fun _ => 0, fun _ => none), [], []), none)
theorem w0_ok : A0.w.ok := ⟨Nat.zero_le _, fun p hp => absurd hp (Nat.not_lt_zero _), fun R hR => (by cases hR), fun R hR => (by cases hR)⟩
theorem zc_ps {I : mj_I} {L : mj_L} {P : mj_P} (h : zc I L P = true) : PS 16 P := by
  unfold zc at h
  simp only [Bool.and_eq_true] at h
  intro c j r e
  have q := pz_ok h.1.1.1.1
  unfold mj_P0 at e
  split at e
  · rename_i g
    obtain ⟨rfl, rfl⟩ := g
    cases e
    have := q 29 2 16 rfl
    rwa [Nat.zero_add] at this
  · have := q c j r e
    rwa [Nat.zero_add] at this
theorem zc_cs {I : mj_I} {L : mj_L} {P : mj_P} (h : zc I L P = true) : CS A0 I := by
  unfold zc at h
  simp only [Bool.and_eq_true, List.all_eq_true, decide_eq_true_eq, List.mem_range] at h
  obtain ⟨⟨⟨⟨-, h1⟩, h2⟩, h3⟩, -⟩ := h
  have z : ∀ c j v, (c, j, v) ∈ zl → I c j = v := fun c j v hm => h1 (c, j, v) hm
  refine ⟨⟨⟨w0_ok, z 3 0 _ (by decide), fun p hp => absurd hp (Nat.not_lt_zero _), ⟨z 12 2 _ (by decide), z 12 3 _ (by decide)⟩, ⟨z 12 4 _ (by decide), z 12 5 _ (by decide)⟩, fun R hR => (by cases hR)⟩, ⟨z 31 0 _ (by decide), ⟨Nat.zero_le _, fun p hp => (h2 p hp).1.1, fun p hp => (h2 p hp).1.2, fun p hp => (h2 p hp).2, fun p hp => absurd hp (Nat.not_lt_zero _), fun p hp => absurd hp (Nat.not_lt_zero _), fun p hp => absurd hp (Nat.not_lt_zero _)⟩, ⟨0, by decide, z 30 3 _ (by decide), fun i ro hi => (by cases hi)⟩, z 30 1 _ (by decide), Nat.zero_le _, z 30 2 _ (by decide), Nat.zero_le _, fun i e he => (by cases he)⟩, z 0 9 _ (by decide), z 0 1 _ (by decide), Nat.zero_le _, fun j hj => absurd hj (Nat.not_lt_zero _), z 0 2 _ (by decide), fun q hq => (by cases hq), fun j hj => (h3 j hj).1⟩, ⟨0, Nat.zero_le _, z 48 4 _ (by decide), fun j hj => absurd hj (Nat.not_lt_zero _)⟩, Or.inl (z 51 4 _ (by decide)), Or.inl (z 55 1 _ (by decide)), Or.inl (z 60 1 _ (by decide)), Or.inl (z 65 0 _ (by decide))⟩
theorem zc_ms {I : mj_I} {L : mj_L} {P : mj_P} (h : zc I L P = true) : MS A0 I L := by
  unfold zc at h
  simp only [Bool.and_eq_true, List.all_eq_true, decide_eq_true_eq, List.mem_range] at h
  obtain ⟨⟨⟨⟨-, h1⟩, -⟩, h3⟩, h4⟩ := h
  have z : ∀ c j v, (c, j, v) ∈ zl → I c j = v := fun c j v hm => h1 (c, j, v) hm
  refine ⟨⟨w0_ok, z 73 1 _ (by decide), fun p hp => absurd hp (Nat.not_lt_zero _), z 73 2 _ (by decide), z 73 3 _ (by decide)⟩, ⟨⟨z 89 0 _ (by decide), ⟨Nat.zero_le _, fun p hp => absurd hp (Nat.not_lt_zero _), fun p hp => absurd hp (Nat.not_lt_zero _), fun p hp => absurd hp (Nat.not_lt_zero _), fun p hp => absurd hp (Nat.not_lt_zero _), fun p hp => absurd hp (Nat.not_lt_zero _), fun p hp => absurd hp (Nat.not_lt_zero _)⟩⟩, ⟨Nat.zero_le _, fun i ro hi => (by cases hi)⟩, z 73 40 _ (by decide), ⟨Nat.zero_le _, fun i ro hi => (by cases hi)⟩, z 73 52 _ (by decide)⟩, z 73 57 _ (by decide), z 73 10 _ (by decide), Nat.zero_le _, fun j hj => absurd hj (Nat.not_lt_zero _), z 73 12 _ (by decide), fun q hq => (by cases hq), fun j hj => (h3 j hj).2, z 94 0 _ (by decide), h4⟩
