/-! ways at rest: who is settled stays so; what is left out is at no rest -/
theorem rsc_mem {F : (Nat → Bool) → MM → List MM} {ok : Nat → Nat → Bool} {n : Nat} {S : Nat → Bool} {m m' : MM} {p : Nat} : ∀ {j : Nat}, m' ∈ rsc F ok n S m p j → ∃ q, p < q ∧ S q = true ∧ ok p q = true ∧ m' ∈ F (sm (sm S p) q) (bnd m p q)
  | 0, h => absurd h List.not_mem_nil
  | j + 1, h => by
    have h' : m' ∈ (if p < n - 1 - j ∧ S (n - 1 - j) = true ∧ ok p (n - 1 - j) = true then F (sm (sm S p) (n - 1 - j)) (bnd m p (n - 1 - j)) else []) ++ rsc F ok n S m p j := h
    rcases List.mem_append.mp h' with h1 | h1
    · by_cases hc : p < n - 1 - j ∧ S (n - 1 - j) = true ∧ ok p (n - 1 - j) = true
      · rw [if_pos hc] at h1
        exact ⟨_, hc.1, hc.2.1, hc.2.2, h1⟩
      · rw [if_neg hc] at h1
        exact absurd h1 List.not_mem_nil
    · exact rsc_mem h1
theorem rs_mem {ok : Nat → Nat → Bool} {n : Nat} : ∀ {i : Nat} {S : Nat → Bool} {m m' : MM}, m' ∈ rs ok n i S m → ∀ q, S q = false → m' q = m q
  | 0, S, m, m', h, q, _ => by
    have h' : m' ∈ [m] := h
    rw [List.mem_singleton.mp h']
  | i + 1, S, m, m', h, q, hq => by
    have h' : m' ∈ (if S (n - 1 - i) = true then rsc (rs ok n i) ok n S m (n - 1 - i) n ++ rs ok n i (sm S (n - 1 - i)) m else rs ok n i S m) := h
    by_cases hS : S (n - 1 - i) = true
    · rw [if_pos hS] at h'
      have hqp : q ≠ n - 1 - i := fun e => by rw [← e, hq] at hS; cases hS
      rcases List.mem_append.mp h' with h1 | h1
      · obtain ⟨r, r1, r2, r3, r4⟩ := rsc_mem h1
        have hqr : q ≠ r := fun e => by rw [← e, hq] at r2; cases r2
        have := rs_mem r4 q (by unfold sm; rw [hq]; rfl)
        rw [this]
        show (if q = r then _ else if q = n - 1 - i then _ else m q) = m q
        rw [if_neg hqr, if_neg hqp]
      · exact rs_mem h1 q (by unfold sm; rw [hq]; rfl)
    · rw [if_neg hS] at h'
      exact rs_mem h' q hq
theorem rsc_filter {F : (Nat → Bool) → MM → List MM} {ok : Nat → Nat → Bool} {n : Nat} {S : Nat → Bool} {m : MM} {p : Nat} {f : MM → Bool} : ∀ j, (rsc F ok n S m p j).filter f = rsc (fun S m => (F S m).filter f) ok n S m p j
  | 0 => rfl
  | j + 1 => by
    show ((if _ then _ else _) ++ rsc F ok n S m p j).filter f = (if _ then _ else _) ++ rsc (fun S m => (F S m).filter f) ok n S m p j
    rw [List.filter_append, rsc_filter j]
    congr 1
    split <;> rfl
theorem rs_skip {ok : Nat → Nat → Bool} {n : Nat} {S : Nat → Bool} {m : MM} : ∀ {k i : Nat}, k + i ≤ n → (∀ p, n - (k + i) ≤ p → p < n - i → S p = false) → rs ok n (k + i) S m = rs ok n i S m
  | 0, i, _, _ => by rw [Nat.zero_add]
  | k + 1, i, hk, h => by
    have ih := rs_skip (ok := ok) (S := S) (m := m) (k := k) (i := i) (by omega) (fun p h1 h2 => h p (by omega) h2)
    rw [show k + 1 + i = (k + i) + 1 by omega]
    show (if S (n - 1 - (k + i)) = true then _ else _) = _
    rw [h (n - 1 - (k + i)) (by omega) (by omega), if_neg (by decide), ih]
theorem rsc_skp {F : (Nat → Bool) → MM → List MM} {ok : Nat → Nat → Bool} {n : Nat} {S : Nat → Bool} {m : MM} {p j : Nat} (h : n - 1 - j ≤ p) : ∀ k, rsc F ok n S m p (k + j) = rsc F ok n S m p j
  | 0 => by rw [Nat.zero_add]
  | k + 1 => by
    rw [show k + 1 + j = (k + j) + 1 by omega]
    show (if p < n - 1 - (k + j) ∧ _ then _ else _) ++ rsc F ok n S m p (k + j) = _
    rw [if_neg (fun q => by have := q.1; omega), rsc_skp h k]
    rfl
theorem rsc_one {F : (Nat → Bool) → MM → List MM} {ok : Nat → Nat → Bool} {n : Nat} {S : Nat → Bool} {m : MM} {p o : Nat} (hp : p < o) (ho : o < n) : rsc F ok n S m p (n - o) = (if S o = true ∧ ok p o = true then F (sm (sm S p) o) (bnd m p o) else []) ++ rsc F ok n S m p (n - (o + 1)) := by
  rw [show n - o = (n - (o + 1)) + 1 by omega]
  show (if p < n - 1 - (n - (o + 1)) ∧ S (n - 1 - (n - (o + 1))) = true ∧ ok p (n - 1 - (n - (o + 1))) = true then F (sm (sm S p) (n - 1 - (n - (o + 1)))) (bnd m p (n - 1 - (n - (o + 1)))) else []) ++ _ = _
  rw [show n - 1 - (n - (o + 1)) = o by omega]
  congr 1
  by_cases hc : S o = true ∧ ok p o = true
  · rw [if_pos hc, if_pos ⟨hp, hc⟩]
  · rw [if_neg hc, if_neg (fun q => hc q.2)]
def GG (ok : Nat → Nat → Bool) (li : Nat → Nat → Int32) (fr : Nat → Bool) (n i : Nat) (S : Nat → Bool) (m : MM) : List MM := (rs ok n i S m).filter (stb ok li fr n)
theorem GG_step {ok : Nat → Nat → Bool} {li : Nat → Nat → Int32} {fr : Nat → Bool} {n i p : Nat} {S : Nat → Bool} {m : MM} (hp : p < n) (hi : i = n - p) (hS : S p = true) : GG ok li fr n i S m = rsc (GG ok li fr n (n - (p + 1))) ok n S m p (n - (p + 1)) ++ GG ok li fr n (n - (p + 1)) (sm S p) m := by
  subst hi
  unfold GG
  rw [show n - p = (n - (p + 1)) + 1 by omega]
  show (if S (n - 1 - (n - (p + 1))) = true then rsc (rs ok n (n - (p + 1))) ok n S m (n - 1 - (n - (p + 1))) n ++ rs ok n (n - (p + 1)) (sm S (n - 1 - (n - (p + 1)))) m else _).filter _ = _
  rw [show n - 1 - (n - (p + 1)) = p by omega, if_pos hS, List.filter_append, rsc_filter]
  congr 1
  have := rsc_skp (F := fun S m => (rs ok n (n - (p + 1)) S m).filter (stb ok li fr n)) (ok := ok) (n := n) (S := S) (m := m) (p := p) (j := n - (p + 1)) (by omega) (p + 1)
  rw [show p + 1 + (n - (p + 1)) = n by omega] at this
  exact this
theorem wl_eq {li : Nat → Nat → Int32} {m m' : MM} {a b : Nat} (h : m' a = m a) : wl li m' a b = wl li m a b := by
  unfold wl
  rw [h]
theorem wl_own {li : Nat → Nat → Int32} {m : MM} {a b : Nat} (h : m a = some b) : wl li m a b = false := by
  unfold wl
  rw [h]
  exact decide_eq_false Int32.lt_irrefl
theorem GG_no {ok : Nat → Nat → Bool} {li : Nat → Nat → Int32} {fr : Nat → Bool} {n i : Nat} {S : Nat → Bool} {m : MM} {a b : Nat} (hsym : ∀ a b, ok a b = ok b a) (ha : a < n) (hb : b < n) (hab : a ≠ b) (fa : fr a = true) (fb : fr b = true) (sa : S a = false) (sb : S b = false) (hok : ok a b = true) (w1 : wl li m a b = true) (w2 : wl li m b a = true) : GG ok li fr n i S m = [] := by
  unfold GG
  rw [List.filter_eq_nil_iff]
  intro m' hm' hs
  have e1 := rs_mem hm' a sa
  have e2 := rs_mem hm' b sb
  have v1 : wl li m' a b = true := (wl_eq e1).trans w1
  have v2 : wl li m' b a = true := (wl_eq e2).trans w2
  have bk : ∀ x y, x < n → y < n → x < y → fr x = true → fr y = true → ok x y = true → wl li m' x y = true → wl li m' y x = true → False := by
    intro x y hx hy hxy f1 f2 o1 u1 u2
    unfold stb at hs
    rw [Bool.not_eq_true'] at hs
    have : anyB (fun a => anyB (fun b => decide (a < b) && blk ok li fr m' a b) n) n = true := anyB_iff.mpr ⟨x, hx, anyB_iff.mpr ⟨y, hy, by
      have hne : ¬ m' x = some y := fun e => by rw [wl_own e] at u1; cases u1
      unfold blk
      rw [f1, f2, o1, u1, u2, decide_eq_true hxy, decide_eq_false hne]
      rfl⟩⟩
    rw [this] at hs
    cases hs
  rcases Nat.lt_or_gt_of_ne hab with q | q
  · exact bk a b ha hb q fa fb hok v1 v2
  · exact bk b a hb ha q fb fa (by rw [hsym]; exact hok) v2 v1
/-- no two who are settled would leave theirs for each other -/
def clm (ok : Nat → Nat → Bool) (li : Nat → Nat → Int32) (fr : Nat → Bool) (n : Nat) (S : Nat → Bool) (m : MM) : Prop := ∀ a b, a < n → b < n → a ≠ b → fr a = true → fr b = true → S a = false → S b = false → ok a b = true → wl li m a b = true → wl li m b a = true → False
theorem stb_yes {ok : Nat → Nat → Bool} {li : Nat → Nat → Int32} {fr : Nat → Bool} {n : Nat} {S : Nat → Bool} {m : MM} (h : clm ok li fr n S m) (hS : ∀ p, p < n → S p = false) : stb ok li fr n m = true := by
  unfold stb
  rw [Bool.not_eq_true', ← Bool.not_eq_true, anyB_iff]
  rintro ⟨a, ha, h1⟩
  obtain ⟨b, hb, h2⟩ := anyB_iff.mp h1
  unfold blk at h2
  simp only [Bool.and_eq_true] at h2
  obtain ⟨h3, ⟨⟨⟨⟨⟨f1, f2⟩, o1⟩, -⟩, u1⟩, u2⟩⟩ := h2
  exact h a b ha hb (by have := of_decide_eq_true h3; omega) f1 f2 (hS a ha) (hS b hb) o1 u1 u2
theorem GG_end {ok : Nat → Nat → Bool} {li : Nat → Nat → Int32} {fr : Nat → Bool} {n i : Nat} {S : Nat → Bool} {m : MM} (hi : i ≤ n) (h : clm ok li fr n S m) (hS : ∀ p, p < n → S p = false) : GG ok li fr n i S m = [m] := by
  unfold GG
  have e := rs_skip (ok := ok) (n := n) (S := S) (m := m) (k := i) (i := 0) (by omega) (fun p _ hp => hS p (by omega))
  rw [Nat.add_zero] at e
  rw [e]
  show [m].filter _ = _
  rw [List.filter_cons, if_pos (stb_yes h hS)]
  rfl
theorem GG_skip {ok : Nat → Nat → Bool} {li : Nat → Nat → Int32} {fr : Nat → Bool} {n i p : Nat} {S : Nat → Bool} {m : MM} (hi : i ≤ n) (hp : p ≤ n) (hip : n - p ≤ i) (hS : ∀ q, n - i ≤ q → q < p → S q = false) : GG ok li fr n i S m = GG ok li fr n (n - p) S m := by
  unfold GG
  have e := rs_skip (ok := ok) (n := n) (S := S) (m := m) (k := i - (n - p)) (i := n - p) (by omega) (fun q h1 h2 => hS q (by omega) (by omega))
  rw [show i - (n - p) + (n - p) = i by omega] at e
  rw [e]
/-- whether one who gets a mate, and one who is settled, would both leave theirs for each other: neither -/
def cm (w : WT) (c h : Nat → Nat) (fr S : Nat → Bool) (m : MM) (p : Nat) (o : Option Nat) : Bool := !anyB (fun q => (fr q && !S q) && rtm w c h p o q && rtm w c h q (m q) p) w.n
theorem rtm_iff {w : WT} {c h : Nat → Nat} {m : MM} {p q : Nat} (hpq : p ≠ q) : rtm w c h p (m p) q = true ↔ okA (alk w c h) p q = true ∧ wl (lik w c h) m p q = true := by
  unfold wl okA
  cases m p with
  | none =>
    show my w c h p q = true ↔ _
    unfold my
    simp [hpq]
  | some r =>
    show rtb w c h p r q = true ↔ _
    unfold rtb my
    simp [hpq]
theorem okA_sym {w : WT} {c h : Nat → Nat} : ∀ a b, okA (alk w c h) a b = okA (alk w c h) b a := fun a b => by
  unfold okA
  rw [alk_comm]
theorem cm_iff {w : WT} {c h : Nat → Nat} {fr S : Nat → Bool} {m m1 : MM} {p : Nat} {o : Option Nat} (hm1 : m1 p = o) (hS : S p = true) : cm w c h fr S m p o = false ↔ ∃ q, q < w.n ∧ fr q = true ∧ S q = false ∧ okA (alk w c h) p q = true ∧ wl (lik w c h) m1 p q = true ∧ wl (lik w c h) m q p = true := by
  subst hm1
  unfold cm
  rw [Bool.not_eq_false', anyB_iff]
  constructor
  · rintro ⟨q, hq, h2⟩
    simp only [Bool.and_eq_true, Bool.not_eq_true'] at h2
    obtain ⟨⟨⟨f1, s1⟩, r1⟩, r2⟩ := h2
    have hpq : p ≠ q := fun e => by rw [e, s1] at hS; cases hS
    obtain ⟨o1, u1⟩ := (rtm_iff hpq).mp r1
    obtain ⟨o2, u2⟩ := (rtm_iff (fun e => hpq e.symm)).mp r2
    exact ⟨q, hq, f1, s1, o1, u1, u2⟩
  · rintro ⟨q, hq, f1, s1, o1, u1, u2⟩
    have hpq : p ≠ q := fun e => by rw [e, s1] at hS; cases hS
    refine ⟨q, hq, ?_⟩
    simp only [Bool.and_eq_true, Bool.not_eq_true']
    exact ⟨⟨⟨f1, s1⟩, (rtm_iff hpq).mpr ⟨o1, u1⟩⟩, (rtm_iff (fun e => hpq e.symm)).mpr ⟨by rw [okA_sym]; exact o1, u2⟩⟩
theorem bnd_a {m : MM} {a b : Nat} (h : a ≠ b) : bnd m a b a = some b := by
  unfold bnd
  rw [if_neg h, if_pos rfl]
theorem bnd_b {m : MM} {a b : Nat} : bnd m a b b = some a := if_pos rfl
theorem bnd_o {m : MM} {a b q : Nat} (h1 : q ≠ a) (h2 : q ≠ b) : bnd m a b q = m q := by
  unfold bnd
  rw [if_neg h2, if_neg h1]
section W
variable {w : WT} {c h : Nat → Nat} {fr S : Nat → Bool} {m : MM} {p o i : Nat}
theorem sm_f {S : Nat → Bool} {a q : Nat} (h : S q = false) : sm S a q = false := by
  unfold sm
  rw [h]
  rfl
theorem sm_o {S : Nat → Bool} {a : Nat} : sm S a a = false := by
  unfold sm
  simp
theorem GG_no2 (hS : S p = true) (hSo : S o = true) (hpo : p ≠ o) (hp : p < w.n) (fp : fr p = true) (hc : cm w c h fr S m p (some o) = false) : GG (okA (alk w c h)) (lik w c h) fr w.n i (sm (sm S p) o) (bnd m p o) = [] := by
  obtain ⟨q, hq, f1, s1, o1, u1, u2⟩ := (cm_iff (m1 := bnd m p o) (bnd_a hpo) hS).mp hc
  have hqp : q ≠ p := fun e => by rw [e, hS] at s1; cases s1
  have hqo : q ≠ o := fun e => by rw [e, hSo] at s1; cases s1
  exact GG_no okA_sym hp hq (fun e => hqp e.symm) fp f1 (sm_f sm_o) (sm_f (sm_f s1)) o1 u1 ((wl_eq (bnd_o hqp hqo)).trans u2)
theorem GG_no3 (hS : S p = true) (hSo : S o = true) (hpo : p ≠ o) (ho : o < w.n) (fo : fr o = true) (hc : cm w c h fr S m o (some p) = false) : GG (okA (alk w c h)) (lik w c h) fr w.n i (sm (sm S p) o) (bnd m p o) = [] := by
  obtain ⟨q, hq, f1, s1, o1, u1, u2⟩ := (cm_iff (m1 := bnd m p o) bnd_b hSo).mp hc
  have hqp : q ≠ p := fun e => by rw [e, hS] at s1; cases s1
  have hqo : q ≠ o := fun e => by rw [e, hSo] at s1; cases s1
  exact GG_no okA_sym ho hq (fun e => hqo e.symm) fo f1 sm_o (sm_f (sm_f s1)) o1 u1 ((wl_eq (bnd_o hqp hqo)).trans u2)
theorem GG_no1 (hS : S p = true) (hp : p < w.n) (fp : fr p = true) (hm : m p = none) (hc : cm w c h fr S m p none = false) : GG (okA (alk w c h)) (lik w c h) fr w.n i (sm S p) m = [] := by
  obtain ⟨q, hq, f1, s1, o1, u1, u2⟩ := (cm_iff (m1 := m) hm hS).mp hc
  have hqp : q ≠ p := fun e => by rw [e, hS] at s1; cases s1
  exact GG_no okA_sym hp hq (fun e => hqp e.symm) fp f1 sm_o (sm_f s1) o1 u1 u2
theorem clm_1 (hC : clm (okA (alk w c h)) (lik w c h) fr w.n S m) (hS : S p = true) (hm : m p = none) (hc : cm w c h fr S m p none = true) : clm (okA (alk w c h)) (lik w c h) fr w.n (sm S p) m := by
  have key : ∀ q, q < w.n → fr q = true → S q = false → okA (alk w c h) p q = true → wl (lik w c h) m p q = true → wl (lik w c h) m q p = true → False := fun q hq f1 s1 o1 u1 u2 => by
    have := (cm_iff (w := w) (c := c) (h := h) (fr := fr) (m1 := m) hm hS).mpr ⟨q, hq, f1, s1, o1, u1, u2⟩
    rw [hc] at this
    cases this
  intro a b ha hb hab fa fb sa sb o1 u1 u2
  have cs : ∀ x, sm S p x = false → x = p ∨ S x = false := fun x hx => by
    by_cases e : x = p
    · exact Or.inl e
    · unfold sm at hx
      simp [e] at hx
      exact Or.inr hx
  rcases cs a sa with rfl | sa'
  · rcases cs b sb with rfl | sb'
    · exact hab rfl
    · exact key b hb fb sb' o1 u1 u2
  · rcases cs b sb with rfl | sb'
    · exact key a ha fa sa' (by rw [okA_sym]; exact o1) u2 u1
    · exact hC a b ha hb hab fa fb sa' sb' o1 u1 u2
theorem clm_2 (hC : clm (okA (alk w c h)) (lik w c h) fr w.n S m) (hS : S p = true) (hSo : S o = true) (hpo : p ≠ o) (hc : cm w c h fr S m p (some o) = true) (hc2 : cm w c h fr S m o (some p) = true) : clm (okA (alk w c h)) (lik w c h) fr w.n (sm (sm S p) o) (bnd m p o) := by
  have n1 : ∀ q, S q = false → q ≠ p ∧ q ≠ o := fun q s1 => ⟨fun e => (by rw [e, hS] at s1; cases s1), fun e => (by rw [e, hSo] at s1; cases s1)⟩
  have key : ∀ q, q < w.n → fr q = true → S q = false → okA (alk w c h) p q = true → wl (lik w c h) (bnd m p o) p q = true → wl (lik w c h) (bnd m p o) q p = true → False := fun q hq f1 s1 o1 u1 u2 => by
    have := (cm_iff (w := w) (c := c) (h := h) (fr := fr) (m := m) (m1 := bnd m p o) (bnd_a hpo) hS).mpr ⟨q, hq, f1, s1, o1, u1, (wl_eq (bnd_o (n1 q s1).1 (n1 q s1).2)).symm.trans u2⟩
    rw [hc] at this
    cases this
  have key2 : ∀ q, q < w.n → fr q = true → S q = false → okA (alk w c h) o q = true → wl (lik w c h) (bnd m p o) o q = true → wl (lik w c h) (bnd m p o) q o = true → False := fun q hq f1 s1 o1 u1 u2 => by
    have := (cm_iff (w := w) (c := c) (h := h) (fr := fr) (m := m) (m1 := bnd m p o) bnd_b hSo).mpr ⟨q, hq, f1, s1, o1, u1, (wl_eq (bnd_o (n1 q s1).1 (n1 q s1).2)).symm.trans u2⟩
    rw [hc2] at this
    cases this
  have e1 : wl (lik w c h) (bnd m p o) p o = false := wl_own (bnd_a hpo)
  have e2 : wl (lik w c h) (bnd m p o) o p = false := wl_own bnd_b
  have cs : ∀ x, sm (sm S p) o x = false → x = p ∨ x = o ∨ S x = false := fun x hx => by
    by_cases e : x = o
    · exact Or.inr (Or.inl e)
    · by_cases e' : x = p
      · exact Or.inl e'
      · unfold sm at hx
        simp [e, e'] at hx
        exact Or.inr (Or.inr hx)
  intro a b ha hb hab fa fb sa sb o1 u1 u2
  rcases cs a sa with rfl | rfl | sa'
  · rcases cs b sb with rfl | rfl | sb'
    · exact hab rfl
    · rw [e1] at u1; cases u1
    · exact key b hb fb sb' o1 u1 u2
  · rcases cs b sb with rfl | rfl | sb'
    · rw [e2] at u1; cases u1
    · exact hab rfl
    · exact key2 b hb fb sb' o1 u1 u2
  · rcases cs b sb with rfl | rfl | sb'
    · exact key a ha fa sa' (by rw [okA_sym]; exact o1) u2 u1
    · exact key2 a ha fa sa' (by rw [okA_sym]; exact o1) u2 u1
    · exact hC a b ha hb hab fa fb sa' sb' o1 ((wl_eq (bnd_o (n1 a sa').1 (n1 a sa').2)).symm.trans u1) ((wl_eq (bnd_o (n1 b sb').1 (n1 b sb').2)).symm.trans u2)
end W
