/-! TOKENS: bytes b, n of them -/
def isWs (x : Nat) : Bool := x == 32 || x == 10
def isL (x : Nat) : Bool := Nat.ble 97 x && Nat.ble x 122
def isD (x : Nat) : Bool := Nat.ble 48 x && Nat.ble x 57
def isSg (x : Nat) : Bool := x == 59 || x == 40 || x == 41 || x == 43 || x == 45 || x == 42 || x == 47 || x == 60 || x == 61
theorem isL_iff {x : Nat} : isL x = true ↔ 97 ≤ x ∧ x ≤ 122 := by
  unfold isL
  rw [Bool.and_eq_true, Nat.ble_eq, Nat.ble_eq]
theorem isD_iff {x : Nat} : isD x = true ↔ 48 ≤ x ∧ x ≤ 57 := by
  unfold isD
  rw [Bool.and_eq_true, Nat.ble_eq, Nat.ble_eq]
theorem isWs_iff {x : Nat} : isWs x = true ↔ x = 32 ∨ x = 10 := by
  unfold isWs
  simp
theorem isSg_iff {x : Nat} : isSg x = true ↔ x = 59 ∨ x = 40 ∨ x = 41 ∨ x = 43 ∨ x = 45 ∨ x = 42 ∨ x = 47 ∨ x = 60 ∨ x = 61 := by
  unfold isSg
  simp [or_assoc]
/-- the first from p on that isn't such a one, or the end -/
def upTo (q : Nat → Bool) (n p : Nat) : Nat := (fnd n p (fun i => !q i)).getD n
theorem upTo_spec {q : Nat → Bool} {n p : Nat} (hp : p ≤ n) : p ≤ upTo q n p ∧ upTo q n p ≤ n ∧ (∀ i, p ≤ i → i < upTo q n p → q i = true) ∧ (upTo q n p < n → q (upTo q n p) = false) := by
  unfold upTo
  cases e : fnd n p (fun i => !q i) with
  | none =>
    refine ⟨hp, Nat.le_refl _, fun i h1 h2 => ?_, fun h => absurd h (Nat.lt_irrefl _)⟩
    have := fnd_none.mp e i h1 h2
    simpa using this
  | some k =>
    obtain ⟨h1, h2, h3, h4⟩ := fnd_some e
    refine ⟨h1, Nat.le_of_lt h2, fun i g1 g2 => ?_, fun _ => ?_⟩
    · have := h4 i g1 g2
      simpa using this
    · simpa using h3
theorem upTo_is {q : Nat → Bool} {n p k : Nat} (h1 : p ≤ k) (h2 : k ≤ n) (h3 : ∀ i, p ≤ i → i < k → q i = true) (h4 : k < n → q k = false) : upTo q n p = k := by
  unfold upTo
  by_cases hk : k < n
  · rw [fnd_is h1 hk (by simp [h4 hk]) (fun j g1 g2 => by simp [h3 j g1 g2])]
    rfl
  · rw [fnd_none.mpr (fun j g1 g2 => by simp [h3 j g1 (by omega)])]
    show n = k
    omega
def skw (b : Nat → Nat) (n p : Nat) : Nat := upTo (fun i => isWs (b i)) n p
def wnd (b : Nat → Nat) (n p : Nat) : Nat := upTo (fun i => isL (b i)) n p
def dnd (b : Nat → Nat) (n p : Nat) : Nat := upTo (fun i => isD (b i)) n p
/-- the words, eight places each -/
def wT (i : Nat) : Nat := (mj_txt 1).getD i 0
def wln (w : Nat) : Nat := ([5, 7, 6, 6, 5, 5, 5, 2, 3, 3, 7, 5, 5, 4, 7, 4, 5, 3, 4] : List Nat).getD w 0
theorem wT_ok : ∀ w, w < 19 → wln w ≤ 7 ∧ 2 ≤ wln w ∧ (∀ i, i < 8 → if i < wln w then 97 ≤ wT (8 * w + i) ∧ wT (8 * w + i) ≤ 122 else wT (8 * w + i) = 32) := by decide +kernel
/-- letters as one number -/
def cod (f : Nat → Nat) : Nat → Nat
  | 0 => 0
  | k + 1 => 32 * cod f k + f k
theorem cod_cg {f g : Nat → Nat} : ∀ {k : Nat}, (∀ i, i < k → f i = g i) → cod f k = cod g k
  | 0, _ => rfl
  | k + 1, h => by
    show 32 * cod f k + f k = 32 * cod g k + g k
    rw [cod_cg (fun i hi => h i (by omega)), h k (by omega)]
theorem cod_inj {f g : Nat → Nat} : ∀ {k l : Nat}, (∀ i, i < k → 1 ≤ f i ∧ f i < 32) → (∀ i, i < l → 1 ≤ g i ∧ g i < 32) → cod f k = cod g l → k = l ∧ ∀ i, i < k → f i = g i
  | 0, 0, _, _, _ => ⟨rfl, fun i hi => absurd hi (by omega)⟩
  | 0, l + 1, _, hg, e => by
    have h1 := hg l (by omega)
    have e' : 0 = 32 * cod g l + g l := e
    omega
  | k + 1, 0, hf, _, e => by
    have h1 := hf k (by omega)
    have e' : 32 * cod f k + f k = 0 := e
    omega
  | k + 1, l + 1, hf, hg, e => by
    have h1 := hf k (by omega)
    have h2 := hg l (by omega)
    have e' : 32 * cod f k + f k = 32 * cod g l + g l := e
    obtain ⟨i1, i2⟩ := cod_inj (fun i hi => hf i (by omega)) (fun i hi => hg i (by omega)) (show cod f k = cod g l by omega)
    subst i1
    exact ⟨rfl, fun i hi => by
      by_cases q : i = k
      · subst q
        omega
      · exact i2 i (by omega)⟩
theorem cod_lt {f : Nat → Nat} : ∀ {k : Nat}, (∀ i, i < k → f i < 32) → cod f k < 32 ^ k
  | 0, _ => Nat.one_pos
  | k + 1, h => by
    have h1 := cod_lt (f := f) (k := k) (fun i hi => h i (by omega))
    have h2 := h k (by omega)
    show 32 * cod f k + f k < 32 ^ (k + 1)
    rw [Nat.pow_succ]
    omega
def wC (w : Nat) : Nat := cod (fun i => wT (8 * w + i) - 96) (wln w)
theorem wC_inj : ∀ w, w < 19 → ∀ v, v < 19 → wC w = wC v → w = v := by decide +kernel
/-- the letters from s on, as many as l, are the word w -/
def wq (b : Nat → Nat) (s l w : Nat) : Bool := decide (l = wln w) && (fnd l 0 (fun i => !decide (b (s + i) = wT (8 * w + i)))).isNone
theorem wq_iff {b : Nat → Nat} {s l w : Nat} : wq b s l w = true ↔ l = wln w ∧ ∀ i, i < l → b (s + i) = wT (8 * w + i) := by
  unfold wq
  rw [Bool.and_eq_true, decide_eq_true_eq, Option.isNone_iff_eq_none, fnd_none]
  constructor
  · rintro ⟨h1, h2⟩
    exact ⟨h1, fun i hi => by have := h2 i (by omega) hi; simpa using this⟩
  · rintro ⟨h1, h2⟩
    exact ⟨h1, fun i _ hi => by simp [h2 i hi]⟩
/-- by the number -/
theorem wq_cod {b : Nat → Nat} {s l w : Nat} (hw : w < 19) (hL : ∀ i, i < l → 97 ≤ b (s + i) ∧ b (s + i) ≤ 122) : wq b s l w = true ↔ cod (fun i => b (s + i) - 96) l = wC w := by
  obtain ⟨t1, t2, t3⟩ := wT_ok w hw
  have hT : ∀ i, i < wln w → 97 ≤ wT (8 * w + i) ∧ wT (8 * w + i) ≤ 122 := fun i hi => by
    have := t3 i (by omega)
    rw [if_pos hi] at this
    exact this
  rw [wq_iff]
  constructor
  · rintro ⟨h1, h2⟩
    unfold wC
    rw [← h1]
    exact cod_cg (fun i hi => by rw [h2 i hi])
  · intro e
    obtain ⟨i1, i2⟩ := cod_inj (fun i hi => by have := hL i hi; show 1 ≤ b (s + i) - 96 ∧ b (s + i) - 96 < 32; omega) (fun i hi => by have := hT i hi; show 1 ≤ wT (8 * w + i) - 96 ∧ wT (8 * w + i) - 96 < 32; omega) e
    refine ⟨i1, fun i hi => ?_⟩
    have h1 : b (s + i) - 96 = wT (8 * w + i) - 96 := i2 i hi
    have h2 := hL i hi
    have h3 := hT i (by omega)
    omega
/-- by the places: the class's way -/
theorem wq_txt {b : Nat → Nat} {s l w : Nat} (hw : w < 19) (hl : l < 8) (hL : ∀ i, i < l → 97 ≤ b (s + i) ∧ b (s + i) ≤ 122) : wq b s l w = true ↔ (∀ i, i < l → b (s + i) = wT (8 * w + i)) ∧ wT (8 * w + l) = 32 := by
  obtain ⟨t1, t2, t3⟩ := wT_ok w hw
  rw [wq_iff]
  constructor
  · rintro ⟨h1, h2⟩
    refine ⟨h2, ?_⟩
    have := t3 l hl
    rw [if_neg (by omega)] at this
    exact this
  · rintro ⟨h1, h2⟩
    refine ⟨?_, h1⟩
    rcases Nat.lt_trichotomy l (wln w) with q | q | q
    · have := t3 l hl
      rw [if_pos q] at this
      omega
    · exact q
    · have e1 := h1 (wln w) q
      have e2 := t3 (wln w) (by omega)
      rw [if_neg (Nat.lt_irrefl _)] at e2
      have e3 := hL (wln w) q
      omega
theorem wq_uni {b : Nat → Nat} {s l w v : Nat} (hw : w < 19) (hv : v < 19) (hL : ∀ i, i < l → 97 ≤ b (s + i) ∧ b (s + i) ≤ 122) (h1 : wq b s l w = true) (h2 : wq b s l v = true) : w = v := wC_inj w hw v hv (((wq_cod hw hL).mp h1).symm.trans ((wq_cod hv hL).mp h2))
def kwd (b : Nat → Nat) (s l : Nat) : Nat := (fnd 19 0 (wq b s l)).getD 19
theorem kwd_le {b : Nat → Nat} {s l : Nat} : kwd b s l ≤ 19 := by
  unfold kwd
  cases e : fnd 19 0 (wq b s l) with
  | none => exact Nat.le_refl _
  | some k =>
    have := (fnd_some e).2.1
    show k ≤ 19
    omega
/-- what the token from p on is, where the next one begins -/
def knd1 (b : Nat → Nat) (n s : Nat) : Nat := if n ≤ s then 21 else if isL (b s) = true then kwd b s (wnd b n s - s) else if isD (b s) = true then 20 else if isSg (b s) = true then b s else 22
def nx1 (b : Nat → Nat) (n s : Nat) : Nat := if n ≤ s then n else if isL (b s) = true then wnd b n s else if isD (b s) = true then dnd b n s else s + 1
def tkp (b : Nat → Nat) (n : Nat) : Nat → Nat
  | 0 => 0
  | j + 1 => nx1 b n (skw b n (tkp b n j))
def tB (b : Nat → Nat) (n j : Nat) : Nat := skw b n (tkp b n j)
def tK (b : Nat → Nat) (n j : Nat) : Nat := knd1 b n (tB b n j)
theorem tkp_s {b : Nat → Nat} {n j : Nat} : tkp b n (j + 1) = nx1 b n (tB b n j) := rfl
theorem nx1_le {b : Nat → Nat} {n s : Nat} (hs : s ≤ n) : s ≤ nx1 b n s ∧ nx1 b n s ≤ n ∧ (s < n → s < nx1 b n s) := by
  unfold nx1
  by_cases h1 : n ≤ s
  · rw [if_pos h1]
    exact ⟨hs, Nat.le_refl _, fun q => absurd q (by omega)⟩
  · rw [if_neg h1]
    by_cases h2 : isL (b s) = true
    · rw [if_pos h2]
      obtain ⟨g1, g2, g3, g4⟩ := upTo_spec (q := fun i => isL (b i)) hs
      refine ⟨g1, g2, fun _ => ?_⟩
      by_cases q : wnd b n s = s
      · have := g4 (by unfold wnd at q; omega)
        unfold wnd at q
        rw [q] at this
        rw [show isL (b s) = false from this] at h2
        cases h2
      · unfold wnd at q ⊢
        omega
    · rw [if_neg h2]
      by_cases h3 : isD (b s) = true
      · rw [if_pos h3]
        obtain ⟨g1, g2, g3, g4⟩ := upTo_spec (q := fun i => isD (b i)) hs
        refine ⟨g1, g2, fun _ => ?_⟩
        by_cases q : dnd b n s = s
        · have := g4 (by unfold dnd at q; omega)
          unfold dnd at q
          rw [q] at this
          rw [show isD (b s) = false from this] at h3
          cases h3
        · unfold dnd at q ⊢
          omega
      · rw [if_neg h3]
        omega
theorem tB_le {b : Nat → Nat} {n j : Nat} (h : tkp b n j ≤ n) : tkp b n j ≤ tB b n j ∧ tB b n j ≤ n := by
  obtain ⟨h1, h2, -, -⟩ := upTo_spec (q := fun i => isWs (b i)) h
  exact ⟨h1, h2⟩
theorem tkp_le {b : Nat → Nat} {n : Nat} : ∀ j, tkp b n j ≤ n
  | 0 => Nat.zero_le _
  | j + 1 => (nx1_le (tB_le (tkp_le j)).2).2.1
theorem tE_iff {b : Nat → Nat} {n j : Nat} : tK b n j = 21 ↔ n ≤ tB b n j := by
  unfold tK knd1
  constructor
  · intro h
    by_cases q : n ≤ tB b n j
    · exact q
    · rw [if_neg q] at h
      split at h
      · have := kwd_le (b := b) (s := tB b n j) (l := wnd b n (tB b n j) - tB b n j)
        omega
      · split at h
        · omega
        · split at h
          · rename_i q3
            rw [isSg_iff] at q3
            omega
          · omega
  · intro h
    rw [if_pos h]
theorem t_adv {b : Nat → Nat} {n j : Nat} (h : tK b n j ≠ 21) : tkp b n j ≤ tB b n j ∧ tB b n j < n ∧ tB b n j < tkp b n (j + 1) ∧ tkp b n (j + 1) ≤ n := by
  have h1 := tB_le (tkp_le (b := b) (n := n) j)
  have h2 : tB b n j < n := Nat.not_le.mp (fun q => h (tE_iff.mpr q))
  have h3 := nx1_le (b := b) h1.2
  exact ⟨h1.1, h2, h3.2.2 h2, tkp_le (j + 1)⟩
theorem t_end {b : Nat → Nat} {n j : Nat} (h : tK b n j = 21) : tK b n (j + 1) = 21 := by
  have h1 := tE_iff.mp h
  have e : tkp b n (j + 1) = n := by
    rw [tkp_s]
    unfold nx1
    rw [if_pos h1]
  rw [tE_iff]
  have := (tB_le (tkp_le (b := b) (n := n) (j + 1))).1
  omega
/-- tokens take places -/
theorem t_pos {b : Nat → Nat} {n : Nat} : ∀ {j : Nat}, tK b n j ≠ 21 → j ≤ tkp b n j
  | 0, _ => Nat.zero_le _
  | j + 1, h => by
    have h1 : tK b n j ≠ 21 := fun e => h (t_end e)
    have h2 := t_pos h1
    have h3 := t_adv h1
    omega
/-- the number of a token of digits: its first four -/
def dgv (b : Nat → Nat) (s : Nat) : Nat → Nat
  | 0 => 0
  | k + 1 => 10 * dgv b s k + (b (s + k) - 48)
def tD (b : Nat → Nat) (n j : Nat) : Nat := tkp b n (j + 1) - tB b n j
def min4 (k : Nat) : Nat := if k < 4 then k else 4
def min7 (k : Nat) : Nat := if k < 7 then k else 7
def tV (b : Nat → Nat) (n j : Nat) : Nat := dgv b (tB b n j) (min4 (tD b n j))
theorem dgv_lt {b : Nat → Nat} {s : Nat} : ∀ {k : Nat}, (∀ i, i < k → b (s + i) ≤ 57) → dgv b s k < 10 ^ k
  | 0, _ => Nat.one_pos
  | k + 1, h => by
    have h1 := dgv_lt (b := b) (s := s) (k := k) (fun i hi => h i (by omega))
    have h2 := h k (by omega)
    show 10 * dgv b s k + (b (s + k) - 48) < 10 ^ (k + 1)
    rw [Nat.pow_succ]
    omega
/-- the model's sort of a token -/
def srt (k : Nat) : Nat := if k = 21 then 0 else if k ≤ 19 then 1 else if k = 20 then 2 else if k = 22 then 4 else 3
/-- the model's numbers of words -/
def mwl : List Nat := [5, 11, 12, 13, 14, 7, 15, 17, 16, 18, 0, 1, 6, 2, 3, 4, 8, 9, 10]
def cwl : List Nat := [10, 11, 13, 14, 15, 0, 12, 5, 16, 17, 18, 1, 2, 3, 4, 6, 8, 7, 9]
def mw (w : Nat) : Nat := mwl.getD w 0
def cw (k : Nat) : Nat := cwl.getD k 0
theorem cw_mw : ∀ w, w < 19 → cw (mw w) = w ∧ mw w < 19 := by decide
theorem mw_cw : ∀ k, k < 19 → mw (cw k) = k ∧ cw k < 19 := by decide
def mk (k : Nat) : Option Nat := if k < 19 then some (mw k) else none
theorem kw_find {b : Nat → Nat} {s l : Nat} (hL : ∀ i, i < l → 97 ≤ b (s + i) ∧ b (s + i) ≤ 122) : fnd 19 0 (fun k => wq b s l (cw k)) = mk (kwd b s l) := by
  unfold kwd
  cases e : fnd 19 0 (wq b s l) with
  | none =>
    show _ = mk 19
    rw [fnd_none.mpr (fun j _ hj => fnd_none.mp e (cw j) (Nat.zero_le _) (mw_cw j hj).2)]
    rfl
  | some w =>
    obtain ⟨-, h2, h3, -⟩ := fnd_some e
    show _ = mk w
    unfold mk
    rw [if_pos h2]
    refine fnd_is (Nat.zero_le _) (cw_mw w h2).2 (by show wq b s l (cw (mw w)) = true; rw [(cw_mw w h2).1]; exact h3) (fun j _ hj => ?_)
    show wq b s l (cw j) = false
    cases e2 : wq b s l (cw j) with
    | false => rfl
    | true =>
      exfalso
      have hj19 : j < 19 := by have := (cw_mw w h2).2; omega
      have e3 := wq_uni (mw_cw j hj19).2 h2 hL e2 h3
      have e4 := (mw_cw j hj19).1
      rw [e3] at e4
      omega
