/-! more of plain numbers: searches, images of sets -/
theorem fnd_succ {p : Nat → Bool} {n i : Nat} (h : i ≤ n) : fnd (n + 1) i p = (fnd n i p).or (if p n then some n else none) := by
  unfold fnd
  rw [show n + 1 - i = (n - i) + 1 by omega, List.range'_concat, List.find?_append]
  congr 1
  rw [show i + 1 * (n - i) = n by omega, List.find?_cons]
  cases p n <;> rfl
theorem fnd_some {p : Nat → Bool} {n i k : Nat} (h : fnd n i p = some k) : i ≤ k ∧ k < n ∧ p k = true ∧ ∀ j, i ≤ j → j < k → p j = false := by
  by_cases hin : i ≤ n
  · have := loop_up (n := n) (R := fun i => fnd n i p = some k → i ≤ k ∧ k < n ∧ p k = true ∧ ∀ j, i ≤ j → j < k → p j = false) (fun h => by rw [fnd_end (Nat.le_refl _)] at h; cases h) (fun i hi ih h => by
      cases hp : p i with
      | true =>
        rw [fnd_yes hi hp] at h
        cases h
        exact ⟨Nat.le_refl _, hi, hp, fun j h1 h2 => absurd h1 (by omega)⟩
      | false =>
        rw [fnd_no hi hp] at h
        obtain ⟨h1, h2, h3, h4⟩ := ih h
        exact ⟨by omega, h2, h3, fun j h5 h6 => by
          by_cases e : j = i
          · rw [e]; exact hp
          · exact h4 j (by omega) h6⟩) i hin
    exact this h
  · rw [fnd_end (by omega)] at h
    cases h
theorem fnd_none {p : Nat → Bool} {n i : Nat} : fnd n i p = none ↔ ∀ j, i ≤ j → j < n → p j = false := by
  constructor
  · intro h j h1 h2
    unfold fnd at h
    rw [List.find?_eq_none] at h
    have := h j (List.mem_range'_1.mpr ⟨h1, by omega⟩)
    exact Bool.eq_false_iff.mpr this
  · intro h
    unfold fnd
    rw [List.find?_eq_none]
    intro j hj
    obtain ⟨h1, h2⟩ := List.mem_range'_1.mp hj
    rw [h j h1 (by omega)]
    decide
theorem fnd_is {p : Nat → Bool} {n i k : Nat} (h1 : i ≤ k) (h2 : k < n) (h3 : p k = true) (h4 : ∀ j, i ≤ j → j < k → p j = false) : fnd n i p = some k := by
  cases e : fnd n i p with
  | none =>
    rw [fnd_none.mp e k h1 h2] at h3
    cases h3
  | some k' =>
    obtain ⟨g1, g2, g3, g4⟩ := fnd_some e
    rcases Nat.lt_trichotomy k k' with q | q | q
    · rw [g4 k h1 q] at h3
      cases h3
    · rw [q]
    · rw [h4 k' g1 q] at g3
      cases g3
theorem fnd_congr {p p' : Nat → Bool} {n i : Nat} (h : ∀ j, i ≤ j → j < n → p j = p' j) : fnd n i p = fnd n i p' := by
  cases e : fnd n i p' with
  | none => exact fnd_none.mpr (fun j h1 h2 => by rw [h j h1 h2]; exact fnd_none.mp e j h1 h2)
  | some k =>
    obtain ⟨g1, g2, g3, g4⟩ := fnd_some e
    exact fnd_is g1 g2 (by rw [h k g1 g2]; exact g3) (fun j h1 h2 => by rw [h j h1 (by omega)]; exact g4 j h1 h2)
def anyB (p : Nat → Bool) : Nat → Bool
  | 0 => false
  | k + 1 => anyB p k || p k
theorem anyB_iff {p : Nat → Bool} : ∀ {n : Nat}, anyB p n = true ↔ ∃ i, i < n ∧ p i = true
  | 0 => ⟨fun h => (by cases h), fun ⟨i, h, _⟩ => absurd h (by omega)⟩
  | n + 1 => by
    show (anyB p n || p n) = true ↔ _
    rw [Bool.or_eq_true, anyB_iff]
    constructor
    · rintro (⟨i, h1, h2⟩ | h)
      · exact ⟨i, by omega, h2⟩
      · exact ⟨n, by omega, h⟩
    · rintro ⟨i, h1, h2⟩
      by_cases e : i = n
      · rw [e] at h2
        exact Or.inr h2
      · exact Or.inl ⟨i, by omega, h2⟩
theorem anyB_congr {p p' : Nat → Bool} : ∀ {n : Nat}, (∀ i, i < n → p i = p' i) → anyB p n = anyB p' n
  | 0, _ => rfl
  | n + 1, h => by
    show (anyB p n || p n) = (anyB p' n || p' n)
    rw [anyB_congr (fun i hi => h i (by omega)), h n (by omega)]
/-- the image of a set -/
def img (n : Nat) (R : Nat → Nat → Bool) (S : Nat → Bool) (x : Nat) : Bool := anyB (fun r => S r && R r x) n
/-- behind k steps -/
def wlk (n : Nat) (R : Nat → Nat → Bool) (p : Nat) : Nat → Nat → Bool
  | 0, x => decide (x = p)
  | k + 1, x => img n R (wlk n R p k) x
/-- within k steps -/
def rch (n : Nat) (R : Nat → Nat → Bool) (p : Nat) : Nat → Nat → Bool
  | 0, x => decide (x = p)
  | k + 1, x => rch n R p k x || img n R (rch n R p k) x
def rngS (n : Nat) (R : Nat → Nat → Bool) : Option Nat := fld n 0 (fun best p => (fnd (best.getD (n + 1)) 1 (fun k => wlk n R p k p)).or best) none
def crcF (n : Nat) (R : Nat → Nat → Bool) (acc : Nat × (Nat → Bool)) (p : Nat) : Nat × (Nat → Bool) := if acc.2 p = true then acc else (acc.1 + 1, fun x => acc.2 x || rch n R p n x)
def crcS (n : Nat) (R : Nat → Nat → Bool) : Nat := (fld n 0 (crcF n R) (0, fun _ => false)).1
/-! a seed -/
def lcg (x : Int32) : Int32 := x * nI 1103515245 + nI 12345
def drw (x : Int32) : Nat := (x >>> (nI 16 &&& 31)).toBitVec.toNat % 32768
theorem drw_and (x : Int32) : x >>> (nI 16 &&& 31) &&& nI 32767 = nI (drw x) := pk_and _ 15 (by decide)
theorem drw_lt (x : Int32) : drw x < 32768 := Nat.mod_lt _ (by decide)
abbrev GS : Type := Int32 × (Nat → Nat) × (Nat → Nat) × MM
def hap (lc : Int32 → Int32) (dr : Int32 → Nat) (n : Nat) (g : GS) : GS :=
  let x1 := lc g.1
  let p := dr x1 % n
  let x2 := lc x1
  if dr x2 % 4 = 0 then (x2, g.2.1, fun i => if i = p then (if 9 < g.2.2.1 p + 3 then 9 else g.2.2.1 p + 3) else g.2.2.1 i, g.2.2.2)
  else if dr x2 % 4 = 1 then (x2, g.2.1, g.2.2.1, match g.2.2.2 p with
    | none => g.2.2.2
    | some q => unb g.2.2.2 p q)
  else if dr x2 % 4 = 2 then (lc x2, fun i => if i = p then dr (lc x2) % 10 else g.2.1 i, fun i => if i = p then 0 else g.2.2.1 i, g.2.2.2)
  else (x2, g.2)
def genF (lc : Int32 → Int32) (dr : Int32 → Nat) (w : WT) (a : GS × Nat) : GS × Nat :=
  let g := if 0 < w.n then hap lc dr w.n a.1 else a.1
  ((g.1, g.2.1, hld w g.2.1 g.2.2), a.2 + (hldm w g.2.1 g.2.2).2)
def gen (lc : Int32 → Int32) (dr : Int32 → Nat) (w : WT) (g : GS) : Nat → GS × Nat
  | 0 => (g, 0)
  | k + 1 => genF lc dr w (gen lc dr w g k)
/-! the basket -/
def lky (s b : Nat) : Nat := if b = 0 then 840 else b * fld s b (fun v i => v + 840 / i) 0
def bask (s : Nat) : Nat := fld s 1 (fun best b => if lky s best < lky s b then b else best) 0
def sBasket (s x : Nat) : Nat := if x = 0 then bask s else if x = 1 then lky s (bask s) / Nat.gcd (lky s (bask s)) (840 * s) else 840 * s / Nat.gcd (lky s (bask s)) (840 * s)
theorem lky_lt : ∀ s, s < 10 → ∀ b, b < 10 → lky s b < 100000 := by decide +kernel
/-! a game -/
def gns (w : WT) (c h : Nat → Nat) (p q x y : Nat) : Int32 :=
  let v := alkV w.al (w.pat p) (w.woo p) (w.siz p) (c p) (if x = 1 then 0 else h p) (w.pat q) (w.woo q) (w.siz q) (c q) (if y = 1 then 0 else h q)
  (if 0 < v then v else nI 0) - nI (if y = 1 then h q / 2 else 0) - nI x
def gmp (w : WT) (c h : Nat → Nat) (p q k : Nat) : Bool := decide (¬ gns w c h p q (k / 2) (k % 2) < gns w c h p q (1 - k / 2) (k % 2) ∧ ¬ gns w c h q p (k % 2) (k / 2) < gns w c h q p (1 - k % 2) (k / 2))
def sGame (w : WT) (c h : Nat → Nat) (p q x : Nat) : Int32 := if x = 0 then nI (cntF (gmp w c h p q) 4) else mI ((fnd 4 0 (gmp w c h p q)).map (fun k => 10 * (k / 2) + k % 2))
/-! a sock that is knit -/
def alK (w : WT) (c h : Nat → Nat) (q s cl pt wl : Nat) : Int32 := alkV w.al (w.pat q) (w.woo q) (w.siz q) (c q) (h q) pt wl s cl 0
def knd (w : WT) (c h : Nat → Nat) (p s cl pt wl q : Nat) : Bool := decide (0 < alK w c h q s cl pt wl) != decide (q = p)
def knf (w : WT) (c h : Nat → Nat) (p s cl pt wl : Nat) : Bool := (fnd w.n 0 (knd w c h p s cl pt wl)).isNone
def knp (w : WT) (c h : Nat → Nat) (p t : Nat) : Bool := knf w c h p (t / 160 + 1) (t % 160 / 16) (t % 160 / 4 % 4) (t % 160 % 4)
def knr (t : Nat) : Nat := 10000 * (t / 160 + 1) + 100 * (t % 160 / 16) + 10 * (t % 160 / 4 % 4) + t % 160 % 4
def knt (w : WT) (c h : Nat → Nat) (p : Nat) : Option Nat := (fnd 4800 0 (knp w c h p)).map knr
