/-! what both sides are held against: rules as steps over a pile, ALIKE, bindings; frames of cells -/
abbrev RP : Type := List (Nat × Nat)
def opv (t : Nat) (a b : Int32) : Int32 :=
  if t = 4 then (if ¬ a = 0 ∧ ¬ b = 0 then nI 1 else nI 0)
  else if t = 5 then (if ¬ a = 0 ∨ ¬ b = 0 then nI 1 else nI 0)
  else if t = 6 then (if a < b then nI 1 else nI 0)
  else if t = 7 then (if a = b then nI 1 else nI 0)
  else if t = 8 then a + b
  else if t = 9 then a - b
  else if t = 10 then a * b
  else (if b = 0 then nI 0 else a / b)
def stp (val : Nat → Int32) (t v : Nat) (s : List Int32) : List Int32 :=
  if t = 1 then nI v :: s else if t = 2 then val v :: s
  else match s with
    | [] => []
    | x :: s1 => if t = 3 then (if x = 0 then nI 1 else nI 0) :: s1 else match s1 with
      | [] => []
      | y :: s2 => opv t y x :: s2
def rpn (val : Nat → Int32) : RP → List Int32 → List Int32
  | [], s => s
  | q :: R, s => rpn val R (stp val q.1 q.2 s)
def rpv (val : Nat → Int32) (R : RP) : Int32 := (rpn val R []).headD 0
/-- from a pile of h, at most m high, to a pile of one; VALUES from lo to hi -/
def rpok (lo hi m : Nat) : RP → Nat → Prop
  | [], h => h = 1
  | q :: R, h => (q.1 = 1 ∧ q.2 < 10000 ∧ h + 1 ≤ m ∧ rpok lo hi m R (h + 1)) ∨ (q.1 = 2 ∧ lo ≤ q.2 ∧ q.2 ≤ hi ∧ h + 1 ≤ m ∧ rpok lo hi m R (h + 1))
    ∨ (q.1 = 3 ∧ 1 ≤ h ∧ rpok lo hi m R h) ∨ (4 ≤ q.1 ∧ q.1 ≤ 11 ∧ 2 ≤ h ∧ rpok lo hi m R (h - 1))
def dif (a b : Nat) : Nat := if a < b then b - a else a - b
theorem dif_comm (a b : Nat) : dif a b = dif b a := by
  unfold dif
  split <;> split <;> omega
/-- VALUES of ALIKE -/
def vA (c s h w p o l : Nat) : Nat → Int32 := fun k =>
  if k = 0 then nI c else if k = 1 then nI s else if k = 2 then nI w else if k = 3 then nI p else if k = 4 then nI o else if k = 5 then nI l else nI h
/-- VALUES of LIKES -/
def vL (al : Int32) (ch ow si ho : Nat) : Nat → Int32 := fun k =>
  if k = 6 then nI ho else if k = 7 then al else if k = 8 then nI ch else if k = 9 then nI ow else nI si
def b01 (c : Prop) [Decidable c] : Nat := if c then 1 else 0
/-- what ALIKE gives for two socks (pattern, wool, size, colour, holes) -/
def alkV (al : Option RP) (pa wa sa ca ha pb wb sb cb hb : Nat) : Int32 := match al with
  | none => nI 10 - nI (dif ca cb) - nI (dif sa sb) - nI (dif ha hb) + nI (if pa = pb then 5 else 0)
  | some R => rpv (vA (dif ca cb) (dif sa sb) (dif ha hb) (ha + hb) (if pa = pb then 1 else 0) (if wa = wb then 1 else 0) ((if pa = 0 then 1 else 0) + (if pb = 0 then 1 else 0))) R
theorem alkV_comm (al : Option RP) (pa wa sa ca ha pb wb sb cb hb : Nat) : alkV al pa wa sa ca ha pb wb sb cb hb = alkV al pb wb sb cb hb pa wa sa ca ha := by
  unfold alkV
  rw [dif_comm ca cb, dif_comm sa sb, dif_comm ha hb, Nat.add_comm ha hb, Nat.add_comm (if pa = 0 then 1 else 0)]
  simp only [eq_comm (a := pa) (b := pb), eq_comm (a := wa) (b := wb)]
/-- what a text tells: how many, pattern, wool, size, charm, both rules -/
abbrev WT : Type := Nat × (Nat → Nat) × (Nat → Nat) × (Nat → Nat) × (Nat → Nat) × Option RP × Option RP
def WT.n (w : WT) : Nat := w.1
def WT.pat (w : WT) : Nat → Nat := w.2.1
def WT.woo (w : WT) : Nat → Nat := w.2.2.1
def WT.siz (w : WT) : Nat → Nat := w.2.2.2.1
def WT.chm (w : WT) : Nat → Nat := w.2.2.2.2.1
def WT.al (w : WT) : Option RP := w.2.2.2.2.2.1
def WT.li (w : WT) : Option RP := w.2.2.2.2.2.2
/-- a text's numbers are as told -/
def WT.ok (w : WT) : Prop := w.n ≤ 10 ∧ (∀ p, p < w.n → w.pat p < 4 ∧ w.woo p < 4 ∧ 1 ≤ w.siz p ∧ w.siz p ≤ 30 ∧ w.chm p ≤ 20) ∧ (∀ R, w.al = some R → rpok 0 6 36 R 0 ∧ R.length ≤ 700) ∧ (∀ R, w.li = some R → rpok 6 10 36 R 0 ∧ R.length ≤ 700)
/-- ALIKE of two with these colours and holes -/
def alk (w : WT) (c h : Nat → Nat) (a b : Nat) : Int32 := alkV w.al (w.pat a) (w.woo a) (w.siz a) (c a) (h a) (w.pat b) (w.woo b) (w.siz b) (c b) (h b)
theorem alk_comm (w : WT) (c h : Nat → Nat) (a b : Nat) : alk w c h a b = alk w c h b a := alkV_comm ..
/-- LIKING -/
def lik (w : WT) (c h : Nat → Nat) (a b : Nat) : Int32 := match w.li with
  | none => alk w c h a b + nI (w.chm b)
  | some R => rpv (vL (alk w c h a b) (w.chm b) (w.chm a) (w.siz b) (h b)) R
/-- to whom one is bound, as a number -/
def mI : Option Nat → Int32
  | none => -(nI 1)
  | some q => nI q
theorem mI_ne {q : Nat} (h : q < 2 ^ 31) : ¬ nI q = -(nI 1) := by
  intro e
  have h1 := nI_pos (n := q) h
  rw [e] at h1
  exact h1 (by decide)
theorem mI_eq {m : Option Nat} (h : ∀ q, m = some q → q < 2 ^ 31) : mI m = -(nI 1) ↔ m = none := by
  cases m with
  | none => exact ⟨fun _ => rfl, fun _ => rfl⟩
  | some q => exact ⟨fun e => absurd e (mI_ne (h q rfl)), fun e => by cases e⟩
theorem mI_inj {m m' : Option Nat} (h : ∀ q, m = some q → q < 2 ^ 31) (h' : ∀ q, m' = some q → q < 2 ^ 31) : mI m = mI m' ↔ m = m' := by
  constructor
  · intro e
    cases m with
    | none => exact ((mI_eq h').mp e.symm).symm
    | some q =>
      cases m' with
      | none => exact absurd e (mI_ne (h q rfl))
      | some q' => rw [(nI_eq (h q rfl) (h' q' rfl)).mp e]
  · rintro rfl
    rfl
/-- bindings hold both ways, of two -/
def gm (n : Nat) (m : Nat → Option Nat) : Prop := ∀ p, p < n → ∀ q, m p = some q → q < n ∧ q ≠ p ∧ m q = some p
/-! frames: what stays -/
def frm (cs : List Nat) (fs : List (Nat × Nat)) (c j : Nat) : Bool := cs.any (fun q => c == q) || fs.any (fun q => c == q.1 && j == q.2)
def Eqf (F : Nat → Nat → Bool) (I I' : mj_I) : Prop := ∀ c j, F c j = false → I' c j = I c j
def EqL (F : Nat → Nat → Bool) (L L' : mj_L) : Prop := ∀ c j, F c j = false → L' c j = L c j
theorem Eqf.rf {F : Nat → Nat → Bool} {I : mj_I} : Eqf F I I := fun _ _ _ => rfl
theorem Eqf.tr {F : Nat → Nat → Bool} {I I' I'' : mj_I} (h : Eqf F I I') (h' : Eqf F I' I'') : Eqf F I I'' := fun c j e => (h' c j e).trans (h c j e)
theorem Eqf.mono {F F' : Nat → Nat → Bool} {I I' : mj_I} (h : Eqf F I I') (hF : ∀ c j, F' c j = false → F c j = false) : Eqf F' I I' := fun c j e => h c j (hF c j e)
theorem Eqf.up {F : Nat → Nat → Bool} {I I' : mj_I} (h : Eqf F I I') {k j : Nat} {v : Int32} (hk : F k j = true) : Eqf F I (mj_upI I' k j v) := by
  intro c i e
  unfold mj_upI
  by_cases h1 : c = k
  · subst h1
    rw [if_pos rfl]
    by_cases h2 : i = j
    · subst h2
      rw [hk] at e
      cases e
    · rw [pk_un h2]
      exact h c i e
  · rw [if_neg h1]
    exact h c i e
theorem EqL.rf {F : Nat → Nat → Bool} {I : mj_L} : EqL F I I := fun _ _ _ => rfl
theorem EqL.tr {F : Nat → Nat → Bool} {I I' I'' : mj_L} (h : EqL F I I') (h' : EqL F I' I'') : EqL F I I'' := fun c j e => (h' c j e).trans (h c j e)
theorem EqL.mono {F F' : Nat → Nat → Bool} {I I' : mj_L} (h : EqL F I I') (hF : ∀ c j, F' c j = false → F c j = false) : EqL F' I I' := fun c j e => h c j (hF c j e)
theorem EqL.up {F : Nat → Nat → Bool} {I I' : mj_L} (h : EqL F I I') {k j : Nat} {v : Int64} (hk : F k j = true) : EqL F I (mj_upL I' k j v) := by
  intro c i e
  unfold mj_upL
  by_cases h1 : c = k
  · subst h1
    rw [if_pos rfl]
    by_cases h2 : i = j
    · subst h2
      rw [hk] at e
      cases e
    · rw [pk_uLn h2]
      exact h c i e
  · rw [if_neg h1]
    exact h c i e
theorem frm_cell {cs : List Nat} {fs : List (Nat × Nat)} {c j : Nat} (h : c ∈ cs) : frm cs fs c j = true := by
  unfold frm
  rw [Bool.or_eq_true]
  exact Or.inl (List.any_eq_true.mpr ⟨c, h, beq_self_eq_true c⟩)
theorem frm_mono {cs cs' : List Nat} {fs fs' : List (Nat × Nat)} (h : cs.all (fun c => cs'.contains c) = true) (h2 : fs.all (fun q => cs'.contains q.1 || fs'.contains q) = true) : ∀ c j, frm cs' fs' c j = false → frm cs fs c j = false := by
  intro c j e
  rw [← Bool.not_eq_true] at e ⊢
  intro e2
  apply e
  unfold frm at e2
  rw [Bool.or_eq_true] at e2
  rcases e2 with h3 | h3
  · obtain ⟨q, hq, e3⟩ := List.any_eq_true.mp h3
    obtain rfl := eq_of_beq e3
    have h4 := List.all_eq_true.mp h c hq
    exact frm_cell (List.contains_iff_mem.mp h4)
  · obtain ⟨q, hq, e3⟩ := List.any_eq_true.mp h3
    have h4 := List.all_eq_true.mp h2 q hq
    rw [Bool.and_eq_true] at e3
    obtain rfl := eq_of_beq e3.1
    rw [Bool.or_eq_true] at h4
    rcases h4 with h5 | h5
    · exact frm_cell (List.contains_iff_mem.mp h5)
    · unfold frm
      rw [Bool.or_eq_true]
      exact Or.inr (List.any_eq_true.mpr ⟨q, List.contains_iff_mem.mp h5, by rw [Bool.and_eq_true]; exact ⟨beq_self_eq_true _, e3.2⟩⟩)
theorem Eqf.to {cs cs' : List Nat} {fs fs' : List (Nat × Nat)} {I I' : mj_I} (h : Eqf (frm cs fs) I I') (h1 : cs.all (fun c => cs'.contains c) = true) (h2 : fs.all (fun q => cs'.contains q.1 || fs'.contains q) = true) : Eqf (frm cs' fs') I I' := h.mono (frm_mono h1 h2)
theorem EqL.to {cs cs' : List Nat} {fs fs' : List (Nat × Nat)} {I I' : mj_L} (h : EqL (frm cs fs) I I') (h1 : cs.all (fun c => cs'.contains c) = true) (h2 : fs.all (fun q => cs'.contains q.1 || fs'.contains q) = true) : EqL (frm cs' fs') I I' := h.mono (frm_mono h1 h2)
theorem upI_s {I : mj_I} {k j : Nat} {v : Int32} : mj_upI I k j v k j = v := by
  unfold mj_upI
  rw [if_pos rfl, pk_us]
theorem upI_j {I : mj_I} {k j c i : Nat} {v : Int32} (h : i ≠ j) : mj_upI I k j v c i = I c i := by
  unfold mj_upI
  split
  · rename_i e
    rw [pk_un h, e]
  · rfl
theorem upI_c {I : mj_I} {k j c : Nat} {v : Int32} (h : c ≠ k) : mj_upI I k j v c = I c := by
  unfold mj_upI
  rw [if_neg h]
theorem upI_if {I : mj_I} {k j i : Nat} {v : Int32} : mj_upI I k j v k i = if i = j then v else I k i := by
  unfold mj_upI
  rw [if_pos rfl]
  rfl
theorem upL_s {I : mj_L} {k j : Nat} {v : Int64} : mj_upL I k j v k j = v := by
  unfold mj_upL
  rw [if_pos rfl, pk_uLs]
theorem upL_j {I : mj_L} {k j c i : Nat} {v : Int64} (h : i ≠ j) : mj_upL I k j v c i = I c i := by
  unfold mj_upL
  split
  · rename_i e
    rw [pk_uLn h, e]
  · rfl
theorem upL_c {I : mj_L} {k j c : Nat} {v : Int64} (h : c ≠ k) : mj_upL I k j v c = I c := by
  unfold mj_upL
  rw [if_neg h]
theorem upL_if {I : mj_L} {k j i : Nat} {v : Int64} : mj_upL I k j v k i = if i = j then v else I k i := by
  unfold mj_upL
  rw [if_pos rfl]
  rfl
section M
variable {Φ : mj_F} {code : Nat → List mj_O} {Q : mj_Q} {is : List mj_O} {lo : mj_Lo} {rest : List Value} {n : Nat} {I : mj_I} {L : mj_L} {P : mj_P} {bc bs pc b x J : Nat} {m : Option Nat}
theorem q_eqM (hq : ∀ q, m = some q → q < 2 ^ 31) (kt : m = none → mj_run Φ code Q (code b) lo rest (n, I, L, P) bc bs) (kf : ¬ m = none → mj_run Φ code Q is lo rest (n, I, L, P) bc bs) : mj_run Φ code Q ((pc, 22, 0, b, x) :: is) lo (.int (-(nI 1)) :: .int (mI m) :: rest) (n, I, L, P) bc bs := q_eqI (fun h => kt ((mI_eq hq).mp h)) (fun h => kf (fun e => h ((mI_eq hq).mpr e)))
theorem q_neM (hq : ∀ q, m = some q → q < 2 ^ 31) (kt : ¬ m = none → mj_run Φ code Q (code b) lo rest (n, I, L, P) bc bs) (kf : m = none → mj_run Φ code Q is lo rest (n, I, L, P) bc bs) : mj_run Φ code Q ((pc, 22, 1, b, x) :: is) lo (.int (-(nI 1)) :: .int (mI m) :: rest) (n, I, L, P) bc bs := q_neI (fun h => kt (fun e => h ((mI_eq hq).mpr e))) (fun h => kf ((mI_eq hq).mp (Classical.not_not.mp h)))
theorem q_d22_0Mn {x1 y : Nat} (hq : ∀ q, m = some q → q < 2 ^ 31) (kt : mj_run Φ code Q (code J) lo (.int (nI y) :: rest) (n, I, L, P) bc bs → mj_run Φ code Q (code b) lo rest (n, I, L, P) bc bs) (kf : mj_run Φ code Q (code J) lo (.int (nI x1) :: rest) (n, I, L, P) bc bs → mj_run Φ code Q is lo rest (n, I, L, P) bc bs) (k : mj_run Φ code Q (code J) lo (.int (nI (if m = none then y else x1)) :: rest) (n, I, L, P) bc bs) : mj_run Φ code Q ((pc, 22, 0, b, x) :: is) lo (.int (-(nI 1)) :: .int (mI m) :: rest) (n, I, L, P) bc bs := q_eqM hq (fun h => kt (by rw [if_pos h] at k; exact k)) (fun h => kf (by rw [if_neg h] at k; exact k))
theorem q_d22_1Mn {x1 y : Nat} (hq : ∀ q, m = some q → q < 2 ^ 31) (kt : mj_run Φ code Q (code J) lo (.int (nI y) :: rest) (n, I, L, P) bc bs → mj_run Φ code Q (code b) lo rest (n, I, L, P) bc bs) (kf : mj_run Φ code Q (code J) lo (.int (nI x1) :: rest) (n, I, L, P) bc bs → mj_run Φ code Q is lo rest (n, I, L, P) bc bs) (k : mj_run Φ code Q (code J) lo (.int (nI (if m = none then x1 else y)) :: rest) (n, I, L, P) bc bs) : mj_run Φ code Q ((pc, 22, 1, b, x) :: is) lo (.int (-(nI 1)) :: .int (mI m) :: rest) (n, I, L, P) bc bs := q_neM hq (fun h => kt (by rw [if_neg h] at k; exact k)) (fun h => kf (by rw [if_pos h] at k; exact k))
end M
