/-! the state that both sides hold, and the model's -/
abbrev RO : Type := Int32 × (Nat → Nat) × (Nat → Nat) × MM

def RF (n : Nat) (f : Nat → Int32) (b : Nat) (ro : RO) : Prop := f b = ro.1 ∧ RW n b ro.2.1 ro.2.2.1 ro.2.2.2 (fun _ => f)
def AC (n : Nat) (f : Nat → Int32) (ac : List RO) : Prop := ac.length ≤ 40 ∧ ∀ i ro, ac[i]? = some ro → RF n f (33 * i) ro
def SN (n : Nat) (f : Nat → Int32) (se : SE) : Prop := se.length ≤ 8 ∧ ∀ i e, se[i]? = some e → f (3 * i) = nI e.1 ∧ f (3 * i + 1) = nI e.2.1 ∧ f (3 * i + 2) = mI e.2.2 ∧ e.1 < n ∧ 1 ≤ e.2.1 ∧ e.2.1 ≤ 20 ∧ (∀ q, e.2.2 = some q → q < n)
abbrev IM : Type := RO × List RO × SE
abbrev AS : Type := ((Nat → Nat) × Nat) × Option Nat × (Nat → Int32) × WT × IM × Option IM
def AS.tp (A : AS) : Nat → Nat := A.1.1
def AS.td (A : AS) : Nat := A.1.2
def AS.fp (A : AS) : Option Nat := A.2.1
def AS.rf (A : AS) : Nat → Int32 := A.2.2.1
def AS.w (A : AS) : WT := A.2.2.2.1
def AS.im (A : AS) : IM := A.2.2.2.2.1
def AS.kp (A : AS) : Option IM := A.2.2.2.2.2
def AS.y (A : AS) : Int32 := A.im.1.1
def AS.c (A : AS) : Nat → Nat := A.im.1.2.1
def AS.h (A : AS) : Nat → Nat := A.im.1.2.2.1
def AS.m (A : AS) : MM := A.im.1.2.2.2
def AS.ac (A : AS) : List RO := A.im.2.1
def AS.se (A : AS) : SE := A.im.2.2
/-- an image in the model: three cells, two counts -/
def MI (n : Nat) (f g e : Nat → Int32) (x y : Int32) (i : IM) : Prop := RF n f 0 i.1 ∧ AC n g i.2.1 ∧ x = nI i.2.1.length ∧ SN n e i.2.2 ∧ y = nI i.2.2.length
def MS (A : AS) (I : mj_I) (L : mj_L) : Prop := MT A.w I ∧ MI A.w.n (I 89) (I 90) (I 100) (I 73 40) (I 73 52) A.im
  ∧ (match A.kp with
    | none => I 73 57 = nI 0
    | some i => I 73 57 = nI 1 ∧ MI A.w.n (I 103) (I 104) (I 105) (I 73 58) (I 73 59) i)
  ∧ I 73 10 = nI A.td ∧ A.td ≤ 700 ∧ (∀ j, j < A.td → I 79 j = nI (A.tp j) ∧ A.tp j < 256) ∧ I 73 12 = mI A.fp ∧ (∀ q, A.fp = some q → q ≤ 700) ∧ (∀ j, j < 3 → I 80 j = A.rf j) ∧ I 94 0 = nI 0 ∧ L 95 0 = 0
/-- what of the model stays over a call that only tells -/
def pers (c j : Nat) : Bool := (c == 73 && [1, 2, 3, 10, 12, 40, 52, 57, 58, 59].contains j) || c == 74 || c == 75 || c == 76 || c == 77 || c == 78 || c == 79 || c == 80 || (c == 89 && Nat.blt j 33) || c == 90 || (c == 94 && j == 0) || c == 100 || c == 103 || c == 104 || c == 105
def FM (c j : Nat) : Bool := Nat.ble 73 c && !(pers c j)
def FL (c j : Nat) : Bool := Nat.ble 73 c && !(c == 95 && j == 0) && !(c == 106)
theorem FM_lo {c j : Nat} (h : c < 73) : FM c j = false := by
  unfold FM
  rw [show Nat.ble 73 c = false from Bool.eq_false_iff.mpr (fun e => by have := Nat.le_of_ble_eq_true e; omega)]
  rfl
theorem FL_lo {c j : Nat} (h : c < 73) : FL c j = false := by
  unfold FL
  rw [show Nat.ble 73 c = false from Bool.eq_false_iff.mpr (fun e => by have := Nat.le_of_ble_eq_true e; omega)]
  rfl
theorem FL_lo6 {c j : Nat} (h : c < 73 ∨ c = 106) : FL c j = false := by
  rcases h with h | rfl
  · exact FL_lo h
  · unfold FL
    simp
theorem FM_89 {j : Nat} (h : j < 33) : FM 89 j = false := by
  have : Nat.blt j 33 = true := Nat.ble_eq_true_of_le h
  unfold FM pers
  rw [this]
  rfl
theorem FM_89i {j : Nat} (h : 33 ≤ j) : FM 89 j = true := by
  have : Nat.blt j 33 = false := Bool.eq_false_iff.mpr (fun e => by have := Nat.le_of_ble_eq_true (n := j + 1) e; omega)
  unfold FM pers
  rw [this]
  rfl
theorem RF.fr {n : Nat} {f f' : Nat → Int32} {b : Nat} {ro : RO} (h : RF n f b ro) (e : ∀ j, b ≤ j → j < b + 33 → f' j = f j) : RF n f' b ro := ⟨(e b (by omega) (by omega)).trans h.1, h.2.fr (F := fun _ j => !(Nat.ble b j && Nat.blt j (b + 33))) (fun _ j q => by
  simp only [Bool.not_eq_false', Bool.and_eq_true] at q
  exact e j (Nat.le_of_ble_eq_true q.1) (Nat.le_of_ble_eq_true q.2)) (fun j h1 h2 => by
  rw [Nat.ble_eq_true_of_le h1, show Nat.blt j (b + 33) = true from Nat.ble_eq_true_of_le h2]
  rfl)⟩
theorem MI.fr {n : Nat} {f g e f' g' e' : Nat → Int32} {x y : Int32} {i : IM} (h : MI n f g e x y i) (h1 : ∀ j, j < 33 → f' j = f j) (h2 : g' = g) (h3 : e' = e) : MI n f' g' e' x y i := by
  subst h2 h3
  exact ⟨h.1.fr (fun j _ q => h1 j (by omega)), h.2⟩
theorem MS.fr {A : AS} {I I' : mj_I} {L L' : mj_L} (h : MS A I L) (e : Eqf FM I I') (eL : EqL FL L L') : MS A I' L' := by
  obtain ⟨h1, h2, h3, h4, h5, h6, h7, h8, h9, h10, h11⟩ := h
  have e9 : I' 90 = I 90 := funext fun j => e 90 j rfl
  have e10 : I' 100 = I 100 := funext fun j => e 100 j rfl
  have e3 : I' 103 = I 103 := funext fun j => e 103 j rfl
  have e4 : I' 104 = I 104 := funext fun j => e 104 j rfl
  have e5 : I' 105 = I 105 := funext fun j => e 105 j rfl
  refine ⟨h1.fr e (fun _ => ⟨rfl, rfl, rfl, rfl, rfl, rfl, rfl, rfl⟩), ?_, ?_, (e 73 10 rfl).trans h4, h5, fun j hj => ⟨(e 79 j rfl).trans (h6 j hj).1, (h6 j hj).2⟩, (e 73 12 rfl).trans h7, h8, fun j hj => (e 80 j rfl).trans (h9 j hj), (e 94 0 rfl).trans h10, (eL 95 0 rfl).trans h11⟩
  · rw [e 73 40 rfl, e 73 52 rfl]
    exact h2.fr (fun j hj => e 89 j (FM_89 hj)) e9 e10
  · rw [e 73 57 rfl, e 73 58 rfl, e 73 59 rfl, e3, e4, e5]
    exact h3
theorem MS.mt {A : AS} {I : mj_I} {L : mj_L} (h : MS A I L) : MT A.w I := h.1
theorem MS.rw {A : AS} {I : mj_I} {L : mj_L} (h : MS A I L) : RW A.w.n 0 A.c A.h A.m I := h.2.1.1.2
theorem MS.hy {A : AS} {I : mj_I} {L : mj_L} (h : MS A I L) : I 89 0 = A.y := h.2.1.1.1
theorem MS.n10 {A : AS} {I : mj_I} {L : mj_L} (h : MS A I L) : A.w.n ≤ 10 := h.1.1.1
theorem MS.hn {A : AS} {I : mj_I} {L : mj_L} (h : MS A I L) : I 73 1 = nI A.w.n := h.1.2.1
theorem frm_to {cs : List Nat} {fs : List (Nat × Nat)} {F : Nat → Nat → Bool} {I I' : mj_I} (h : Eqf (frm cs fs) I I') (hc : ∀ c ∈ cs, ∀ j, F c j = true) (hf : ∀ q ∈ fs, F q.1 q.2 = true) : Eqf F I I' := h.mono (fun c j e => by
  rw [← Bool.not_eq_true] at e ⊢
  intro e2
  apply e
  unfold frm at e2
  rw [Bool.or_eq_true] at e2
  rcases e2 with h3 | h3
  · obtain ⟨q, hq, e3⟩ := List.any_eq_true.mp h3
    obtain rfl := eq_of_beq e3
    exact hc c hq j
  · obtain ⟨q, hq, e3⟩ := List.any_eq_true.mp h3
    rw [Bool.and_eq_true] at e3
    obtain rfl := eq_of_beq e3.1
    obtain rfl := eq_of_beq e3.2
    exact hf q hq)
theorem FM_91 {I I' : mj_I} (h : Eqf (frm [91, 92] []) I I') : Eqf FM I I' := frm_to h (fun c hc j => by
  simp only [List.mem_cons, List.not_mem_nil, or_false] at hc
  rcases hc with rfl | rfl <;> rfl) (fun q hq => by cases hq)
theorem FM_33 {I I' : mj_I} (h : Eqf (frr 33) I I') : Eqf FM I I' := h.mono (fun c j e => by
  rw [← Bool.not_eq_true] at e ⊢
  intro e2
  apply e
  unfold frr at e2
  rw [Bool.or_eq_true, Bool.or_eq_true, Bool.and_eq_true] at e2
  rcases e2 with (h3 | h3) | ⟨h3, h4⟩
  · obtain rfl := eq_of_beq h3
    rfl
  · obtain rfl := eq_of_beq h3
    rfl
  · obtain rfl := eq_of_beq h3
    rw [Bool.and_eq_true] at h4
    exact FM_89i (Nat.le_of_ble_eq_true h4.1))
/-- thrown is none at a call's beginning -/
def I0 (I : mj_I) : mj_I := mj_upI I 73 0 (nI 0)
theorem I0_fm {I : mj_I} : Eqf FM I (I0 I) := Eqf.rf.up rfl
theorem I0_th {I : mj_I} : I0 I 73 0 = nI 0 := upI_s
theorem MS.i0 {A : AS} {I : mj_I} {L : mj_L} (h : MS A I L) : MS A (I0 I) L := h.fr I0_fm EqL.rf
/-- a call of the model that only tells: what it tells, what it throws -/
def kM (Q : mj_Q) (I : mj_I) (L : mj_L) (P : mj_P) (th : Nat) (v : Value) : Prop := ∀ I' L', Eqf FM I I' → EqL FL L L' → I' 73 0 = nI th → Q (.inl (some v)) (107, I', L', P)
theorem kM.fin {Q : mj_Q} {I I1 : mj_I} {L : mj_L} {P : mj_P} {v v' : Int32} (k : kM Q I L P 0 (.int v)) (e : Eqf FM (I0 I) I1) (ev : v' = v) (h0 : I1 73 0 = nI 0 := by rfl) : Q (.inl (some (.int v'))) (107, I1, L, P) := by
  subst ev
  exact k _ _ (I0_fm.tr e) EqL.rf h0
