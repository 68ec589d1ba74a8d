/-! THE SMALL MACHINE: cells by their numbers in the order of their making; a method's code as lists of (pc, op, a, b, x); what a run comes to, by its least fixed point -/
abbrev mj_I : Type := Nat → Nat → Int32
abbrev mj_L : Type := Nat → Nat → Int64
abbrev mj_P : Type := Nat → Nat → Option Nat
abbrev mj_S : Type := Nat × mj_I × mj_L × mj_P
abbrev mj_R : Type := Option Value ⊕ Nat
abbrev mj_Q : Type := mj_R → mj_S → Prop
abbrev mj_Lo : Type := List (Option Value)
/-- where a run stands: the code that is left, locals, stack, cells, how many cells and slots may still be made -/
abbrev mj_G : Type := List mj_O → mj_Lo → List Value → mj_S → Nat → Nat → Prop
abbrev mj_F : Type := Nat → List Value → mj_S → mj_Q → Prop
def mj_upI (I : mj_I) (k j : Nat) (v : Int32) : mj_I := fun c => if c = k then upd (I k) j v else I c
def mj_upL (L : mj_L) (k j : Nat) (v : Int64) : mj_L := fun c => if c = k then vp_updL (L k) j v else L c
def mj_upP (P : mj_P) (k j : Nat) (v : Option Nat) : mj_P := fun c => if c = k then va_up (P k) j v else P c
/-- a whole cell of ints -/
def mj_seI (I : mj_I) (k : Nat) (f : Nat → Int32) : mj_I := fun c => if c = k then f else I c
def mj_seL (L : mj_L) (k : Nat) (f : Nat → Int64) : mj_L := fun c => if c = k then f else L c
def mj_seP (P : mj_P) (k : Nat) (f : Nat → Option Nat) : mj_P := fun c => if c = k then f else P c
def mj_get : mj_Lo → Nat → Option Value
  | [], _ => none
  | o :: _, 0 => o
  | _ :: t, n + 1 => mj_get t n
def mj_set : mj_Lo → Nat → Option Value → mj_Lo
  | [], _, _ => []
  | _ :: t, 0, v => v :: t
  | o :: t, n + 1, v => o :: mj_set t n v
/-- no long begins just ahead of i -/
def mj_nlo : mj_Lo → Nat → Bool
  | _, 0 => true
  | lo, n + 1 => match mj_get lo n with
    | some (.long _) => false
    | some (.double _) => false
    | _ => true
def mj_bin : Nat → Int32 → Int32 → Option Int32
  | 0, x, y => some (x + y)
  | 1, x, y => some (x - y)
  | 2, x, y => some (x * y)
  | 3, x, y => if y = 0 then none else some (x / y)
  | 4, x, y => if y = 0 then none else some (x - x / y * y)
  | 5, x, y => some (x <<< (y &&& 31))
  | 6, x, y => some (x >>> (y &&& 31))
  | 7, x, y => some ((x.toUInt32 >>> (y.toUInt32 &&& Int32.toUInt32 31)).toInt32)
  | 8, x, y => some (x &&& y)
  | 9, x, y => some (x ||| y)
  | 10, x, y => some (x ^^^ y)
  | _, _, _ => none
def mj_un : Nat → Int32 → Option Int32
  | 0, x => some (-x)
  | 1, x => some (x.toInt8.toInt32)
  | 2, x => some ((x.toUInt32 % 65536).toInt32)
  | _, _ => none
def mj_lbin : Nat → Int64 → Int64 → Option Int64
  | 0, x, y => some (x + y)
  | 1, x, y => some (x - y)
  | 2, x, y => some (x * y)
  | 3, x, y => some (x ||| y)
  | _, _, _ => none
def mj_cc : Nat → Int32 → Int32 → Prop
  | 0, x, y => x = y
  | 1, x, y => ¬ x = y
  | 2, x, y => x < y
  | 3, x, y => y ≤ x
  | 4, x, y => y < x
  | 5, x, y => x ≤ y
  | _, _, _ => False
def mj_cs (st : List Value) : Nat := (st.map fun v => v.category).sum
def mj_none : Value → Bool
  | _ => true
/-- where a switch goes: cases and the other case -/
def mj_sw (cs : List (Int32 × Nat)) (d : Nat) (x : Int32) : Nat := match cs with
  | [] => d
  | q :: r => if x = q.1 then q.2 else mj_sw r d x
def mj_ret (G : List Value → mj_S → Prop) (Q : mj_Q) (rest : List Value) : mj_Q := fun r σ => match r with
  | .inl none => G rest σ
  | .inl (some v) => G (v :: rest) σ
  | .inr c => Q (.inr c) σ
def mj_retN (G : List Value → mj_S → Prop) (rest : List Value) : mj_Q := fun r σ => match r with
  | .inl none => G rest σ
  | .inl (some v) => G (v :: rest) σ
  | .inr _ => False
/-- a call whose throws are caught: where each goes on -/
def mj_retH (G : List Value → mj_S → Prop) (X : Nat → mj_S → Prop) (rest : List Value) : mj_Q := fun r σ => match r with
  | .inl none => G rest σ
  | .inl (some v) => G (v :: rest) σ
  | .inr c => X c σ
/-- one instruction -/
def mj_op (Φ : mj_F) (code : Nat → List mj_O) (Q : mj_Q) (G : mj_G) (op a b : Nat) : mj_G := fun is lo st σ bc bs => match op with
    | 0 => G is lo (.int (nI a) :: st) σ bc bs
    | 1 => G is lo (.int (-(nI a)) :: st) σ bc bs
    | 2 => G is lo (.long (lN a) :: st) σ bc bs
    | 3 => ∃ x, mj_get lo a = some (.int x) ∧ G is lo (.int x :: st) σ bc bs
    | 4 => ∃ x, mj_get lo a = some (.long x) ∧ G is lo (.long x :: st) σ bc bs
    | 5 => ∃ x, mj_get lo a = some (.ref x) ∧ G is lo (.ref x :: st) σ bc bs
    | 6 => ∃ x rest, st = .int x :: rest ∧ a < lo.length ∧ mj_nlo lo a = true ∧ G is (mj_set lo a (some (.int x))) rest σ bc bs
    | 7 => ∃ x rest, st = .long x :: rest ∧ a + 1 < lo.length ∧ mj_nlo lo a = true ∧ G is (mj_set (mj_set lo a (some (.long x))) (a + 1) none) rest σ bc bs
    | 8 => ∃ x rest, st = .ref x :: rest ∧ a < lo.length ∧ mj_nlo lo a = true ∧ G is (mj_set lo a (some (.ref x))) rest σ bc bs
    | 9 => ∃ x, mj_get lo a = some (.int x) ∧ mj_nlo lo a = true ∧ G is (mj_set lo a (some (.int (x + nI b)))) st σ bc bs
    | 10 => ∃ x, mj_get lo a = some (.int x) ∧ mj_nlo lo a = true ∧ G is (mj_set lo a (some (.int (x - nI b)))) st σ bc bs
    | 11 => ∃ x y r rest, st = .int y :: .int x :: rest ∧ mj_bin a x y = some r ∧ G is lo (.int r :: rest) σ bc bs
    | 12 => ∃ x r rest, st = .int x :: rest ∧ mj_un a x = some r ∧ G is lo (.int r :: rest) σ bc bs
    | 13 => ∃ x y r rest, st = .long y :: .long x :: rest ∧ mj_lbin a x y = some r ∧ G is lo (.long r :: rest) σ bc bs
    | 14 => ∃ x y rest, st = .int y :: .long x :: rest ∧ G is lo (.long (x <<< (y.toInt64 &&& 63)) :: rest) σ bc bs
    | 15 => ∃ x rest, st = .int x :: rest ∧ G is lo (.long x.toInt64 :: rest) σ bc bs
    | 16 => ∃ x rest, st = .long x :: rest ∧ G is lo (.int x.toInt32 :: rest) σ bc bs
    | 17 => ∃ x y rest, st = .long y :: .long x :: rest ∧ G is lo (.int (lg_cmp x y) :: rest) σ bc bs
    | 18 => ∃ v rest, st = v :: rest ∧ v.category = 1 ∧ G is lo (v :: v :: rest) σ bc bs
    | 19 => ∃ v rest, st = v :: rest ∧ v.category = 1 ∧ G is lo rest σ bc bs
    | 20 => ∃ v w rest, st = v :: w :: rest ∧ v.category = 1 ∧ w.category = 1 ∧ G is lo (v :: w :: v :: w :: rest) σ bc bs
    | 21 => ∃ x rest, st = .int x :: rest ∧ (mj_cc a x 0 → G (code b) lo rest σ bc bs) ∧ (¬ mj_cc a x 0 → G is lo rest σ bc bs)
    | 22 => ∃ x y rest, st = .int y :: .int x :: rest ∧ (mj_cc a x y → G (code b) lo rest σ bc bs) ∧ (¬ mj_cc a x y → G is lo rest σ bc bs)
    | 23 => G (code b) lo st σ bc bs
    | 24 => ∃ x rest, st = .int x :: rest ∧ G (code (mj_sw (mj_swt a) b x)) lo rest σ bc bs
    | 25 => st = [] ∧ Q (.inl none) σ
    | 26 => ∃ x, st = [.int x] ∧ Q (.inl (some (.int x))) σ
    | 27 => ∃ x, st = [.int x] ∧ (x = 0 ∨ x = 1) ∧ Q (.inl (some (.int x))) σ
    | 28 => ∃ x, st = [.long x] ∧ Q (.inl (some (.long x))) σ
    | 29 => ∃ x, st = [.ref x] ∧ Q (.inl (some (.ref x))) σ
    | 30 => 1 ≤ bc ∧ 6 ≤ bs ∧ mj_cs st ≤ 8 ∧ mj_shl.length ≤ σ.1 ∧ Q (.inr a) σ
    | 31 => ∃ k rest, st = .ref k :: rest ∧ mj_sh k = 10 + a ∧ k < σ.1 ∧ G is lo (.int (σ.2.1 k b) :: rest) σ bc bs
    | 32 => ∃ k rest, st = .ref k :: rest ∧ mj_sh k = 10 + a ∧ k < σ.1 ∧ G is lo (.long (σ.2.2.1 k b) :: rest) σ bc bs
    | 33 => ∃ k r rest, st = .ref k :: rest ∧ mj_sh k = 10 + a ∧ k < σ.1 ∧ σ.2.2.2 k b = some r ∧ G is lo (.ref r :: rest) σ bc bs
    | 34 => ∃ v k rest, st = .int v :: .ref k :: rest ∧ mj_sh k = 10 + a ∧ k < σ.1 ∧ G is lo rest (σ.1, mj_upI σ.2.1 k b v, σ.2.2) bc bs
    | 35 => ∃ v k rest, st = .int v :: .ref k :: rest ∧ mj_sh k = 10 + a ∧ k < σ.1 ∧ (v = 0 ∨ v = 1) ∧ G is lo rest (σ.1, mj_upI σ.2.1 k b v, σ.2.2) bc bs
    | 36 => ∃ v k rest, st = .long v :: .ref k :: rest ∧ mj_sh k = 10 + a ∧ k < σ.1 ∧ G is lo rest (σ.1, σ.2.1, mj_upL σ.2.2.1 k b v, σ.2.2.2) bc bs
    | 37 => ∃ v k rest, st = .ref v :: .ref k :: rest ∧ mj_sh k = 10 + a ∧ k < σ.1 ∧ G is lo rest (σ.1, σ.2.1, σ.2.2.1, mj_upP σ.2.2.2 k b (some v)) bc bs
    | 38 => ∃ i k rest, st = .int i :: .ref k :: rest ∧ mj_sh k = 1 ∧ k < σ.1 ∧ vp_in i (mj_ln k) ∧ G is lo (.int (σ.2.1 k i.toNatClampNeg) :: rest) σ bc bs
    | 39 => ∃ i k rest, st = .int i :: .ref k :: rest ∧ mj_sh k = 2 ∧ k < σ.1 ∧ vp_in i (mj_ln k) ∧ G is lo (.long (σ.2.2.1 k i.toNatClampNeg) :: rest) σ bc bs
    | 40 => ∃ i k rest, st = .int i :: .ref k :: rest ∧ mj_sh k = 3 ∧ k < σ.1 ∧ vp_in i (mj_ln k) ∧ G is lo (.int (σ.2.1 k i.toNatClampNeg) :: rest) σ bc bs
    | 41 => ∃ i k rest, st = .int i :: .ref k :: rest ∧ mj_sh k = 4 ∧ k < σ.1 ∧ vp_in i (mj_ln k) ∧ G is lo (.int (σ.2.1 k i.toNatClampNeg) :: rest) σ bc bs
    | 42 => ∃ v i k rest, st = .int v :: .int i :: .ref k :: rest ∧ mj_sh k = 1 ∧ k < σ.1 ∧ vp_in i (mj_ln k) ∧ G is lo rest (σ.1, mj_upI σ.2.1 k i.toNatClampNeg v, σ.2.2) bc bs
    | 43 => ∃ v i k rest, st = .long v :: .int i :: .ref k :: rest ∧ mj_sh k = 2 ∧ k < σ.1 ∧ vp_in i (mj_ln k) ∧ G is lo rest (σ.1, σ.2.1, mj_upL σ.2.2.1 k i.toNatClampNeg v, σ.2.2.2) bc bs
    | 44 => ∃ v i k rest, st = .int v :: .int i :: .ref k :: rest ∧ mj_sh k = 3 ∧ k < σ.1 ∧ vp_in i (mj_ln k) ∧ G is lo rest (σ.1, mj_upI σ.2.1 k i.toNatClampNeg (vp_nar .byte v), σ.2.2) bc bs
    | 45 => ∃ v i k rest, st = .int v :: .int i :: .ref k :: rest ∧ mj_sh k = 4 ∧ k < σ.1 ∧ vp_in i (mj_ln k) ∧ G is lo rest (σ.1, mj_upI σ.2.1 k i.toNatClampNeg (vp_nar .boolean v), σ.2.2) bc bs
    | 46 => ∃ k rest, st = .ref k :: rest ∧ 1 ≤ mj_sh k ∧ mj_sh k ≤ 4 ∧ k < σ.1 ∧ G is lo (.int (nI (mj_ln k)) :: rest) σ bc bs
    | 47 => ∃ k As rest, st = As.reverse ++ .ref k :: rest ∧ As.length = mj_mn a ∧ mj_sh k = 10 + mj_mo a ∧ k < σ.1 ∧ mj_cs rest ≤ 8 ∧ mj_mc a ≤ bc ∧ mj_ms a ≤ bs ∧ Φ a (.ref k :: As) σ (mj_ret (fun s2 σ2 => G is lo s2 σ2 (bc - mj_mc a) (bs - mj_ms a)) Q rest)
    | 48 => ∃ As rest, st = As.reverse ++ rest ∧ As.length = mj_mn a ∧ mj_cs rest ≤ 8 ∧ mj_mc a ≤ bc ∧ mj_ms a ≤ bs ∧ Φ a As σ (mj_ret (fun s2 σ2 => G is lo s2 σ2 (bc - mj_mc a) (bs - mj_ms a)) Q rest)
    | 49 => ∃ k As rest, st = As.reverse ++ .ref k :: rest ∧ As.length = mj_mn a ∧ mj_cs rest ≤ 8 ∧ mj_mc a ≤ bc ∧ mj_ms a ≤ bs ∧ Φ a (.ref k :: As) σ (mj_retN (fun s2 σ2 => G is lo s2 σ2 (bc - mj_mc a) (bs - mj_ms a)) rest)
    | 50 => ∃ As rest, st = As.reverse ++ rest ∧ As.length = mj_mn a ∧ mj_cs rest ≤ 8 ∧ mj_mc a ≤ bc ∧ mj_ms a ≤ bs ∧ Φ a As σ (mj_retN (fun s2 σ2 => G is lo s2 σ2 (bc - mj_mc a) (bs - mj_ms a)) rest)
    | 51 => ∃ k rest, st = .ref k :: rest ∧ mj_cs rest ≤ 8 ∧ G is lo rest σ bc bs
    | 52 => mj_sh σ.1 = 10 + a ∧ 1 ≤ bc ∧ mj_ln σ.1 ≤ bs ∧ G is lo (.ref σ.1 :: st) (σ.1 + 1, mj_seI σ.2.1 σ.1 (fun _ => 0), mj_seL σ.2.2.1 σ.1 (fun _ => 0), mj_seP σ.2.2.2 σ.1 (fun _ => none)) (bc - 1) (bs - mj_ln σ.1)
    | 53 => ∃ rest, st = .int (nI (mj_ln σ.1)) :: rest ∧ mj_sh σ.1 = a ∧ 1 ≤ bc ∧ mj_ln σ.1 ≤ bs ∧ G is lo (.ref σ.1 :: rest) (σ.1 + 1, mj_seI σ.2.1 σ.1 (fun _ => 0), mj_seL σ.2.2.1 σ.1 (fun _ => 0), mj_seP σ.2.2.2 σ.1 (fun _ => none)) (bc - 1) (bs - mj_ln σ.1)
    | 54 => ∃ n dp d sp s0 rest, st = .int n :: .int dp :: .ref d :: .int sp :: .ref s0 :: rest ∧ mj_sh d = 1 ∧ d < σ.1 ∧ mj_sh s0 = 1 ∧ s0 < σ.1 ∧ ¬ sp < 0 ∧ ¬ dp < 0 ∧ ¬ n < 0 ∧ sp.toNatClampNeg + n.toNatClampNeg ≤ mj_ln s0 ∧ dp.toNatClampNeg + n.toNatClampNeg ≤ mj_ln d ∧ mj_cs rest ≤ 8 ∧ G is lo rest (σ.1, mj_seI σ.2.1 d (va_cpy (σ.2.1 s0) (σ.2.1 d) sp.toNatClampNeg dp.toNatClampNeg n.toNatClampNeg), σ.2.2) bc bs
    | 55 => G is lo (.retAddr a :: st) σ bc bs
    | 56 => ∃ k rest, st = .retAddr k :: rest ∧ k < 2 ∧ G is lo (.retAddr (2 + k) :: rest) σ bc bs
    | 57 => ∃ k rest, st = .retAddr k :: rest ∧ k < 2 ∧ G is lo (.int 0 :: rest) σ bc bs
    | 58 => G is lo (.int 1 :: st) σ bc bs
    | 59 => G is lo (.retAddr 4 :: st) σ bc bs
    | 60 => ∃ k rest, st = .retAddr (2 + k) :: rest ∧ k < 2 ∧ G is lo (.int (nI (mj_txt k).length) :: rest) σ bc bs
    | 61 => ∃ i k rest, st = .int i :: .retAddr (2 + k) :: rest ∧ k < 2 ∧ vp_in i (mj_txt k).length ∧ G is lo (.int (nI ((mj_txt k).getD i.toNatClampNeg 0)) :: rest) σ bc bs
    | 62 => ∃ k As rest, st = As.reverse ++ .retAddr k :: rest ∧ k < 2 ∧ As.length = mj_mn a ∧ mj_cs rest ≤ 8 ∧ mj_mc a ≤ bc ∧ mj_ms a ≤ bs ∧ Φ a (.retAddr k :: As) σ (mj_retN (fun s2 σ2 => G is lo s2 σ2 (bc - mj_mc a) (bs - mj_ms a)) rest)
    | 63 => ∃ x, mj_get lo a = some (.retAddr x) ∧ G is lo (.retAddr x :: st) σ bc bs
    | 64 => ∃ x, st = [.int x] ∧ narrow .char (.int x) = .int x ∧ Q (.inl (some (.int x))) σ
    | 65 => ∃ x, st = [.int x] ∧ narrow .byte (.int x) = .int x ∧ Q (.inl (some (.int x))) σ
    | 66 => ∃ k As rest, st = As.reverse ++ .ref k :: rest ∧ As.length = mj_mn a ∧ mj_sh k = 10 + mj_mo a ∧ k < σ.1 ∧ mj_cs rest ≤ 8 ∧ mj_mc a ≤ bc ∧ mj_ms a ≤ bs ∧ Φ a (.ref k :: As) σ (mj_retH (fun s2 σ2 => G is lo s2 σ2 (bc - mj_mc a) (bs - mj_ms a)) (fun e σ2 => ∃ q ∈ mj_ht b, q.1 = e ∧ q.2.2 < lo.length ∧ mj_nlo lo q.2.2 = true ∧ G (code q.2.1) (mj_set lo q.2.2 none) [] σ2 (bc - mj_mc a) (bs - mj_ms a)) rest)
    | 67 => ∃ i rest, st = .int i :: .retAddr 5 :: rest ∧ Φ 1000 [.int i] σ (mj_retN (fun s2 σ2 => G is lo s2 σ2 bc bs) rest)
    | 68 => ∃ rest, st = .retAddr 5 :: rest ∧ Φ 1001 [] σ (mj_retN (fun s2 σ2 => G is lo s2 σ2 bc bs) rest)
    | 69 => ∃ As rest, st = As.reverse ++ rest ∧ As.length = mj_mn a ∧ mj_cs rest ≤ 8 ∧ mj_mc a ≤ bc ∧ mj_ms a ≤ bs ∧ Φ a As σ (mj_retN (fun s2 σ2 => G is lo s2 σ2 (bc - mj_mc a) (bs - mj_ms a)) rest)
    | 70 => ∃ x y rest, st = .int y :: .int x :: rest ∧ mj_cs rest ≤ 8 ∧ G is lo (.int (if x < y then y else x) :: rest) σ bc bs
    | 71 => ∃ x y rest, st = .int y :: .int x :: rest ∧ mj_cs rest ≤ 8 ∧ G is lo (.int (if y < x then y else x) :: rest) σ bc bs
    | 72 => ∃ x rest, st = .int x :: rest ∧ mj_cs rest ≤ 8 ∧ G is lo (.int (if 0 ≤ x then x else 0 - x) :: rest) σ bc bs
    | 73 => ∃ x y rest, st = .long y :: .long x :: rest ∧ mj_cs rest ≤ 8 ∧ G is lo (.long (if y < x then x else y) :: rest) σ bc bs
    | _ => False
def mj_one (Φ : mj_F) (code : Nat → List mj_O) (Q : mj_Q) (G : mj_G) : mj_G := fun cs lo st σ bc bs => match cs with
  | [] => False
  | o :: is => mj_op Φ code Q G o.2.1 o.2.2.1 o.2.2.2.1 is lo st σ bc bs
def mj_cl (Φ : mj_F) (code : Nat → List mj_O) (Q : mj_Q) (G : mj_G) : Prop := ∀ cs lo st σ bc bs, mj_one Φ code Q G cs lo st σ bc bs → G cs lo st σ bc bs
/-- the run from here comes to an end as Q says -/
def mj_run (Φ : mj_F) (code : Nat → List mj_O) (Q : mj_Q) : mj_G := fun cs lo st σ bc bs => ∀ G : mj_G, mj_cl Φ code Q G → G cs lo st σ bc bs
/-- a call: d callees deep at the most -/
def mj_ev : Nat → mj_F
  | 0 => fun _ _ _ _ => False
  | d + 1 => fun m as σ Q => Nat.ble (mj_ar as).length (mj_ml m) = true ∧ mj_run (mj_ev d) (mj_code m) Q (mj_code m 0) (mj_in (mj_ml m) as) [] σ (mj_mc m) (mj_ms m)
