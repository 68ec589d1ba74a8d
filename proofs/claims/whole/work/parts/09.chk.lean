/-! a method's list against its bytes: what is looked at once, by the kernel -/
def mj_dk (B : ByteArray) (pc : Nat) (i : Instr) (n : Nat) : Bool := match decode B pc with
  | .ok (j, l) => decide (j = i) && (l == n)
  | _ => false
theorem mj_dk_ok {B : ByteArray} {pc : Nat} {i : Instr} {n : Nat} (h : mj_dk B pc i n = true) : decode B pc = .ok (i, n) := by
  unfold mj_dk at h
  split at h
  · rename_i j l e
    simp only [Bool.and_eq_true, decide_eq_true_eq, beq_iff_eq] at h
    rw [e, h.1, h.2]
  · cases h
def mj_pc : List mj_O → Nat
  | [] => 0
  | q :: _ => q.1
def mj_nx (pc n : Nat) (is : List mj_O) : Bool := (mj_pc is == pc + n) && !is.isEmpty
theorem mj_nx_ok {pc n : Nat} {is : List mj_O} (h : mj_nx pc n is = true) : mj_pc is = pc + n := by
  simp only [mj_nx, Bool.and_eq_true, beq_iff_eq] at h
  exact h.1
/-- the instruction at pc is i of n bytes, and the list goes on behind it -/
def mj_df (B : ByteArray) (pc : Nat) (is : List mj_O) (i : Instr) (n : Nat) : Bool := mj_dk B pc i n && mj_nx pc n is
theorem mj_df_ok {B : ByteArray} {pc : Nat} {is : List mj_O} {i : Instr} {n : Nat} (h : mj_df B pc is i n = true) : decode B pc = .ok (i, n) ∧ mj_pc is = pc + n := by
  simp only [mj_df, Bool.and_eq_true] at h
  exact ⟨mj_dk_ok h.1, mj_nx_ok h.2⟩
def mj_d4 (B : ByteArray) (pc : Nat) (is : List mj_O) (f : Nat → Instr) (g : Fin 4 → Instr) (a : Nat) : Bool := mj_df B pc is (f a) 2 || (a == 0 && mj_df B pc is (g 0) 1) || (a == 1 && mj_df B pc is (g 1) 1) || (a == 2 && mj_df B pc is (g 2) 1) || (a == 3 && mj_df B pc is (g 3) 1)
theorem mj_d4_ok {B : ByteArray} {pc : Nat} {is : List mj_O} {f : Nat → Instr} {g : Fin 4 → Instr} {a : Nat} (h : mj_d4 B pc is f g a = true) : (decode B pc = .ok (f a, 2) ∧ mj_pc is = pc + 2) ∨ ∃ k : Fin 4, (k : Nat) = a ∧ decode B pc = .ok (g k, 1) ∧ mj_pc is = pc + 1 := by
  simp only [mj_d4, Bool.or_eq_true, Bool.and_eq_true, beq_iff_eq] at h
  rcases h with (((h | ⟨e, h⟩) | ⟨e, h⟩) | ⟨e, h⟩) | ⟨e, h⟩
  · exact Or.inl (mj_df_ok h)
  · exact Or.inr ⟨0, e.symm, mj_df_ok h⟩
  · exact Or.inr ⟨1, e.symm, mj_df_ok h⟩
  · exact Or.inr ⟨2, e.symm, mj_df_ok h⟩
  · exact Or.inr ⟨3, e.symm, mj_df_ok h⟩
def mj_binI : Nat → Instr
  | 0 => .iadd
  | 1 => .isub
  | 2 => .imul
  | 3 => .idiv
  | 4 => .irem
  | 5 => .ishl
  | 6 => .ishr
  | 7 => .iushr
  | 8 => .iand
  | 9 => .ior
  | 10 => .ixor
  | _ => .nop
def mj_unI : Nat → Instr
  | 0 => .ineg
  | 1 => .i2b
  | 2 => .i2c
  | _ => .nop
def mj_lbinI : Nat → Instr
  | 0 => .ladd
  | 1 => .lsub
  | 2 => .lmul
  | 3 => .lor
  | _ => .nop
def mj_ccI : Nat → ClassFile.Cond
  | 0 => .eq
  | 1 => .ne
  | 2 => .lt
  | 3 => .ge
  | 4 => .gt
  | _ => .le
/-- the suffix of the list from the label t on -/
def mj_jm (t : Nat) : List mj_O → List mj_O
  | [] => []
  | q :: r => if q.1 = t then q :: r else mj_jm t r
theorem mj_jm_suf {t : Nat} : ∀ (l : List mj_O), ∃ pre, l = pre ++ mj_jm t l
  | [] => ⟨[], rfl⟩
  | q :: r => by
    unfold mj_jm
    split
    · exact ⟨[], rfl⟩
    · obtain ⟨pre, h⟩ := mj_jm_suf (t := t) r
      exact ⟨q :: pre, by rw [List.cons_append, ← h]⟩
def mj_tg (mm t : Nat) : Bool := decide (mj_jm t (mj_code mm 0) = mj_code mm t) && (mj_pc (mj_code mm t) == t) && !(mj_code mm t).isEmpty
theorem mj_tg_ok {mm t : Nat} (h : mj_tg mm t = true) : (∃ pre, mj_code mm 0 = pre ++ mj_code mm t) ∧ mj_pc (mj_code mm t) = t := by
  simp only [mj_tg, Bool.and_eq_true, decide_eq_true_eq, beq_iff_eq] at h
  obtain ⟨pre, h2⟩ := mj_jm_suf (t := t) (mj_code mm 0)
  rw [h.1.1] at h2
  exact ⟨⟨pre, h2⟩, h.1.2⟩
def mj_swk (pc : Nat) (d : Nat) (cs : List (Int32 × Nat)) : Instr := match cs with
  | [] => .nop
  | q :: r => .tableswitch ((d : Int) - pc) q.1.toInt (q.1.toInt + r.length) ((cs.map (fun z => (z.2 : Int) - pc)).toArray)
def mj_swl (pc : Nat) (d : Nat) (cs : List (Int32 × Nat)) : Instr := .lookupswitch ((d : Int) - pc) ((cs.map (fun z => (z.1.toInt, (z.2 : Int) - pc))).toArray)
/-- the cases of a table go up by one; those of a lookup go up -/
def mj_swu : List (Int32 × Nat) → Bool
  | [] => true
  | [_] => true
  | q :: z :: r => decide (z.1.toInt = q.1.toInt + 1) && mj_swu (z :: r)
def mj_atI : Nat → ArrayType
  | 1 => .int
  | 2 => .long
  | 3 => .byte
  | _ => .boolean
def mj_dx (B : ByteArray) (pc : Nat) (i : Instr) : Bool := match decode B pc with
  | .ok (j, _) => decide (j = i)
  | _ => false
theorem mj_dx_ok {B : ByteArray} {pc : Nat} {i : Instr} (h : mj_dx B pc i = true) : ∃ n, decode B pc = .ok (i, n) := by
  unfold mj_dx at h
  split at h
  · rename_i j l e
    exact ⟨l, by rw [e, decide_eq_true_eq.mp h]⟩
  · cases h
def mj_isO : Option FieldType → Bool
  | some (.object _) => true
  | _ => false
/-- the pool entries of both exceptions' constructors -/
def mj_ic : Nat → Nat
  | 0 => 174
  | _ => 126
def mj_sws : List (Int32 × Nat) → Bool
  | [] => true
  | [_] => true
  | q :: z :: r => decide (q.1.toInt < z.1.toInt) && mj_sws (z :: r)
/-- a row of the exception table against what is caught -/
def mj_hz (mm pc : Nat) (q : Nat × Nat × Nat) (z : Nat × Nat × Nat × Nat) : Bool := decide (z.1 ≤ pc) && decide (pc < z.2.1) && decide (z.2.2.2 ≠ 0) && decide (q.1 < 2) && mj_pH.contains (mj_mo mm, q.1, z.2.2.2) && mj_tg mm q.2.1 &&
  ((mj_dk (mj_mb mm) z.2.2.1 (.astore q.2.2) 2 && (q.2.1 == z.2.2.1 + 2)) || (q.2.2 == 3 && mj_dk (mj_mb mm) z.2.2.1 (.astore_n 3) 1 && (q.2.1 == z.2.2.1 + 1)))
def mj_hk (mm pc : Nat) : List (Nat × Nat × Nat) → List (Nat × Nat × Nat × Nat) → Bool
  | [], [] => true
  | q :: r, z :: t => mj_hz mm pc q z && r.all (fun y => decide (y.1 ≠ q.1)) && mj_hk mm pc r t
  | _, _ => false
def mj_ckop (mm pc op a b x : Nat) (is : List mj_O) : Bool :=
  let B := mj_mb mm
  let ow := mj_mo mm
  match op with
  | 0 => (x == 0 && ((decide (Int32.ofInt a = nI a) && mj_df B pc is (.iconst a) 1) || (decide ((Int8.ofInt a).toInt32 = nI a) && mj_df B pc is (.bipush a) 2) || (decide ((Int16.ofInt a).toInt32 = nI a) && mj_df B pc is (.sipush a) 3))) || (mj_pI.contains (ow, a, 0, x) && (mj_df B pc is (.ldc x) 2 || mj_df B pc is (.ldc_w x) 3))
  | 1 => (x == 0 && ((decide (Int32.ofInt (-(a : Int)) = -(nI a)) && mj_df B pc is (.iconst (-(a : Int))) 1) || (decide ((Int8.ofInt (-(a : Int))).toInt32 = -(nI a)) && mj_df B pc is (.bipush (-(a : Int))) 2) || (decide ((Int16.ofInt (-(a : Int))).toInt32 = -(nI a)) && mj_df B pc is (.sipush (-(a : Int))) 3))) || (mj_pI.contains (ow, a, 1, x) && (mj_df B pc is (.ldc x) 2 || mj_df B pc is (.ldc_w x) 3))
  | 2 => (x == 0 && a == 0 && mj_df B pc is (.lconst 0) 1) || (x == 0 && a == 1 && mj_df B pc is (.lconst 1) 1) || (mj_pJ.contains (ow, a, x) && mj_df B pc is (.ldc2_w x) 3)
  | 3 => mj_d4 B pc is .iload .iload_n a
  | 4 => mj_d4 B pc is .lload .lload_n a
  | 5 => mj_d4 B pc is .aload .aload_n a
  | 6 => mj_d4 B pc is .istore .istore_n a
  | 7 => mj_d4 B pc is .lstore .lstore_n a
  | 8 => mj_d4 B pc is .astore .astore_n a
  | 9 => decide (Int32.ofInt b = nI b) && mj_df B pc is (.iinc a b) 3
  | 10 => decide (Int32.ofInt (-(b : Int)) = -(nI b)) && mj_df B pc is (.iinc a (-(b : Int))) 3
  | 11 => decide (a ≤ 10) && mj_df B pc is (mj_binI a) 1
  | 12 => decide (a ≤ 2) && mj_df B pc is (mj_unI a) 1
  | 13 => decide (a ≤ 3) && mj_df B pc is (mj_lbinI a) 1
  | 14 => mj_df B pc is .lshl 1
  | 15 => mj_df B pc is .i2l 1
  | 16 => mj_df B pc is .l2i 1
  | 17 => mj_df B pc is .lcmp 1
  | 18 => mj_df B pc is .dup 1
  | 19 => mj_df B pc is .pop 1
  | 20 => mj_df B pc is .dup2 1
  | 21 => decide (a ≤ 5) && mj_df B pc is (.ifCond (mj_ccI a) ((b : Int) - pc)) 3 && mj_tg mm b
  | 22 => decide (a ≤ 5) && mj_df B pc is (.if_icmp (mj_ccI a) ((b : Int) - pc)) 3 && mj_tg mm b
  | 23 => mj_dk B pc (.goto ((b : Int) - pc)) 3 && mj_tg mm b
  | 24 => mj_tg mm b && (mj_swt a).all (fun q => mj_tg mm q.2) && ((mj_dx B pc (mj_swk pc b (mj_swt a)) && mj_swu (mj_swt a) && !(mj_swt a).isEmpty) || (mj_dx B pc (mj_swl pc b (mj_swt a)) && mj_sws (mj_swt a)))
  | 25 => mj_dk B pc .return_ 1 && decide (mj_mr mm = none)
  | 26 => mj_dk B pc .ireturn 1 && decide (mj_mr mm = some .int)
  | 27 => mj_dk B pc .ireturn 1 && decide (mj_mr mm = some .boolean)
  | 28 => mj_dk B pc .lreturn 1 && decide (mj_mr mm = some .long)
  | 29 => mj_dk B pc .areturn 1 && mj_isO (mj_mr mm)
  | 30 => mj_pT.contains (ow, a, b, x) && mj_dk B pc (.new x) 3 && mj_dk B (pc + 3) .dup 1 && ((mj_dk B (pc + 4) (.ldc b) 2 && mj_dk B (pc + 6) (.invokespecial (mj_ic a)) 3 && mj_dk B (pc + 9) .athrow 1) || (mj_dk B (pc + 4) (.ldc_w b) 3 && mj_dk B (pc + 7) (.invokespecial (mj_ic a)) 3 && mj_dk B (pc + 10) .athrow 1)) && (mj_hh mm).isEmpty
  | 31 => mj_pF.contains (ow, a, b, x) && mj_df B pc is (.getfield x) 3 && decide (mj_ft a b < 2)
  | 32 => mj_pF.contains (ow, a, b, x) && mj_df B pc is (.getfield x) 3 && decide (mj_ft a b = 2)
  | 33 => mj_pF.contains (ow, a, b, x) && mj_df B pc is (.getfield x) 3 && decide (mj_ft a b = 3)
  | 34 => mj_pF.contains (ow, a, b, x) && mj_df B pc is (.putfield x) 3 && decide (mj_ft a b = 0) && mj_fin mm a b
  | 35 => mj_pF.contains (ow, a, b, x) && mj_df B pc is (.putfield x) 3 && decide (mj_ft a b = 1) && mj_fin mm a b
  | 36 => mj_pF.contains (ow, a, b, x) && mj_df B pc is (.putfield x) 3 && decide (mj_ft a b = 2) && mj_fin mm a b
  | 37 => mj_pF.contains (ow, a, b, x) && mj_df B pc is (.putfield x) 3 && decide (mj_ft a b = 3) && mj_fin mm a b
  | 38 => mj_df B pc is .iaload 1
  | 39 => mj_df B pc is .laload 1
  | 40 => mj_df B pc is .baload 1
  | 41 => mj_df B pc is .baload 1
  | 42 => mj_df B pc is .iastore 1
  | 43 => mj_df B pc is .lastore 1
  | 44 => mj_df B pc is .bastore 1
  | 45 => mj_df B pc is .bastore 1
  | 46 => mj_df B pc is .arraylength 1
  | 47 => mj_pM.contains (ow, a, x) && mj_df B pc is (.invokevirtual x) 3 && mj_kd.contains (0, a) && (mj_hh mm).isEmpty
  | 48 => mj_pM.contains (ow, a, x) && mj_df B pc is (.invokestatic x) 3 && mj_kd.contains (1, a) && (mj_hh mm).isEmpty
  | 49 => mj_pM.contains (ow, a, x) && mj_df B pc is (.invokespecial x) 3 && mj_kd.contains (2, a)
  | 50 => mj_pN.contains (ow, a, x) && mj_df B pc is (.invokestatic x) 3 && mj_kd.contains (1, a)
  | 51 => mj_pO.contains (ow, x) && mj_df B pc is (.invokespecial x) 3
  | 52 => mj_pC.contains (ow, a, x) && mj_df B pc is (.new x) 3
  | 53 => decide (1 ≤ a) && decide (a ≤ 4) && mj_df B pc is (.newarray (mj_atI a)) 2
  | 54 => mj_pA.contains (ow, x) && mj_df B pc is (.invokestatic x) 3
  | 55 => mj_pS.contains (ow, a, x) && mj_df B pc is (.ldc x) 2 && decide (a < 2)
  | 56 => mj_pV.contains (ow, 0, x) && mj_df B pc is (.getfield x) 3
  | 57 => mj_pV.contains (ow, 1, x) && mj_df B pc is (.getfield x) 3
  | 58 => mj_pV.contains (ow, 2, x) && mj_df B pc is (.getstatic x) 3
  | 59 => mj_pV.contains (ow, 3, x) && mj_df B pc is (.getstatic x) 3
  | 60 => mj_df B pc is .arraylength 1
  | 61 => mj_df B pc is .baload 1
  | 62 => mj_pM.contains (ow, a, x) && mj_df B pc is (.invokevirtual x) 3 && mj_kd.contains (3, a)
  | 63 => mj_d4 B pc is .aload .aload_n a
  | 64 => mj_dk B pc .ireturn 1 && decide (mj_mr mm = some .char)
  | 65 => mj_dk B pc .ireturn 1 && decide (mj_mr mm = some .byte)
  | 66 => mj_pM.contains (ow, a, x) && mj_df B pc is (.invokevirtual x) 3 && mj_kd.contains (0, a) && mj_hk mm pc (mj_ht b) (mj_hh mm)
  | 67 => mj_df B pc is .iaload 1
  | 68 => mj_df B pc is .arraylength 1
  | 69 => mj_pM.contains (ow, a, x) && mj_df B pc is (.invokestatic x) 3 && mj_kd.contains (4, a)
  | 70 => mj_pX.contains (ow, 0, x) && mj_df B pc is (.invokestatic x) 3
  | 71 => mj_pX.contains (ow, 1, x) && mj_df B pc is (.invokestatic x) 3
  | 72 => mj_pX.contains (ow, 2, x) && mj_df B pc is (.invokestatic x) 3
  | 73 => mj_pX.contains (ow, 3, x) && mj_df B pc is (.invokestatic x) 3
  | 99 => true
  | _ => false
