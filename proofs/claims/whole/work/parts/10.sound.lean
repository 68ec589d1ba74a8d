/-! the small machine's runs are the machine's: a row an instruction -/
def mj_T (a : Nat) : u_T := (vwCl.getD a ("", (fun _ => ("", "", "", false)), 0)).2.1
/-- what the tables say of the names and numbers that the lists use -/
def mj_fcF : Prop := ∀ q ∈ mj_pF, Cond.fieldLink (mj_cn q.1) q.2.2.2 (mj_T q.2.1 q.2.2.1).1 (mj_T q.2.1 q.2.2.1).2.1 (mj_T q.2.1 q.2.2.1).2.2.1 ∈ mj_mw ∧ q.2.2.1 < (vwCl.getD q.2.1 ("", (fun _ => ("", "", "", false)), 0)).2.2
def mj_fcK : Prop := ∀ a C T N, vwCl[a]? = some (C, T, N) → (∀ w ∈ u_ws C T N, w ∈ mj_mw) ∧ mj_cn a = C ∧ Cond.instantiable C N ∈ mj_mw ∧ Cond.initialized C ∈ mj_mw ∧ (∀ x, x < N → ∀ y, y < N → x ≠ y → (T x).2.1 ≠ (T y).2.1) ∧ ∃ ty : Nat → FieldType, ∀ k, k < N → parseFieldDescriptor (T k).2.2.1 = some (ty k) ∧ (mj_ft a k = 0 → ty k = .int) ∧ (mj_ft a k = 1 → ty k = .boolean) ∧ (mj_ft a k = 2 → ty k = .long) ∧ (mj_ft a k = 3 → (∃ n, ty k = .object n) ∨ ∃ t, ty k = .array t) ∧ mj_ft a k ≤ 3 ∧ ((T k).1 = C)
def mj_fcS : Prop := ∀ k a, mj_sh k = 10 + a → ∃ C T, vwCl[a]? = some (C, T, mj_ln k)
def mj_fcI : Prop := ∀ q ∈ mj_pI, Cond.constant (mj_cn q.1) q.2.2.2 (if q.2.2.1 = 0 then nI q.2.1 else -(nI q.2.1)) ∈ mj_mw
def mj_fcJ : Prop := ∀ q ∈ mj_pJ, Cond.constantLong (mj_cn q.1) q.2.2 (lN q.2.1) ∈ mj_mw
def mj_fcO : Prop := (∀ q ∈ mj_pO, Cond.methodLink (mj_cn q.1) q.2 Lib.objectInit ∈ mj_mw) ∧ Cond.instanceMethod Lib.objectInit ∈ mj_mw ∧ Cond.code Lib.objectInit ⟨#[0xb1]⟩ 1 none ∈ mj_mw
def mj_fcA : Prop := (∀ q ∈ mj_pA, Cond.methodLink (mj_cn q.1) q.2 arraycopyName ∈ mj_mw) ∧ Cond.native arraycopyName ∈ mj_mw ∧ Cond.static arraycopyName ∈ mj_mw ∧ Cond.initialized "java/lang/System" ∈ mj_mw
def mj_fcC : Prop := ∀ q ∈ mj_pC, Cond.classLink (mj_cn q.1) q.2.2 (mj_cn q.2.1) ∈ mj_mw
def mj_fcR : Prop := Cond.arrayClass .int ∈ mj_mw ∧ Cond.arrayClass .long ∈ mj_mw ∧ Cond.arrayClass .byte ∈ mj_mw ∧ Cond.arrayClass .boolean ∈ mj_mw
section S
variable {p : Program} {l : Launch} {e : Env} {R : Room} {s : State} {m : MethodId} {args : Array Value} {below : List Frame} {meth : Method} {c : Code} {H : Heap} {locs : List Loc} {cells slots : Nat} {Qf : State → Prop}
variable {D : va_G} {ca : Nat → ClassId} {base : Nat} {ext : Nat → Nat} {mm : Nat}
/-- a walk of the method mm: the machine, the code, the tables -/
def mj_Cx (p : Program) (s : State) (m : MethodId) (args : Array Value) (meth : Method) (c : Code) (D : va_G) (ca : Nat → ClassId) (base mm : Nat) : Prop :=
  p.tables.exec = Jvm.exec ∧ c.code = mj_mb mm ∧ c.maxLocals = mj_ml mm ∧ s.vm.findClass (mj_cn (mj_mo mm)) = some m.cls ∧ (∀ w ∈ mj_mw, w.before args s = true) ∧ va_K D vwCl (mj_tys ca) s ∧ meth.sig.returnType = mj_mr mm ∧ meth.locks = false ∧ meth.name = (mj_my mm).name ∧ base ≤ s.heap.size ∧ c.exceptionTable.toList = tableOf (mj_hh mm)
/-- the walk's goal at a place of the list -/
def mj_WG (p : Program) (l : Launch) (e : Env) (R : Room) (s : State) (m : MethodId) (args : Array Value) (below : List Frame) (meth : Method) (c : Code) (Qf : State → Prop) (D : va_G) (ca : Nat → ClassId) (base : Nat) (ext : Nat → Nat) (mm : Nat) : mj_G := fun cs lo st σ bc bs =>
  (∃ pre, mj_code mm 0 = pre ++ cs) → ∀ (H : Heap) (locs : List Loc) (cells slots : Nat) (ls : Array Slot), mj_LR (mj_cv base ext) lo ls (mj_ml mm) → mj_H D ca base σ H → va_S (mj_A base) s.heap H locs → cells + bc ≤ R.cells → slots + bs ≤ R.slots →
    W p l e R s m args below meth c H locs cells slots Qf (F0 m (mj_pc cs) ls (st.map (mj_cv base ext)))
variable {is : List mj_O} {lo : mj_Lo} {st rest : List Value} {σ : mj_S} {bc bs pc a b x : Nat} {ls : Array Slot}
theorem mj_s0 (C : mj_Cx p s m args meth c D ca base mm) (f : mj_fcI) (k : mj_ckop mm pc 0 a b x is = true) (h : W p l e R s m args below meth c H locs cells slots Qf (F0 m (mj_pc is) ls (.int (nI a) :: rest))) : W p l e R s m args below meth c H locs cells slots Qf (F0 m pc ls rest) := by
  obtain ⟨hx, hb, hml, hown, hts, -⟩ := C
  simp only [mj_ckop, Bool.or_eq_true, Bool.and_eq_true, beq_iff_eq, decide_eq_true_eq, List.contains_iff_mem] at k
  rcases k with ⟨-, (⟨e1, k⟩ | ⟨e1, k⟩) | ⟨e1, k⟩⟩ | ⟨hm, k | k⟩
  all_goals obtain ⟨k1, k2⟩ := mj_df_ok k
  all_goals rw [k2] at h
  · exact lv_iconst hx hb k1 e1 h
  · exact lv_bipush hx hb k1 e1 h
  · exact lv_sipush hx hb k1 e1 h
  · exact lv_ldc hx hb hown (hts _ (f _ hm)) k1 h
  · exact lv_ldcw hx hb hown (hts _ (f _ hm)) k1 h
theorem mj_s1 (C : mj_Cx p s m args meth c D ca base mm) (f : mj_fcI) (k : mj_ckop mm pc 1 a b x is = true) (h : W p l e R s m args below meth c H locs cells slots Qf (F0 m (mj_pc is) ls (.int (-(nI a)) :: rest))) : W p l e R s m args below meth c H locs cells slots Qf (F0 m pc ls rest) := by
  obtain ⟨hx, hb, hml, hown, hts, -⟩ := C
  simp only [mj_ckop, Bool.or_eq_true, Bool.and_eq_true, beq_iff_eq, decide_eq_true_eq, List.contains_iff_mem] at k
  rcases k with ⟨-, (⟨e1, k⟩ | ⟨e1, k⟩) | ⟨e1, k⟩⟩ | ⟨hm, k | k⟩
  all_goals obtain ⟨k1, k2⟩ := mj_df_ok k
  all_goals rw [k2] at h
  · exact lv_iconst hx hb k1 e1 h
  · exact lv_bipush hx hb k1 e1 h
  · exact lv_sipush hx hb k1 e1 h
  · exact lv_ldc hx hb hown (hts _ (f _ hm)) k1 h
  · exact lv_ldcw hx hb hown (hts _ (f _ hm)) k1 h
theorem mj_s2 (C : mj_Cx p s m args meth c D ca base mm) (f : mj_fcJ) (k : mj_ckop mm pc 2 a b x is = true) (h : W p l e R s m args below meth c H locs cells slots Qf (F0 m (mj_pc is) ls (.long (lN a) :: rest))) : W p l e R s m args below meth c H locs cells slots Qf (F0 m pc ls rest) := by
  obtain ⟨hx, hb, hml, hown, hts, -⟩ := C
  simp only [mj_ckop, Bool.or_eq_true, Bool.and_eq_true, beq_iff_eq, decide_eq_true_eq, List.contains_iff_mem] at k
  rcases k with (⟨⟨-, rfl⟩, k⟩ | ⟨⟨-, rfl⟩, k⟩) | ⟨hm, k⟩
  all_goals obtain ⟨k1, k2⟩ := mj_df_ok k
  all_goals rw [k2] at h
  · exact lv_lconst hx hb k1 rfl h
  · exact lv_lconst hx hb k1 rfl h
  · exact lv_ldc2 hx hb hown (hts _ (f _ hm)) k1 h
theorem mj_s3 (C : mj_Cx p s m args meth c D ca base mm) (hl : mj_LR (mj_cv base ext) lo ls (mj_ml mm)) (k : mj_ckop mm pc 3 a b x is = true) {v : Int32} (hg : mj_get lo a = some (.int v)) (h : W p l e R s m args below meth c H locs cells slots Qf (F0 m (mj_pc is) ls (.int v :: rest))) : W p l e R s m args below meth c H locs cells slots Qf (F0 m pc ls rest) := by
  obtain ⟨hx, hb, -⟩ := C
  rcases mj_d4_ok k with ⟨k1, k2⟩ | ⟨i, e1, k1, k2⟩
  all_goals rw [k2] at h
  · exact lv_iload hx hb k1 (hl.at hg) h
  · exact lv_iload_n hx hb k1 e1 (hl.at hg) h
theorem mj_s4 (C : mj_Cx p s m args meth c D ca base mm) (hl : mj_LR (mj_cv base ext) lo ls (mj_ml mm)) (k : mj_ckop mm pc 4 a b x is = true) {v : Int64} (hg : mj_get lo a = some (.long v)) (h : W p l e R s m args below meth c H locs cells slots Qf (F0 m (mj_pc is) ls (.long v :: rest))) : W p l e R s m args below meth c H locs cells slots Qf (F0 m pc ls rest) := by
  obtain ⟨hx, hb, -⟩ := C
  rcases mj_d4_ok k with ⟨k1, k2⟩ | ⟨i, e1, k1, k2⟩
  all_goals rw [k2] at h
  · exact lv_lload hx hb k1 (hl.at hg) h
  · exact lv_lload_n hx hb k1 e1 (hl.at hg) h
theorem mj_s5 (C : mj_Cx p s m args meth c D ca base mm) (hl : mj_LR (mj_cv base ext) lo ls (mj_ml mm)) (k : mj_ckop mm pc 5 a b x is = true) {v : Nat} (hg : mj_get lo a = some (.ref v)) (h : W p l e R s m args below meth c H locs cells slots Qf (F0 m (mj_pc is) ls (.ref (base + v) :: rest))) : W p l e R s m args below meth c H locs cells slots Qf (F0 m pc ls rest) := by
  obtain ⟨hx, hb, -⟩ := C
  rcases mj_d4_ok k with ⟨k1, k2⟩ | ⟨i, e1, k1, k2⟩
  all_goals rw [k2] at h
  · exact lv_aload hx hb k1 (hl.at hg) h
  · exact lv_aload_n hx hb k1 e1 (hl.at hg) h
theorem mj_s6 (C : mj_Cx p s m args meth c D ca base mm) (hl : mj_LR (mj_cv base ext) lo ls (mj_ml mm)) (k : mj_ckop mm pc 6 a b x is = true) {v : Int32} (ha : a < lo.length) (hn : mj_nlo lo a = true) (h : ∀ ls', mj_LR (mj_cv base ext) (mj_set lo a (some (.int v))) ls' (mj_ml mm) → W p l e R s m args below meth c H locs cells slots Qf (F0 m (mj_pc is) ls' rest)) : W p l e R s m args below meth c H locs cells slots Qf (F0 m pc ls (.int v :: rest)) := by
  obtain ⟨hx, hb, -⟩ := C
  rcases mj_d4_ok k with ⟨k1, k2⟩ | ⟨i, e1, k1, k2⟩
  all_goals rw [k2] at h
  · exact lv_istore hx hb k1 hl.2 (by rw [← hl.1]; exact ha) rfl (fun ls' h2 => h ls' (hl.st1 (v := .int v) hn h2))
  · exact lv_istore_n hx hb k1 e1 hl.2 (by rw [← hl.1]; exact ha) rfl (fun ls' h2 => h ls' (hl.st1 (v := .int v) hn h2))
theorem mj_s7 (C : mj_Cx p s m args meth c D ca base mm) (hl : mj_LR (mj_cv base ext) lo ls (mj_ml mm)) (k : mj_ckop mm pc 7 a b x is = true) {v : Int64} (ha : a + 1 < lo.length) (hn : mj_nlo lo a = true) (h : ∀ ls', mj_LR (mj_cv base ext) (mj_set (mj_set lo a (some (.long v))) (a + 1) none) ls' (mj_ml mm) → W p l e R s m args below meth c H locs cells slots Qf (F0 m (mj_pc is) ls' rest)) : W p l e R s m args below meth c H locs cells slots Qf (F0 m pc ls (.long v :: rest)) := by
  obtain ⟨hx, hb, -⟩ := C
  rcases mj_d4_ok k with ⟨k1, k2⟩ | ⟨i, e1, k1, k2⟩
  all_goals rw [k2] at h
  · exact lv_lstore hx hb k1 hl.2 (by rw [← hl.1]; exact ha) rfl (fun ls' h2 => h ls' (hl.st2 (v := .long v) hn h2))
  · exact lv_lstore_n hx hb k1 e1 hl.2 (by rw [← hl.1]; exact ha) rfl (fun ls' h2 => h ls' (hl.st2 (v := .long v) hn h2))
theorem mj_s8 (C : mj_Cx p s m args meth c D ca base mm) (hl : mj_LR (mj_cv base ext) lo ls (mj_ml mm)) (k : mj_ckop mm pc 8 a b x is = true) {v : Nat} (ha : a < lo.length) (hn : mj_nlo lo a = true) (h : ∀ ls', mj_LR (mj_cv base ext) (mj_set lo a (some (.ref v))) ls' (mj_ml mm) → W p l e R s m args below meth c H locs cells slots Qf (F0 m (mj_pc is) ls' rest)) : W p l e R s m args below meth c H locs cells slots Qf (F0 m pc ls (.ref (base + v) :: rest)) := by
  obtain ⟨hx, hb, -⟩ := C
  rcases mj_d4_ok k with ⟨k1, k2⟩ | ⟨i, e1, k1, k2⟩
  all_goals rw [k2] at h
  · exact lv_astore hx hb k1 hl.2 (by rw [← hl.1]; exact ha) rfl (fun ls' h2 => h ls' (hl.st1 (v := .ref v) hn h2))
  · exact lv_astore_n hx hb k1 e1 hl.2 (by rw [← hl.1]; exact ha) rfl (fun ls' h2 => h ls' (hl.st1 (v := .ref v) hn h2))
theorem mj_get_lt : ∀ {lo : mj_Lo} {a : Nat} {v : Value}, mj_get lo a = some v → a < lo.length
  | [], _, _, h => by cases h
  | _ :: _, 0, _, _ => Nat.succ_pos _
  | _ :: t, n + 1, v, h => Nat.succ_lt_succ (mj_get_lt (lo := t) (a := n) (v := v) h)
theorem mj_s9 (C : mj_Cx p s m args meth c D ca base mm) (hl : mj_LR (mj_cv base ext) lo ls (mj_ml mm)) (k : mj_ckop mm pc 9 a b x is = true) {v : Int32} (hg : mj_get lo a = some (.int v)) (hn : mj_nlo lo a = true) (h : ∀ ls', mj_LR (mj_cv base ext) (mj_set lo a (some (.int (v + nI b)))) ls' (mj_ml mm) → W p l e R s m args below meth c H locs cells slots Qf (F0 m (mj_pc is) ls' rest)) : W p l e R s m args below meth c H locs cells slots Qf (F0 m pc ls rest) := by
  obtain ⟨hx, hb, -⟩ := C
  simp only [mj_ckop, Bool.and_eq_true, decide_eq_true_eq] at k
  obtain ⟨e1, k⟩ := k
  obtain ⟨k1, k2⟩ := mj_df_ok k
  rw [k2] at h
  obtain ⟨j, hj⟩ := List.getElem?_of_mem (mj_ll_mem (cv := mj_cv base ext) (o := 0) hg)
  rw [Nat.zero_add] at hj
  exact lv_iinc (v := v + nI b) hx hb k1 hl.2 hj (by rw [e1]) (by rw [← hl.1]; exact mj_get_lt hg) rfl (fun ls' h2 => h ls' (hl.st1 (v := .int (v + nI b)) hn h2))
theorem mj_s10 (C : mj_Cx p s m args meth c D ca base mm) (hl : mj_LR (mj_cv base ext) lo ls (mj_ml mm)) (k : mj_ckop mm pc 10 a b x is = true) {v : Int32} (hg : mj_get lo a = some (.int v)) (hn : mj_nlo lo a = true) (h : ∀ ls', mj_LR (mj_cv base ext) (mj_set lo a (some (.int (v - nI b)))) ls' (mj_ml mm) → W p l e R s m args below meth c H locs cells slots Qf (F0 m (mj_pc is) ls' rest)) : W p l e R s m args below meth c H locs cells slots Qf (F0 m pc ls rest) := by
  obtain ⟨hx, hb, -⟩ := C
  simp only [mj_ckop, Bool.and_eq_true, decide_eq_true_eq] at k
  obtain ⟨e1, k⟩ := k
  obtain ⟨k1, k2⟩ := mj_df_ok k
  rw [k2] at h
  obtain ⟨j, hj⟩ := List.getElem?_of_mem (mj_ll_mem (cv := mj_cv base ext) (o := 0) hg)
  rw [Nat.zero_add] at hj
  exact lv_iinc (v := v - nI b) hx hb k1 hl.2 hj (by rw [e1, Int32.sub_eq_add_neg]) (by rw [← hl.1]; exact mj_get_lt hg) rfl (fun ls' h2 => h ls' (hl.st1 (v := .int (v - nI b)) hn h2))
theorem mj_s11 (C : mj_Cx p s m args meth c D ca base mm) (k : mj_ckop mm pc 11 a b x is = true) {u v r : Int32} (hr : mj_bin a u v = some r) (h : W p l e R s m args below meth c H locs cells slots Qf (F0 m (mj_pc is) ls (.int r :: rest))) : W p l e R s m args below meth c H locs cells slots Qf (F0 m pc ls (.int v :: .int u :: rest)) := by
  obtain ⟨hx, hb, -⟩ := C
  simp only [mj_ckop, Bool.and_eq_true, decide_eq_true_eq] at k
  obtain ⟨e1, k⟩ := k
  obtain ⟨k1, k2⟩ := mj_df_ok k
  rw [k2] at h
  rcases (by omega : a = 0 ∨ a = 1 ∨ a = 2 ∨ a = 3 ∨ a = 4 ∨ a = 5 ∨ a = 6 ∨ a = 7 ∨ a = 8 ∨ a = 9 ∨ a = 10) with rfl | rfl | rfl | rfl | rfl | rfl | rfl | rfl | rfl | rfl | rfl
  · cases hr; exact lv_iadd hx hb k1 h
  · cases hr; exact lv_isub hx hb k1 h
  · cases hr; exact lv_imul hx hb k1 h
  · by_cases hz : v = 0
    · simp [mj_bin, hz] at hr
    · simp only [mj_bin, if_neg hz] at hr
      cases hr; exact lv_idiv hx hb k1 hz h
  · by_cases hz : v = 0
    · simp [mj_bin, hz] at hr
    · simp only [mj_bin, if_neg hz] at hr
      cases hr; exact lv_irem hx hb k1 hz h
  · cases hr; exact lv_ishl hx hb k1 h
  · cases hr; exact lv_ishr hx hb k1 h
  · cases hr; exact lv_iushr hx hb k1 rfl h
  · cases hr; exact lv_iand hx hb k1 h
  · cases hr; exact lv_ior hx hb k1 h
  · cases hr; exact lv_ixor hx hb k1 h
theorem mj_s12 (C : mj_Cx p s m args meth c D ca base mm) (k : mj_ckop mm pc 12 a b x is = true) {u r : Int32} (hr : mj_un a u = some r) (h : W p l e R s m args below meth c H locs cells slots Qf (F0 m (mj_pc is) ls (.int r :: rest))) : W p l e R s m args below meth c H locs cells slots Qf (F0 m pc ls (.int u :: rest)) := by
  obtain ⟨hx, hb, -⟩ := C
  simp only [mj_ckop, Bool.and_eq_true, decide_eq_true_eq] at k
  obtain ⟨e1, k⟩ := k
  obtain ⟨k1, k2⟩ := mj_df_ok k
  rw [k2] at h
  rcases (by omega : a = 0 ∨ a = 1 ∨ a = 2) with rfl | rfl | rfl
  · cases hr; exact lv_ineg hx hb k1 h
  · cases hr; exact lv_i2b hx hb k1 rfl h
  · cases hr; exact lv_i2c hx hb k1 rfl h
theorem mj_s13 (C : mj_Cx p s m args meth c D ca base mm) (k : mj_ckop mm pc 13 a b x is = true) {u v r : Int64} (hr : mj_lbin a u v = some r) (h : W p l e R s m args below meth c H locs cells slots Qf (F0 m (mj_pc is) ls (.long r :: rest))) : W p l e R s m args below meth c H locs cells slots Qf (F0 m pc ls (.long v :: .long u :: rest)) := by
  obtain ⟨hx, hb, -⟩ := C
  simp only [mj_ckop, Bool.and_eq_true, decide_eq_true_eq] at k
  obtain ⟨e1, k⟩ := k
  obtain ⟨k1, k2⟩ := mj_df_ok k
  rw [k2] at h
  rcases (by omega : a = 0 ∨ a = 1 ∨ a = 2 ∨ a = 3) with rfl | rfl | rfl | rfl
  · cases hr; exact lv_ladd hx hb k1 h
  · cases hr; exact lv_lsub hx hb k1 h
  · cases hr; exact lv_lmul hx hb k1 h
  · cases hr; exact lv_lor hx hb k1 h
theorem mj_s14 (C : mj_Cx p s m args meth c D ca base mm) (k : mj_ckop mm pc 14 a b x is = true) {u : Int64} {v : Int32} (h : W p l e R s m args below meth c H locs cells slots Qf (F0 m (mj_pc is) ls (.long (u <<< (v.toInt64 &&& 63)) :: rest))) : W p l e R s m args below meth c H locs cells slots Qf (F0 m pc ls (.int v :: .long u :: rest)) := by
  obtain ⟨hx, hb, -⟩ := C
  obtain ⟨k1, k2⟩ := mj_df_ok k
  rw [k2] at h
  exact lv_lshl hx hb k1 rfl h
theorem mj_s15 (C : mj_Cx p s m args meth c D ca base mm) (k : mj_ckop mm pc 15 a b x is = true) {v : Int32} (h : W p l e R s m args below meth c H locs cells slots Qf (F0 m (mj_pc is) ls (.long v.toInt64 :: rest))) : W p l e R s m args below meth c H locs cells slots Qf (F0 m pc ls (.int v :: rest)) := by
  obtain ⟨hx, hb, -⟩ := C
  obtain ⟨k1, k2⟩ := mj_df_ok k
  rw [k2] at h
  exact lv_i2l hx hb k1 rfl h
theorem mj_s16 (C : mj_Cx p s m args meth c D ca base mm) (k : mj_ckop mm pc 16 a b x is = true) {v : Int64} (h : W p l e R s m args below meth c H locs cells slots Qf (F0 m (mj_pc is) ls (.int v.toInt32 :: rest))) : W p l e R s m args below meth c H locs cells slots Qf (F0 m pc ls (.long v :: rest)) := by
  obtain ⟨hx, hb, -⟩ := C
  obtain ⟨k1, k2⟩ := mj_df_ok k
  rw [k2] at h
  exact lv_l2i hx hb k1 rfl h
theorem mj_s17 (C : mj_Cx p s m args meth c D ca base mm) (k : mj_ckop mm pc 17 a b x is = true) {u v : Int64} (h : W p l e R s m args below meth c H locs cells slots Qf (F0 m (mj_pc is) ls (.int (lg_cmp u v) :: rest))) : W p l e R s m args below meth c H locs cells slots Qf (F0 m pc ls (.long v :: .long u :: rest)) := by
  obtain ⟨hx, hb, -⟩ := C
  obtain ⟨k1, k2⟩ := mj_df_ok k
  rw [k2] at h
  exact W.lcmp hx hb k1 h
theorem mj_s18 (C : mj_Cx p s m args meth c D ca base mm) (k : mj_ckop mm pc 18 a b x is = true) {v : Value} (hv : v.category = 1) (h : W p l e R s m args below meth c H locs cells slots Qf (F0 m (mj_pc is) ls (v :: v :: rest))) : W p l e R s m args below meth c H locs cells slots Qf (F0 m pc ls (v :: rest)) := by
  obtain ⟨hx, hb, -⟩ := C
  obtain ⟨k1, k2⟩ := mj_df_ok k
  rw [k2] at h
  exact lv_dup hx hb k1 hv h
theorem mj_s19 (C : mj_Cx p s m args meth c D ca base mm) (k : mj_ckop mm pc 19 a b x is = true) {v : Value} (hv : v.category = 1) (h : W p l e R s m args below meth c H locs cells slots Qf (F0 m (mj_pc is) ls rest)) : W p l e R s m args below meth c H locs cells slots Qf (F0 m pc ls (v :: rest)) := by
  obtain ⟨hx, hb, -⟩ := C
  obtain ⟨k1, k2⟩ := mj_df_ok k
  rw [k2] at h
  exact lv_pop hx hb k1 hv h
theorem mj_s20 (C : mj_Cx p s m args meth c D ca base mm) (k : mj_ckop mm pc 20 a b x is = true) {v w : Value} (hv : v.category = 1) (hw : w.category = 1) (h : W p l e R s m args below meth c H locs cells slots Qf (F0 m (mj_pc is) ls (v :: w :: v :: w :: rest))) : W p l e R s m args below meth c H locs cells slots Qf (F0 m pc ls (v :: w :: rest)) := by
  obtain ⟨hx, hb, -⟩ := C
  obtain ⟨k1, k2⟩ := mj_df_ok k
  rw [k2] at h
  exact lv_dup2_11 hx hb k1 hv hw h
theorem mj_s21 (C : mj_Cx p s m args meth c D ca base mm) (k : mj_ckop mm pc 21 a b x is = true) {v : Int32} (ht : mj_cc a v 0 → W p l e R s m args below meth c H locs cells slots Qf (F0 m b ls rest)) (hf : ¬ mj_cc a v 0 → W p l e R s m args below meth c H locs cells slots Qf (F0 m (mj_pc is) ls rest)) : W p l e R s m args below meth c H locs cells slots Qf (F0 m pc ls (.int v :: rest)) := by
  obtain ⟨hx, hb, -⟩ := C
  simp only [mj_ckop, Bool.and_eq_true, decide_eq_true_eq] at k
  obtain ⟨⟨e1, k⟩, -⟩ := k
  obtain ⟨k1, k2⟩ := mj_df_ok k
  rw [k2] at hf
  have et : (pc : Int) + ((b : Int) - pc) = (b : Int) := by omega
  rcases (by omega : a = 0 ∨ a = 1 ∨ a = 2 ∨ a = 3 ∨ a = 4 ∨ a = 5) with rfl | rfl | rfl | rfl | rfl | rfl
  · exact lv_if_eq hx hb k1 et ht hf
  · exact lv_if_ne hx hb k1 et ht (fun q => hf (fun z => z q))
  · exact lv_if_lt hx hb k1 et ht hf
  · exact lv_if_ge hx hb k1 et ht hf
  · exact lv_if_gt hx hb k1 et ht hf
  · exact lv_if_le hx hb k1 et ht hf
theorem mj_s22 (C : mj_Cx p s m args meth c D ca base mm) (k : mj_ckop mm pc 22 a b x is = true) {u v : Int32} (ht : mj_cc a u v → W p l e R s m args below meth c H locs cells slots Qf (F0 m b ls rest)) (hf : ¬ mj_cc a u v → W p l e R s m args below meth c H locs cells slots Qf (F0 m (mj_pc is) ls rest)) : W p l e R s m args below meth c H locs cells slots Qf (F0 m pc ls (.int v :: .int u :: rest)) := by
  obtain ⟨hx, hb, -⟩ := C
  simp only [mj_ckop, Bool.and_eq_true, decide_eq_true_eq] at k
  obtain ⟨⟨e1, k⟩, -⟩ := k
  obtain ⟨k1, k2⟩ := mj_df_ok k
  rw [k2] at hf
  have et : (pc : Int) + ((b : Int) - pc) = (b : Int) := by omega
  rcases (by omega : a = 0 ∨ a = 1 ∨ a = 2 ∨ a = 3 ∨ a = 4 ∨ a = 5) with rfl | rfl | rfl | rfl | rfl | rfl
  · exact lv_icmp_eq hx hb k1 et ht hf
  · exact lv_icmp_ne hx hb k1 et ht (fun q => hf (fun z => z q))
  · exact lv_icmp_lt hx hb k1 et ht hf
  · exact lv_icmp_ge hx hb k1 et ht hf
  · exact lv_icmp_gt hx hb k1 et ht hf
  · exact lv_icmp_le hx hb k1 et ht hf
theorem mj_s23 (C : mj_Cx p s m args meth c D ca base mm) (k : mj_ckop mm pc 23 a b x is = true) (h : W p l e R s m args below meth c H locs cells slots Qf (F0 m b ls rest)) : W p l e R s m args below meth c H locs cells slots Qf (F0 m pc ls rest) := by
  obtain ⟨hx, hb, -⟩ := C
  simp only [mj_ckop, Bool.and_eq_true] at k
  exact lv_goto hx hb (mj_dk_ok k.1) (by omega) h
end S
