/-! soundness: new cells, returns -/
theorem mj_sh_lt {k : Nat} (h : mj_sh k ≠ 0) : k < mj_shl.length := by
  rcases Nat.lt_or_ge k mj_shl.length with q | q
  · exact q
  · exfalso
    apply h
    unfold mj_sh
    rw [List.getD_eq_getElem?_getD, List.getElem?_eq_none q]
    rfl
def mj_nw (σ : mj_S) : mj_S := (σ.1 + 1, mj_seI σ.2.1 σ.1 (fun _ => 0), mj_seL σ.2.2.1 σ.1 (fun _ => 0), mj_seP σ.2.2.2 σ.1 (fun _ => none))
theorem mj_wd_nw (ca : Nat → ClassId) (base : Nat) (σ : mj_S) : mj_wd ca base (mj_nw σ) = mj_wd ca base σ ++ [(base + σ.1, mj_ce ca base (mj_nw σ) σ.1)] := by
  unfold mj_wd
  show (List.range (σ.1 + 1)).map _ = _
  rw [List.range_succ, List.map_append]
  congr 1
  apply List.map_congr_left
  intro k hk
  have hne : k ≠ σ.1 := by have := List.mem_range.mp hk; omega
  rw [mj_ce_congr (τ := mj_nw σ) (σ := σ) (mj_seI_ne hne) (mj_seL_ne hne) (mj_seP_ne hne)]
theorem mj_Hnw {D : va_G} {ca : Nat → ClassId} {base : Nat} {σ : mj_S} {H H1 : Heap} (hH : mj_H D ca base σ H) (hz : H.size = base + σ.1) (hz1 : H1.size = H.size + 1) (ho : ∀ q, q < H.size → H1[q]? = H[q]?) (hn : va_at D vwCl (base + σ.1, mj_ce ca base (mj_nw σ) σ.1) H1) : mj_H D ca base (mj_nw σ) H1 := by
  refine ⟨?_, Or.inl (by rw [hz1, hz]; show _ = base + (σ.1 + 1); omega)⟩
  rw [mj_wd_nw]
  refine (hH.1.kept (fun k q hq => ho q.1 ((hH.1 k q hq).lt))).app (fun k q hq => ?_)
  have hl : k < 1 := (List.getElem?_eq_some_iff.mp hq).1
  rw [show k = 0 by omega] at hq
  cases hq
  exact hn
section S
variable {p : Program} {l : Launch} {e : Env} {R : Room} {s : State} {m : MethodId} {args : Array Value} {below : List Frame} {meth : Method} {c : Code} {H : Heap} {locs : List Loc} {cells slots : Nat} {Qf : State → Prop}
variable {D : va_G} {ca : Nat → ClassId} {base : Nat} {ext : Nat → Nat} {mm : Nat}
variable {is : List mj_O} {lo : mj_Lo} {st rest : List Value} {σ τ : mj_S} {bc bs pc a b x k : Nat} {ls : Array Slot}
theorem mj_szx (hH : mj_H D ca base σ H) (h : mj_sh σ.1 ≠ 0) : H.size = base + σ.1 := by
  rcases hH.2 with q | ⟨q, -⟩
  · exact q
  · have := mj_sh_lt h
    omega
theorem mj_S_grow (hS : va_S (mj_A base) s.heap H locs) {H1 : Heap} (hz1 : H1.size = H.size + 1) (ho : ∀ q, q < H.size → H1[q]? = H[q]?) : va_S (mj_A base) s.heap H1 locs :=
  ⟨Nat.le_trans hS.1 (by omega), fun q h1 h2 => (ho q (Nat.lt_of_lt_of_le h1 hS.1)).trans (hS.2.1 q h1 h2), hS.2.2⟩
theorem mj_s52 (C : mj_Cx p s m args meth c D ca base mm) (fC : mj_fcC) (fK : mj_fcK) (fS : mj_fcS) (hH : mj_H D ca base σ H) (hS : va_S (mj_A base) s.heap H locs) (hs : mj_sh σ.1 = 10 + a) (ck : mj_ckop mm pc 52 a b x is = true) (hc1 : cells + 1 ≤ R.cells) (hs1 : slots + mj_ln σ.1 ≤ R.slots)
    (h : ∀ (H1 : Heap), mj_H D ca base (mj_nw σ) H1 → va_S (mj_A base) s.heap H1 locs → W p l e R s m args below meth c H1 locs (cells + 1) (slots + mj_ln σ.1) Qf (F0 m (mj_pc is) ls (.ref (base + σ.1) :: rest))) : W p l e R s m args below meth c H locs cells slots Qf (F0 m pc ls rest) := by
  obtain ⟨hx, hb, hml, hown, hts, hK, -⟩ := C
  simp only [mj_ckop, Bool.and_eq_true, List.contains_iff_mem] at ck
  obtain ⟨hm, ck⟩ := ck
  obtain ⟨k1, k2⟩ := mj_df_ok ck
  rw [k2] at h
  obtain ⟨Cn, T, hc⟩ := fS σ.1 a hs
  obtain ⟨hin, hcn, hins, hini, hnm, ty, hty⟩ := fK a Cn T _ hc
  have hlk := fC _ hm
  simp only [hcn] at hlk
  have hKn := hK.1 a _ hc
  have hz := mj_szx hH (by rw [hs]; omega)
  refine W.newcK hx hb hown (hts _ hlk) (hts _ hins) (hts _ hini) rfl k1 hc1 hs1 hKn.2.1 hz fun H1 kC hkC e1 z1 o1 => ?_
  refine h H1 (mj_Hnw hH hz (by omega) (fun q hq => o1 q (by omega)) ?_) (mj_S_grow hS (by omega) (fun q hq => o1 q (by omega)))
  rw [mj_ce_o hs]
  refine ⟨_, hc, (u_born ty hts hin hKn hkC e1 (fun j hj => (hty j hj).1)).to (fun j hj => ?_)⟩
  obtain ⟨-, t0, t1, t2, t3, t4, -⟩ := hty j hj
  show defaultValue (ty j) = ((List.range (mj_ln σ.1)).map (mj_fv base (mj_nw σ) a σ.1)).getD j .null
  rw [List.getD_eq_getElem?_getD, mj_fs_get hj]
  show defaultValue (ty j) = mj_fv base (mj_nw σ) a σ.1 j
  rcases (by omega : mj_ft a j = 0 ∨ mj_ft a j = 1 ∨ mj_ft a j = 2 ∨ mj_ft a j = 3) with q | q | q | q
  · rw [mj_fv_i (by omega), t0 q]
    show _ = Value.int (mj_seI σ.2.1 σ.1 (fun _ => 0) σ.1 j)
    rw [mj_seI_eq]; rfl
  · rw [mj_fv_i (by omega), t1 q]
    show _ = Value.int (mj_seI σ.2.1 σ.1 (fun _ => 0) σ.1 j)
    rw [mj_seI_eq]; rfl
  · rw [mj_fv_l q, t2 q]
    show _ = Value.long (mj_seL σ.2.2.1 σ.1 (fun _ => 0) σ.1 j)
    rw [mj_seL_eq]; rfl
  · rw [mj_fv_r q]
    show _ = va_rf ((mj_seP σ.2.2.2 σ.1 (fun _ => none) σ.1 j).map _)
    rw [mj_seP_eq]
    rcases t3 q with ⟨n, e⟩ | ⟨n, e⟩ <;> rw [e] <;> rfl
theorem mj_s53 (C : mj_Cx p s m args meth c D ca base mm) (fR : mj_fcR) (hca : s.vm.findClass ("[" ++ FieldType.int.toString) = some (ca 0) ∧ s.vm.findClass ("[" ++ FieldType.long.toString) = some (ca 1) ∧ s.vm.findClass ("[" ++ FieldType.byte.toString) = some (ca 2) ∧ s.vm.findClass ("[" ++ FieldType.boolean.toString) = some (ca 3)) (hH : mj_H D ca base σ H) (hS : va_S (mj_A base) s.heap H locs) (hs : mj_sh σ.1 = a) (hln : mj_ln σ.1 < 2 ^ 20) (ck : mj_ckop mm pc 53 a b x is = true) (hc1 : cells + 1 ≤ R.cells) (hs1 : slots + mj_ln σ.1 ≤ R.slots)
    (h : ∀ (H1 : Heap), mj_H D ca base (mj_nw σ) H1 → va_S (mj_A base) s.heap H1 locs → W p l e R s m args below meth c H1 locs (cells + 1) (slots + mj_ln σ.1) Qf (F0 m (mj_pc is) ls (.ref (base + σ.1) :: rest))) : W p l e R s m args below meth c H locs cells slots Qf (F0 m pc ls (.int (nI (mj_ln σ.1)) :: rest)) := by
  obtain ⟨hx, hb, hml, hown, hts, hK, -⟩ := C
  simp only [mj_ckop, Bool.and_eq_true, decide_eq_true_eq] at ck
  obtain ⟨⟨ha1, ha4⟩, ck⟩ := ck
  obtain ⟨k1, k2⟩ := mj_df_ok ck
  rw [k2] at h
  have hz := mj_szx hH (by rw [hs]; omega)
  have hcl := nI_clamp (n := mj_ln σ.1) (by omega)
  rcases (by omega : a = 1 ∨ a = 2 ∨ a = 3 ∨ a = 4) with rfl | rfl | rfl | rfl
  · refine va_newaK (atype := .int) hx hb (hts _ fR.1) rfl k1 rfl (nI_pos (by omega)) hcl (by show _ * 4 ≤ _; omega) hc1 hs1 hz fun H1 cA e1 z1 o1 hA hf => ?_
    cases Option.some.inj (hf.symm.trans hca.1)
    refine h H1 (mj_Hnw hH hz (by omega) (fun q hq => o1 q (by omega)) ?_) (mj_S_grow hS (by omega) (fun q hq => o1 q (by omega)))
    rw [mj_ce_1 hs]
    show H1[base + σ.1]? = some (vp_cell (ca 0) (mj_ln σ.1, .inl (mj_seI σ.2.1 σ.1 (fun _ => 0) σ.1)))
    rw [mj_seI_eq, vp_cell_i]
    exact e1
  · refine va_newaK (atype := .long) hx hb (hts _ fR.2.1) rfl k1 rfl (nI_pos (by omega)) hcl (by show _ * 8 ≤ _; omega) hc1 hs1 hz fun H1 cA e1 z1 o1 hA hf => ?_
    cases Option.some.inj (hf.symm.trans hca.2.1)
    refine h H1 (mj_Hnw hH hz (by omega) (fun q hq => o1 q (by omega)) ?_) (mj_S_grow hS (by omega) (fun q hq => o1 q (by omega)))
    rw [mj_ce_2 hs]
    show H1[base + σ.1]? = some (vp_cell (ca 1) (mj_ln σ.1, .inr (.inl (mj_seL σ.2.2.1 σ.1 (fun _ => 0) σ.1))))
    rw [mj_seL_eq, vp_cell_l]
    exact e1
  · refine va_newaK (atype := .byte) hx hb (hts _ fR.2.2.1) rfl k1 rfl (nI_pos (by omega)) hcl (by show _ * 1 ≤ _; omega) hc1 hs1 hz fun H1 cA e1 z1 o1 hA hf => ?_
    cases Option.some.inj (hf.symm.trans hca.2.2.1)
    refine h H1 (mj_Hnw hH hz (by omega) (fun q hq => o1 q (by omega)) ?_) (mj_S_grow hS (by omega) (fun q hq => o1 q (by omega)))
    rw [mj_ce_3 hs]
    show H1[base + σ.1]? = some (vp_cell (ca 2) (mj_ln σ.1, .inl (mj_seI σ.2.1 σ.1 (fun _ => 0) σ.1)))
    rw [mj_seI_eq, vp_cell_i]
    exact e1
  · refine va_newaK (atype := .boolean) hx hb (hts _ fR.2.2.2) rfl k1 rfl (nI_pos (by omega)) hcl (by show _ * 1 ≤ _; omega) hc1 hs1 hz fun H1 cA e1 z1 o1 hA hf => ?_
    cases Option.some.inj (hf.symm.trans hca.2.2.2)
    refine h H1 (mj_Hnw hH hz (by omega) (fun q hq => o1 q (by omega)) ?_) (mj_S_grow hS (by omega) (fun q hq => o1 q (by omega)))
    rw [mj_ce_4 hs]
    show H1[base + σ.1]? = some (vp_cell (ca 3) (mj_ln σ.1, .inl (mj_seI σ.2.1 σ.1 (fun _ => 0) σ.1)))
    rw [mj_seI_eq, vp_cell_i]
    exact e1
/-- a method's end, as its contract says it -/
def mj_Qc (D : va_G) (ca : Nat → ClassId) (base : Nat) (ext : Nat → Nat) (Q : mj_Q) : Array Value → State → Outcome → State → Prop := fun _ st o t => ∃ v σ, o = .returned (v.map (mj_cv base ext)) ∧ Q (.inl v) σ ∧ mj_H D ca base σ t.heap ∧ va_F (mj_A base) st t
def mj_xn : Nat → String
  | 0 => "java/util/NoSuchElementException"
  | _ => "java/lang/IllegalArgumentException"
def mj_XC (D : va_G) (ca : Nat → ClassId) (base : Nat) (Q : mj_Q) : String → State → State → Prop := fun E st t => ∃ k σ, E = mj_xn k ∧ Q (.inr k) σ ∧ mj_H D ca base σ t.heap ∧ va_F (mj_A base) st t
variable {Q : mj_Q}
theorem mj_rq (hH : mj_H D ca base σ H) (hS : va_S (mj_A base) s.heap H locs) {v : Option Value} (hq : Q (.inl v) σ) : ∀ t : State, t.heap = H → s.WarmedH t.vm → mj_Qc D ca base ext Q args s (.returned (v.map (mj_cv base ext))) t :=
  fun t ht _ => ⟨v, σ, rfl, hq, by rw [ht]; exact hH, hS.F ht⟩
theorem mj_s25 (C : mj_Cx p s m args meth c D ca base mm) (hH : mj_H D ca base σ H) (hS : va_S (mj_A base) s.heap H locs) (ck : mj_ckop mm pc 25 a b x is = true) (hc : cells ≤ mj_mc mm) (hs : slots ≤ mj_ms mm) (hq : Q (.inl none) σ) :
    W p l e R s m args below meth c H locs cells slots (vx_MQ below (mj_Qc D ca base ext Q) (mj_XC D ca base Q) args s (mj_mc mm) (mj_ms mm) (mj_A base)) (F0 m pc ls []) := by
  obtain ⟨hx, hb, hml, hown, hts, hK, hr, hlocks, -⟩ := C
  simp only [mj_ckop, Bool.and_eq_true, decide_eq_true_eq] at ck
  rw [ck.2] at hr
  refine W.widen hc hs (vx_ret ?_)
  exact W.vret hx hb hr (mj_rq (ext := ext) hH hS hq) hS.2.2 (mj_dk_ok ck.1) hlocks
theorem mj_s26 (C : mj_Cx p s m args meth c D ca base mm) (hH : mj_H D ca base σ H) (hS : va_S (mj_A base) s.heap H locs) (ck : mj_ckop mm pc 26 a b x is = true) (hc : cells ≤ mj_mc mm) (hs : slots ≤ mj_ms mm) {v : Int32} (hq : Q (.inl (some (.int v))) σ) :
    W p l e R s m args below meth c H locs cells slots (vx_MQ below (mj_Qc D ca base ext Q) (mj_XC D ca base Q) args s (mj_mc mm) (mj_ms mm) (mj_A base)) (F0 m pc ls [.int v]) := by
  obtain ⟨hx, hb, hml, hown, hts, hK, hr, hlocks, -⟩ := C
  simp only [mj_ckop, Bool.and_eq_true, decide_eq_true_eq] at ck
  rw [ck.2] at hr
  refine W.widen hc hs (vx_ret ?_)
  exact W.iret hx hb hr (mj_rq (ext := ext) hH hS hq) hS.2.2 (mj_dk_ok ck.1) hlocks
theorem mj_s27 (C : mj_Cx p s m args meth c D ca base mm) (hH : mj_H D ca base σ H) (hS : va_S (mj_A base) s.heap H locs) (ck : mj_ckop mm pc 27 a b x is = true) (hc : cells ≤ mj_mc mm) (hs : slots ≤ mj_ms mm) {v : Int32} (hv : v = 0 ∨ v = 1) (hq : Q (.inl (some (.int v))) σ) :
    W p l e R s m args below meth c H locs cells slots (vx_MQ below (mj_Qc D ca base ext Q) (mj_XC D ca base Q) args s (mj_mc mm) (mj_ms mm) (mj_A base)) (F0 m pc ls [.int v]) := by
  obtain ⟨hx, hb, hml, hown, hts, hK, hr, hlocks, -⟩ := C
  simp only [mj_ckop, Bool.and_eq_true, decide_eq_true_eq] at ck
  rw [ck.2] at hr
  refine W.widen hc hs (vx_ret ?_)
  exact W.zret hx hb hr (by rcases hv with rfl | rfl <;> rfl) (mj_rq (ext := ext) hH hS hq) hS.2.2 (mj_dk_ok ck.1) hlocks
theorem mj_s28 (C : mj_Cx p s m args meth c D ca base mm) (hH : mj_H D ca base σ H) (hS : va_S (mj_A base) s.heap H locs) (ck : mj_ckop mm pc 28 a b x is = true) (hc : cells ≤ mj_mc mm) (hs : slots ≤ mj_ms mm) {v : Int64} (hq : Q (.inl (some (.long v))) σ) :
    W p l e R s m args below meth c H locs cells slots (vx_MQ below (mj_Qc D ca base ext Q) (mj_XC D ca base Q) args s (mj_mc mm) (mj_ms mm) (mj_A base)) (F0 m pc ls [.long v]) := by
  obtain ⟨hx, hb, hml, hown, hts, hK, hr, hlocks, -⟩ := C
  simp only [mj_ckop, Bool.and_eq_true, decide_eq_true_eq] at ck
  rw [ck.2] at hr
  refine W.widen hc hs (vx_ret ?_)
  exact W.lret hx hb hr (mj_rq (ext := ext) hH hS hq) hS.2.2 (mj_dk_ok ck.1) hlocks
end S
