/-! soundness: cells -/
theorem mj_T_eq {a : Nat} {C : String} {T : u_T} {N : Nat} (h : vwCl[a]? = some (C, T, N)) : mj_T a = T := by
  unfold mj_T
  rw [List.getD_eq_getElem?_getD, h]
  rfl
theorem mj_N_eq {a : Nat} {C : String} {T : u_T} {N : Nat} (h : vwCl[a]? = some (C, T, N)) : (vwCl.getD a ("", (fun _ => ("", "", "", false)), 0)).2.2 = N := by
  rw [List.getD_eq_getElem?_getD, h]
  rfl
theorem mj_fv_i {base : Nat} {σ : mj_S} {a k b : Nat} (h : mj_ft a b < 2) : mj_fv base σ a k b = .int (σ.2.1 k b) := by
  unfold mj_fv
  split
  · omega
  · omega
  · rfl
theorem mj_fv_l {base : Nat} {σ : mj_S} {a k b : Nat} (h : mj_ft a b = 2) : mj_fv base σ a k b = .long (σ.2.2.1 k b) := by
  unfold mj_fv
  rw [h]
  rfl
theorem mj_fv_r {base : Nat} {σ : mj_S} {a k b : Nat} (h : mj_ft a b = 3) : mj_fv base σ a k b = va_rf ((σ.2.2.2 k b).map (fun r => base + r)) := by
  unfold mj_fv
  rw [h]
  rfl
theorem mj_fv_congr {base : Nat} {σ τ : mj_S} {a k i : Nat} (h1 : τ.2.1 k i = σ.2.1 k i) (h2 : τ.2.2.1 k i = σ.2.2.1 k i) (h3 : τ.2.2.2 k i = σ.2.2.2 k i) : mj_fv base τ a k i = mj_fv base σ a k i := by
  unfold mj_fv
  rw [h1, h2, h3]
section S
variable {p : Program} {l : Launch} {e : Env} {R : Room} {s : State} {m : MethodId} {args : Array Value} {below : List Frame} {meth : Method} {c : Code} {H : Heap} {locs : List Loc} {cells slots : Nat} {Qf : State → Prop}
variable {D : va_G} {ca : Nat → ClassId} {base : Nat} {ext : Nat → Nat} {mm : Nat}
variable {is : List mj_O} {lo : mj_Lo} {st rest : List Value} {σ τ : mj_S} {bc bs pc a b x k : Nat} {ls : Array Slot}
theorem mj_gf (C : mj_Cx p s m args meth c D ca base mm) (fF : mj_fcF) (fK : mj_fcK) (fS : mj_fcS) (hH : mj_H D ca base σ H) (hs : mj_sh k = 10 + a) (hk : k < σ.1) (hm : (mj_mo mm, a, b, x) ∈ mj_pF) (k1 : decode (mj_mb mm) pc = .ok (.getfield x, 3))
    (h : W p l e R s m args below meth c H locs cells slots Qf (F0 m (pc + 3) ls (mj_fv base σ a k b :: rest))) : W p l e R s m args below meth c H locs cells slots Qf (F0 m pc ls (.ref (base + k) :: rest)) := by
  obtain ⟨hx, hb, hml, hown, hts, hK, -⟩ := C
  obtain ⟨Cn, T, hc⟩ := fS k a hs
  obtain ⟨hin, hcn, hins, hini, hnm, ty, hty⟩ := fK a Cn T _ hc
  obtain ⟨hlk, hlt⟩ := fF _ hm
  rw [mj_N_eq hc] at hlt
  rw [mj_T_eq hc] at hlk
  exact va_get (D := D) (ci := a) (C := Cn) (T := T) (N := mj_ln k) hx hb hts hin hown hK hH.1 k (by rw [mj_wd_get hk, mj_ce_o hs]) hc b hlt (hts _ hlk) (fun _ h9 => h9) (mj_fs_get hlt) k1 h
theorem mj_pf (C : mj_Cx p s m args meth c D ca base mm) (fF : mj_fcF) (fK : mj_fcK) (fS : mj_fcS) (hH : mj_H D ca base σ H) (hS : va_S (mj_A base) s.heap H locs) (hs : mj_sh k = 10 + a) (hk : k < σ.1) (hm : (mj_mo mm, a, b, x) ∈ mj_pF) (k1 : decode (mj_mb mm) pc = .ok (.putfield x, 3)) (hf : mj_fin mm a b = true)
    {v : Value} (hn1 : τ.1 = σ.1) (hv : mj_fv base τ a k b = v) (ho : ∀ i, i ≠ b → mj_fv base τ a k i = mj_fv base σ a k i) (hoc : ∀ j, j ≠ k → mj_ce ca base τ j = mj_ce ca base σ j)
    (ht : ∀ t : FieldType, (mj_ft a b = 0 → t = .int) → (mj_ft a b = 1 → t = .boolean) → (mj_ft a b = 2 → t = .long) → (mj_ft a b = 3 → (∃ n, t = .object n) ∨ ∃ z, t = .array z) → narrow t v = v ∧ fits t v = true)
    (h : ∀ (H1 : Heap) (locs1 : List Loc), mj_H D ca base τ H1 → va_S (mj_A base) s.heap H1 locs1 → W p l e R s m args below meth c H1 locs1 cells slots Qf (F0 m (pc + 3) ls rest)) : W p l e R s m args below meth c H locs cells slots Qf (F0 m pc ls (v :: .ref (base + k) :: rest)) := by
  obtain ⟨hx, hb, hml, hown, hts, hK, -, -, hnmm, -⟩ := C
  obtain ⟨Cn, T, hc⟩ := fS k a hs
  obtain ⟨hin, hcn, hins, hini, hnm, ty, hty⟩ := fK a Cn T _ hc
  obtain ⟨hlk, hlt⟩ := fF _ hm
  rw [mj_N_eq hc] at hlt
  rw [mj_T_eq hc] at hlk
  obtain ⟨hp, t0, t1, t2, t3, -, hcl⟩ := hty b hlt
  obtain ⟨hn, hfit⟩ := ht (ty b) t0 t1 t2 t3
  have hfin : (T b).2.2.2 = false ∨ (meth.name = "<init>" ∧ (T b).1 = mj_cn (mj_mo mm)) := by
    have e1 : (vwCl.getD a ("", (fun _ => ("", "", "", false)), 0)).2.1 = T := mj_T_eq hc
    unfold mj_fin at hf
    rw [e1] at hf
    simp only [Bool.or_eq_true, Bool.not_eq_true', Bool.and_eq_true, decide_eq_true_eq, beq_iff_eq] at hf
    rcases hf with hf | ⟨h1, h2⟩
    · exact Or.inl hf
    · exact Or.inr ⟨hnmm.trans h1, by rw [h2, hcl, hcn]⟩
  refine mj_rput (D := D) (ci := a) (C := Cn) (T := T) (N := mj_ln k) (H0 := s.heap) hx hb hts hin ty (fun j hj => (hty j hj).1) hnm hown hK hH.1 (mj_wd_D ca base σ) hS k (by rw [mj_wd_get hk, mj_ce_o hs]) hc b hlt (hts _ hlk) hfin hn hfit (by rw [List.length_map, List.length_range]; exact hlt) k1 (fun H1 locs1 hz hP1 hS1 => h H1 locs1 ⟨?_, ?_⟩ hS1)
  · rw [mj_wd_set (τ := τ) hn1 ?_ hoc] at hP1
    · exact hP1
    · rw [mj_ce_o hs, mj_fs_set hv ho]
  · rcases hH.2 with q | q
    · exact Or.inl (by rw [hz, hn1]; exact q)
    · exact Or.inr (by rw [hz, hn1]; exact q)
theorem mj_s31 (C : mj_Cx p s m args meth c D ca base mm) (fF : mj_fcF) (fK : mj_fcK) (fS : mj_fcS) (hH : mj_H D ca base σ H) (hs : mj_sh k = 10 + a) (hk : k < σ.1) (ck : mj_ckop mm pc 31 a b x is = true)
    (h : W p l e R s m args below meth c H locs cells slots Qf (F0 m (mj_pc is) ls (.int (σ.2.1 k b) :: rest))) : W p l e R s m args below meth c H locs cells slots Qf (F0 m pc ls (.ref (base + k) :: rest)) := by
  simp only [mj_ckop, Bool.and_eq_true, decide_eq_true_eq, List.contains_iff_mem] at ck
  obtain ⟨⟨hm, ck⟩, ht⟩ := ck
  obtain ⟨k1, k2⟩ := mj_df_ok ck
  rw [k2] at h
  exact mj_gf C fF fK fS hH hs hk hm k1 (by rw [mj_fv_i ht]; exact h)
theorem mj_s32 (C : mj_Cx p s m args meth c D ca base mm) (fF : mj_fcF) (fK : mj_fcK) (fS : mj_fcS) (hH : mj_H D ca base σ H) (hs : mj_sh k = 10 + a) (hk : k < σ.1) (ck : mj_ckop mm pc 32 a b x is = true)
    (h : W p l e R s m args below meth c H locs cells slots Qf (F0 m (mj_pc is) ls (.long (σ.2.2.1 k b) :: rest))) : W p l e R s m args below meth c H locs cells slots Qf (F0 m pc ls (.ref (base + k) :: rest)) := by
  simp only [mj_ckop, Bool.and_eq_true, decide_eq_true_eq, List.contains_iff_mem] at ck
  obtain ⟨⟨hm, ck⟩, ht⟩ := ck
  obtain ⟨k1, k2⟩ := mj_df_ok ck
  rw [k2] at h
  exact mj_gf C fF fK fS hH hs hk hm k1 (by rw [mj_fv_l ht]; exact h)
theorem mj_s33 (C : mj_Cx p s m args meth c D ca base mm) (fF : mj_fcF) (fK : mj_fcK) (fS : mj_fcS) (hH : mj_H D ca base σ H) (hs : mj_sh k = 10 + a) (hk : k < σ.1) (ck : mj_ckop mm pc 33 a b x is = true) {r : Nat} (hr : σ.2.2.2 k b = some r)
    (h : W p l e R s m args below meth c H locs cells slots Qf (F0 m (mj_pc is) ls (.ref (base + r) :: rest))) : W p l e R s m args below meth c H locs cells slots Qf (F0 m pc ls (.ref (base + k) :: rest)) := by
  simp only [mj_ckop, Bool.and_eq_true, decide_eq_true_eq, List.contains_iff_mem] at ck
  obtain ⟨⟨hm, ck⟩, ht⟩ := ck
  obtain ⟨k1, k2⟩ := mj_df_ok ck
  rw [k2] at h
  exact mj_gf C fF fK fS hH hs hk hm k1 (by rw [mj_fv_r ht, hr]; exact h)
theorem mj_upI_at {I : mj_I} {k b : Nat} {v : Int32} : mj_upI I k b v k b = v := by rw [mj_upI_eq]; exact pk_us
theorem mj_upI_of {I : mj_I} {k b i : Nat} {v : Int32} (h : i ≠ b) : mj_upI I k b v k i = I k i := by rw [mj_upI_eq]; exact pk_un h
theorem mj_upL_at {L : mj_L} {k b : Nat} {v : Int64} : mj_upL L k b v k b = v := by rw [mj_upL_eq]; exact pk_uLs
theorem mj_upL_of {L : mj_L} {k b i : Nat} {v : Int64} (h : i ≠ b) : mj_upL L k b v k i = L k i := by rw [mj_upL_eq]; exact pk_uLn h
theorem mj_upP_at {P : mj_P} {k b : Nat} {v : Option Nat} : mj_upP P k b v k b = v := by rw [mj_upP_eq]; unfold va_up; rw [if_pos rfl]
theorem mj_upP_of {P : mj_P} {k b i : Nat} {v : Option Nat} (h : i ≠ b) : mj_upP P k b v k i = P k i := by rw [mj_upP_eq]; unfold va_up; rw [if_neg h]
theorem mj_s34 (C : mj_Cx p s m args meth c D ca base mm) (fF : mj_fcF) (fK : mj_fcK) (fS : mj_fcS) (hH : mj_H D ca base σ H) (hS : va_S (mj_A base) s.heap H locs) (hs : mj_sh k = 10 + a) (hk : k < σ.1) (ck : mj_ckop mm pc 34 a b x is = true) {v : Int32}
    (h : ∀ (H1 : Heap) (locs1 : List Loc), mj_H D ca base (σ.1, mj_upI σ.2.1 k b v, σ.2.2) H1 → va_S (mj_A base) s.heap H1 locs1 → W p l e R s m args below meth c H1 locs1 cells slots Qf (F0 m (mj_pc is) ls rest)) : W p l e R s m args below meth c H locs cells slots Qf (F0 m pc ls (.int v :: .ref (base + k) :: rest)) := by
  simp only [mj_ckop, Bool.and_eq_true, decide_eq_true_eq, List.contains_iff_mem] at ck
  obtain ⟨⟨⟨hm, ck⟩, ht⟩, hf⟩ := ck
  obtain ⟨k1, k2⟩ := mj_df_ok ck
  rw [k2] at h
  refine mj_pf C fF fK fS hH hS hs hk hm k1 hf (τ := (σ.1, mj_upI σ.2.1 k b v, σ.2.2)) rfl (by rw [mj_fv_i (by omega)]; show Value.int (mj_upI σ.2.1 k b v k b) = _; rw [mj_upI_at]) (fun i hi => mj_fv_congr (mj_upI_of hi) rfl rfl) (fun j hj => mj_ce_congr (mj_upI_ne hj) rfl rfl) (fun t t0 _ _ _ => ?_) h
  rw [t0 ht]
  exact ⟨rfl, rfl⟩
theorem mj_s35 (C : mj_Cx p s m args meth c D ca base mm) (fF : mj_fcF) (fK : mj_fcK) (fS : mj_fcS) (hH : mj_H D ca base σ H) (hS : va_S (mj_A base) s.heap H locs) (hs : mj_sh k = 10 + a) (hk : k < σ.1) (ck : mj_ckop mm pc 35 a b x is = true) {v : Int32} (hv : v = 0 ∨ v = 1)
    (h : ∀ (H1 : Heap) (locs1 : List Loc), mj_H D ca base (σ.1, mj_upI σ.2.1 k b v, σ.2.2) H1 → va_S (mj_A base) s.heap H1 locs1 → W p l e R s m args below meth c H1 locs1 cells slots Qf (F0 m (mj_pc is) ls rest)) : W p l e R s m args below meth c H locs cells slots Qf (F0 m pc ls (.int v :: .ref (base + k) :: rest)) := by
  simp only [mj_ckop, Bool.and_eq_true, decide_eq_true_eq, List.contains_iff_mem] at ck
  obtain ⟨⟨⟨hm, ck⟩, ht⟩, hf⟩ := ck
  obtain ⟨k1, k2⟩ := mj_df_ok ck
  rw [k2] at h
  refine mj_pf C fF fK fS hH hS hs hk hm k1 hf (τ := (σ.1, mj_upI σ.2.1 k b v, σ.2.2)) rfl (by rw [mj_fv_i (by omega)]; show Value.int (mj_upI σ.2.1 k b v k b) = _; rw [mj_upI_at]) (fun i hi => mj_fv_congr (mj_upI_of hi) rfl rfl) (fun j hj => mj_ce_congr (mj_upI_ne hj) rfl rfl) (fun t _ t1 _ _ => ?_) h
  rw [t1 ht]
  rcases hv with rfl | rfl
  · exact ⟨rfl, rfl⟩
  · exact ⟨rfl, rfl⟩
theorem mj_s36 (C : mj_Cx p s m args meth c D ca base mm) (fF : mj_fcF) (fK : mj_fcK) (fS : mj_fcS) (hH : mj_H D ca base σ H) (hS : va_S (mj_A base) s.heap H locs) (hs : mj_sh k = 10 + a) (hk : k < σ.1) (ck : mj_ckop mm pc 36 a b x is = true) {v : Int64}
    (h : ∀ (H1 : Heap) (locs1 : List Loc), mj_H D ca base (σ.1, σ.2.1, mj_upL σ.2.2.1 k b v, σ.2.2.2) H1 → va_S (mj_A base) s.heap H1 locs1 → W p l e R s m args below meth c H1 locs1 cells slots Qf (F0 m (mj_pc is) ls rest)) : W p l e R s m args below meth c H locs cells slots Qf (F0 m pc ls (.long v :: .ref (base + k) :: rest)) := by
  simp only [mj_ckop, Bool.and_eq_true, decide_eq_true_eq, List.contains_iff_mem] at ck
  obtain ⟨⟨⟨hm, ck⟩, ht⟩, hf⟩ := ck
  obtain ⟨k1, k2⟩ := mj_df_ok ck
  rw [k2] at h
  refine mj_pf C fF fK fS hH hS hs hk hm k1 hf (τ := (σ.1, σ.2.1, mj_upL σ.2.2.1 k b v, σ.2.2.2)) rfl (by rw [mj_fv_l ht]; show Value.long (mj_upL σ.2.2.1 k b v k b) = _; rw [mj_upL_at]) (fun i hi => mj_fv_congr rfl (mj_upL_of hi) rfl) (fun j hj => mj_ce_congr rfl (mj_upL_ne hj) rfl) (fun t _ _ t2 _ => ?_) h
  rw [t2 ht]
  exact ⟨rfl, rfl⟩
theorem mj_s37 (C : mj_Cx p s m args meth c D ca base mm) (fF : mj_fcF) (fK : mj_fcK) (fS : mj_fcS) (hH : mj_H D ca base σ H) (hS : va_S (mj_A base) s.heap H locs) (hs : mj_sh k = 10 + a) (hk : k < σ.1) (ck : mj_ckop mm pc 37 a b x is = true) {v : Nat}
    (h : ∀ (H1 : Heap) (locs1 : List Loc), mj_H D ca base (σ.1, σ.2.1, σ.2.2.1, mj_upP σ.2.2.2 k b (some v)) H1 → va_S (mj_A base) s.heap H1 locs1 → W p l e R s m args below meth c H1 locs1 cells slots Qf (F0 m (mj_pc is) ls rest)) : W p l e R s m args below meth c H locs cells slots Qf (F0 m pc ls (.ref (base + v) :: .ref (base + k) :: rest)) := by
  simp only [mj_ckop, Bool.and_eq_true, decide_eq_true_eq, List.contains_iff_mem] at ck
  obtain ⟨⟨⟨hm, ck⟩, ht⟩, hf⟩ := ck
  obtain ⟨k1, k2⟩ := mj_df_ok ck
  rw [k2] at h
  refine mj_pf C fF fK fS hH hS hs hk hm k1 hf (τ := (σ.1, σ.2.1, σ.2.2.1, mj_upP σ.2.2.2 k b (some v))) rfl (by rw [mj_fv_r ht]; show va_rf ((mj_upP σ.2.2.2 k b (some v) k b).map _) = _; rw [mj_upP_at]; rfl) (fun i hi => mj_fv_congr rfl rfl (mj_upP_of hi)) (fun j hj => mj_ce_congr rfl rfl (mj_upP_ne hj)) (fun t _ _ _ t3 => ?_) h
  rcases t3 ht with ⟨n, rfl⟩ | ⟨z, rfl⟩
  · exact ⟨rfl, rfl⟩
  · exact ⟨rfl, rfl⟩
theorem mj_s38 (C : mj_Cx p s m args meth c D ca base mm) (hH : mj_H D ca base σ H) (hs : mj_sh k = 1) (hk : k < σ.1) (ck : mj_ckop mm pc 38 a b x is = true) {i : Int32} (hi : vp_in i (mj_ln k))
    (h : W p l e R s m args below meth c H locs cells slots Qf (F0 m (mj_pc is) ls (.int (σ.2.1 k i.toNatClampNeg) :: rest))) : W p l e R s m args below meth c H locs cells slots Qf (F0 m pc ls (.int i :: .ref (base + k) :: rest)) := by
  obtain ⟨hx, hb, -, -, -, hK, -⟩ := C
  obtain ⟨k1, k2⟩ := mj_df_ok ck
  rw [k2] at h
  exact va_iald hx hb hK hH.1 k 0 (by rw [mj_wd_get hk, mj_ce_1 hs]) rfl hi k1 h
theorem mj_s39 (C : mj_Cx p s m args meth c D ca base mm) (hH : mj_H D ca base σ H) (hs : mj_sh k = 2) (hk : k < σ.1) (ck : mj_ckop mm pc 39 a b x is = true) {i : Int32} (hi : vp_in i (mj_ln k))
    (h : W p l e R s m args below meth c H locs cells slots Qf (F0 m (mj_pc is) ls (.long (σ.2.2.1 k i.toNatClampNeg) :: rest))) : W p l e R s m args below meth c H locs cells slots Qf (F0 m pc ls (.int i :: .ref (base + k) :: rest)) := by
  obtain ⟨hx, hb, -, -, -, hK, -⟩ := C
  obtain ⟨k1, k2⟩ := mj_df_ok ck
  rw [k2] at h
  exact va_lald hx hb hK hH.1 k 1 (by rw [mj_wd_get hk, mj_ce_2 hs]) rfl hi k1 h
theorem mj_s40 (C : mj_Cx p s m args meth c D ca base mm) (hH : mj_H D ca base σ H) (hs : mj_sh k = 3) (hk : k < σ.1) (ck : mj_ckop mm pc 40 a b x is = true) {i : Int32} (hi : vp_in i (mj_ln k))
    (h : W p l e R s m args below meth c H locs cells slots Qf (F0 m (mj_pc is) ls (.int (σ.2.1 k i.toNatClampNeg) :: rest))) : W p l e R s m args below meth c H locs cells slots Qf (F0 m pc ls (.int i :: .ref (base + k) :: rest)) := by
  obtain ⟨hx, hb, -, -, -, hK, -⟩ := C
  obtain ⟨k1, k2⟩ := mj_df_ok ck
  rw [k2] at h
  exact va_bald hx hb hK hH.1 k 2 (by rw [mj_wd_get hk, mj_ce_3 hs]) rfl hi k1 h
theorem mj_s41 (C : mj_Cx p s m args meth c D ca base mm) (hH : mj_H D ca base σ H) (hs : mj_sh k = 4) (hk : k < σ.1) (ck : mj_ckop mm pc 41 a b x is = true) {i : Int32} (hi : vp_in i (mj_ln k))
    (h : W p l e R s m args below meth c H locs cells slots Qf (F0 m (mj_pc is) ls (.int (σ.2.1 k i.toNatClampNeg) :: rest))) : W p l e R s m args below meth c H locs cells slots Qf (F0 m pc ls (.int i :: .ref (base + k) :: rest)) := by
  obtain ⟨hx, hb, -, -, -, hK, -⟩ := C
  obtain ⟨k1, k2⟩ := mj_df_ok ck
  rw [k2] at h
  exact va_zald hx hb hK hH.1 k 3 (by rw [mj_wd_get hk, mj_ce_4 hs]) rfl hi k1 h
/-- a cell that was stored to -/
theorem mj_Hst (hH : mj_H D ca base σ H) {H1 : Heap} (hz : H1.size = H.size) {E : va_E} (hP : va_P D vwCl ((mj_wd ca base σ).set k (base + k, E)) H1) (hn1 : τ.1 = σ.1) (hE : mj_ce ca base τ k = E) (ho : ∀ j, j ≠ k → mj_ce ca base τ j = mj_ce ca base σ j) : mj_H D ca base τ H1 := by
  rw [mj_wd_set (τ := τ) hn1 hE ho] at hP
  refine ⟨hP, ?_⟩
  rcases hH.2 with q | q
  · exact Or.inl (by rw [hz, hn1]; exact q)
  · exact Or.inr (by rw [hz, hn1]; exact q)
theorem mj_s42 (C : mj_Cx p s m args meth c D ca base mm) (hH : mj_H D ca base σ H) (hS : va_S (mj_A base) s.heap H locs) (hs : mj_sh k = 1) (hk : k < σ.1) (ck : mj_ckop mm pc 42 a b x is = true) {i v : Int32} (hi : vp_in i (mj_ln k))
    (h : ∀ (H1 : Heap) (locs1 : List Loc), mj_H D ca base (σ.1, mj_upI σ.2.1 k i.toNatClampNeg v, σ.2.2) H1 → va_S (mj_A base) s.heap H1 locs1 → W p l e R s m args below meth c H1 locs1 cells slots Qf (F0 m (mj_pc is) ls rest)) : W p l e R s m args below meth c H locs cells slots Qf (F0 m pc ls (.int v :: .int i :: .ref (base + k) :: rest)) := by
  obtain ⟨hx, hb, -, -, -, hK, -⟩ := C
  obtain ⟨k1, k2⟩ := mj_df_ok ck
  rw [k2] at h
  exact mj_riast hx hb hK hH.1 (mj_wd_D ca base σ) hS k 0 (by rw [mj_wd_get hk, mj_ce_1 hs]) rfl hi k1 (fun H1 locs1 hz hP hS1 => h H1 locs1 (mj_Hst hH (k := k) hz hP rfl (by rw [mj_ce_1 hs]; show Sum.inl (ca 0, mj_ln k, Sum.inl (mj_upI σ.2.1 k i.toNatClampNeg v k)) = _; rw [mj_upI_eq]) (fun j hj => mj_ce_congr (mj_upI_ne hj) rfl rfl)) hS1)
theorem mj_s43 (C : mj_Cx p s m args meth c D ca base mm) (hH : mj_H D ca base σ H) (hS : va_S (mj_A base) s.heap H locs) (hs : mj_sh k = 2) (hk : k < σ.1) (ck : mj_ckop mm pc 43 a b x is = true) {i : Int32} {v : Int64} (hi : vp_in i (mj_ln k))
    (h : ∀ (H1 : Heap) (locs1 : List Loc), mj_H D ca base (σ.1, σ.2.1, mj_upL σ.2.2.1 k i.toNatClampNeg v, σ.2.2.2) H1 → va_S (mj_A base) s.heap H1 locs1 → W p l e R s m args below meth c H1 locs1 cells slots Qf (F0 m (mj_pc is) ls rest)) : W p l e R s m args below meth c H locs cells slots Qf (F0 m pc ls (.long v :: .int i :: .ref (base + k) :: rest)) := by
  obtain ⟨hx, hb, -, -, -, hK, -⟩ := C
  obtain ⟨k1, k2⟩ := mj_df_ok ck
  rw [k2] at h
  exact mj_rlast hx hb hK hH.1 (mj_wd_D ca base σ) hS k 1 (by rw [mj_wd_get hk, mj_ce_2 hs]) rfl hi k1 (fun H1 locs1 hz hP hS1 => h H1 locs1 (mj_Hst hH (k := k) hz hP rfl (by rw [mj_ce_2 hs]; show Sum.inl (ca 1, mj_ln k, Sum.inr (Sum.inl (mj_upL σ.2.2.1 k i.toNatClampNeg v k))) = _; rw [mj_upL_eq]) (fun j hj => mj_ce_congr rfl (mj_upL_ne hj) rfl)) hS1)
theorem mj_s44 (C : mj_Cx p s m args meth c D ca base mm) (hH : mj_H D ca base σ H) (hS : va_S (mj_A base) s.heap H locs) (hs : mj_sh k = 3) (hk : k < σ.1) (ck : mj_ckop mm pc 44 a b x is = true) {i v : Int32} (hi : vp_in i (mj_ln k))
    (h : ∀ (H1 : Heap) (locs1 : List Loc), mj_H D ca base (σ.1, mj_upI σ.2.1 k i.toNatClampNeg (vp_nar .byte v), σ.2.2) H1 → va_S (mj_A base) s.heap H1 locs1 → W p l e R s m args below meth c H1 locs1 cells slots Qf (F0 m (mj_pc is) ls rest)) : W p l e R s m args below meth c H locs cells slots Qf (F0 m pc ls (.int v :: .int i :: .ref (base + k) :: rest)) := by
  obtain ⟨hx, hb, -, -, -, hK, -⟩ := C
  obtain ⟨k1, k2⟩ := mj_df_ok ck
  rw [k2] at h
  exact mj_rbast hx hb hK hH.1 (mj_wd_D ca base σ) hS k 2 (by rw [mj_wd_get hk, mj_ce_3 hs]) rfl hi k1 (fun H1 locs1 hz hP hS1 => h H1 locs1 (mj_Hst hH (k := k) hz hP rfl (by rw [mj_ce_3 hs]; show Sum.inl (ca 2, mj_ln k, Sum.inl (mj_upI σ.2.1 k i.toNatClampNeg (vp_nar .byte v) k)) = _; rw [mj_upI_eq]) (fun j hj => mj_ce_congr (mj_upI_ne hj) rfl rfl)) hS1)
theorem mj_s45 (C : mj_Cx p s m args meth c D ca base mm) (hH : mj_H D ca base σ H) (hS : va_S (mj_A base) s.heap H locs) (hs : mj_sh k = 4) (hk : k < σ.1) (ck : mj_ckop mm pc 45 a b x is = true) {i v : Int32} (hi : vp_in i (mj_ln k))
    (h : ∀ (H1 : Heap) (locs1 : List Loc), mj_H D ca base (σ.1, mj_upI σ.2.1 k i.toNatClampNeg (vp_nar .boolean v), σ.2.2) H1 → va_S (mj_A base) s.heap H1 locs1 → W p l e R s m args below meth c H1 locs1 cells slots Qf (F0 m (mj_pc is) ls rest)) : W p l e R s m args below meth c H locs cells slots Qf (F0 m pc ls (.int v :: .int i :: .ref (base + k) :: rest)) := by
  obtain ⟨hx, hb, -, -, -, hK, -⟩ := C
  obtain ⟨k1, k2⟩ := mj_df_ok ck
  rw [k2] at h
  exact mj_rzast hx hb hK hH.1 (mj_wd_D ca base σ) hS k 3 (by rw [mj_wd_get hk, mj_ce_4 hs]) rfl hi k1 (fun H1 locs1 hz hP hS1 => h H1 locs1 (mj_Hst hH (k := k) hz hP rfl (by rw [mj_ce_4 hs]; show Sum.inl (ca 3, mj_ln k, Sum.inl (mj_upI σ.2.1 k i.toNatClampNeg (vp_nar .boolean v) k)) = _; rw [mj_upI_eq]) (fun j hj => mj_ce_congr (mj_upI_ne hj) rfl rfl)) hS1)
theorem mj_s46 (C : mj_Cx p s m args meth c D ca base mm) (hH : mj_H D ca base σ H) (h1 : 1 ≤ mj_sh k) (h4 : mj_sh k ≤ 4) (hk : k < σ.1) (ck : mj_ckop mm pc 46 a b x is = true)
    (h : W p l e R s m args below meth c H locs cells slots Qf (F0 m (mj_pc is) ls (.int (nI (mj_ln k)) :: rest))) : W p l e R s m args below meth c H locs cells slots Qf (F0 m pc ls (.ref (base + k) :: rest)) := by
  obtain ⟨hx, hb, -, -, -, hK, -⟩ := C
  obtain ⟨k1, k2⟩ := mj_df_ok ck
  rw [k2] at h
  rcases (by omega : mj_sh k = 1 ∨ mj_sh k = 2 ∨ mj_sh k = 3 ∨ mj_sh k = 4) with q | q | q | q
  · exact va_alen (x := (mj_ln k, .inl (σ.2.1 k))) hx hb hK hH.1 k 0 (by rw [mj_wd_get hk, mj_ce_1 q]) rfl rfl k1 h
  · exact va_alen (x := (mj_ln k, .inr (.inl (σ.2.2.1 k)))) hx hb hK hH.1 k 1 (by rw [mj_wd_get hk, mj_ce_2 q]) rfl rfl k1 h
  · exact va_alen (x := (mj_ln k, .inl (σ.2.1 k))) hx hb hK hH.1 k 2 (by rw [mj_wd_get hk, mj_ce_3 q]) rfl rfl k1 h
  · exact va_alen (x := (mj_ln k, .inl (σ.2.1 k))) hx hb hK hH.1 k 3 (by rw [mj_wd_get hk, mj_ce_4 q]) rfl rfl k1 h
theorem mj_s54 (C : mj_Cx p s m args meth c D ca base mm) (fA : mj_fcA) (hH : mj_H D ca base σ H) (hS : va_S (mj_A base) s.heap H locs) (hlr : mj_LR (mj_cv base ext) lo ls (mj_ml mm)) {d s0 : Nat} (hd : mj_sh d = 1) (hdn : d < σ.1) (hs : mj_sh s0 = 1) (hsn : s0 < σ.1) (ck : mj_ckop mm pc 54 a b x is = true) {n dp sp : Int32} (h1 : ¬ sp < 0) (h2 : ¬ dp < 0) (h3 : ¬ n < 0) (h4 : sp.toNatClampNeg + n.toNatClampNeg ≤ mj_ln s0) (h5 : dp.toNatClampNeg + n.toNatClampNeg ≤ mj_ln d) (hc : (rest.map fun v => v.category).sum ≤ 8) (hR1 : 1 ≤ R.frames) (hR2 : 100 ≤ R.locals)
    (h : ∀ (H1 : Heap) (locs1 : List Loc), mj_H D ca base (σ.1, mj_seI σ.2.1 d (va_cpy (σ.2.1 s0) (σ.2.1 d) sp.toNatClampNeg dp.toNatClampNeg n.toNatClampNeg), σ.2.2) H1 → va_S (mj_A base) s.heap H1 locs1 → W p l e R s m args below meth c H1 locs1 cells slots Qf (F0 m (mj_pc is) ls rest)) : W p l e R s m args below meth c H locs cells slots Qf (F0 m pc ls (.int n :: .int dp :: .ref (base + d) :: .int sp :: .ref (base + s0) :: rest)) := by
  obtain ⟨hx, hb, hml, hown, hts, hK, -⟩ := C
  simp only [mj_ckop, Bool.and_eq_true, List.contains_iff_mem] at ck
  obtain ⟨hm, ck⟩ := ck
  obtain ⟨k1, k2⟩ := mj_df_ok ck
  rw [k2] at h
  have hw : nativeFrameWords "java/lang/System" "arraycopy" 5 + 11 ≤ 92 := by decide +kernel
  exact mj_rcopy hx hb (by rw [hml]; exact hlr.2.1.symm) hown (hts _ (fA.1 _ hm)) (hts _ fA.2.1) (hts _ fA.2.2.1) (hts _ fA.2.2.2) hK hH.1 (mj_wd_D ca base σ) hS s0 d 0 (by rw [mj_wd_get hsn, mj_ce_1 hs]) (by rw [mj_wd_get hdn, mj_ce_1 hd]) rfl h1 h2 h3 h4 h5 hR1 (by omega) k1 (fun H1 locs1 hz hP hS1 => h H1 locs1 (mj_Hst hH (k := d) hz hP rfl (by rw [mj_ce_1 hd]; show Sum.inl (ca 0, mj_ln d, Sum.inl (mj_seI σ.2.1 d (va_cpy (σ.2.1 s0) (σ.2.1 d) sp.toNatClampNeg dp.toNatClampNeg n.toNatClampNeg) d)) = _; rw [mj_seI_eq]) (fun j hj => mj_ce_congr (mj_seI_ne hj) rfl rfl)) hS1)
theorem mj_s51 (C : mj_Cx p s m args meth c D ca base mm) (fO : mj_fcO) (hlr : mj_LR (mj_cv base ext) lo ls (mj_ml mm)) (ck : mj_ckop mm pc 51 a b x is = true) {q : Nat} (hc : (rest.map fun v => v.category).sum ≤ 8) (hR1 : 1 ≤ R.frames) (hR2 : 100 ≤ R.locals)
    (h : W p l e R s m args below meth c H locs cells slots Qf (F0 m (mj_pc is) ls rest)) : W p l e R s m args below meth c H locs cells slots Qf (F0 m pc ls (.ref q :: rest)) := by
  obtain ⟨hx, hb, hml, hown, hts, hK, -⟩ := C
  simp only [mj_ckop, Bool.and_eq_true, List.contains_iff_mem] at ck
  obtain ⟨hm, ck⟩ := ck
  obtain ⟨k1, k2⟩ := mj_df_ok ck
  rw [k2] at h
  exact W.objInit hx hb hown (hts _ (fO.1 _ hm)) (hts _ fO.2.1) (hts _ fO.2.2) rfl (by rw [hml]; exact hlr.2.1) rfl k1 hR1 (by show 2 * 0 + _ + 12 ≤ _; omega) h
end S
