/-! soundness: a method's contract out of its run -/
theorem mj_ll_none (cv : Value → Value) : ∀ (n o : Nat), mj_ll cv (List.replicate n none) o = []
  | 0, _ => rfl
  | n + 1, o => by rw [List.replicate_succ]; exact mj_ll_none cv n (o + 1)
theorem mj_la1 {w : Value} {r : List Value} {o : Nat} (h : w.category = 1) : lv_args o (w :: r) = (o, w) :: lv_args (o + 1) r := by
  simp only [lv_args]
  rw [if_neg (by omega)]
theorem mj_la2 {w : Value} {r : List Value} {o : Nat} (h : w.category = 2) : lv_args o (w :: r) = (o, w) :: lv_args (o + 2) r := by
  simp only [lv_args]
  rw [if_pos h]
theorem mj_ll_args (base : Nat) (ext : Nat → Nat) (n : Nat) : ∀ (as : List Value) (o : Nat), mj_ll (mj_cv base ext) (mj_ar as ++ List.replicate n none) o = lv_args o (as.map (mj_cv base ext))
  | [], o => mj_ll_none _ n o
  | v :: t, o => by
    have ih1 := mj_ll_args base ext n t (o + 1)
    have ih2 := mj_ll_args base ext n t (o + 2)
    rw [List.map_cons]
    cases v
    case long x =>
      rw [mj_la2 rfl, ← ih2]
      rfl
    case double x =>
      rw [mj_la2 rfl, ← ih2]
      rfl
    all_goals
      rw [mj_la1 (by rw [mj_cv_cat]; rfl), ← ih1]
      rfl
theorem mj_sl_len (base : Nat) (ext : Nat → Nat) : ∀ (as : List Value), (lg_sl (as.map (mj_cv base ext))).length = (mj_ar as).length
  | [] => rfl
  | v :: t => by
    have ih := mj_sl_len base ext t
    have e : ∀ (w : Value) (r : List Value), lg_sl (w :: r) = (if w.category = 2 then [Slot.val w, .second] else [.val w]) ++ lg_sl r := fun w r => by simp [lg_sl]
    rw [List.map_cons, e, List.length_append, ih]
    rw [mj_cv_cat]
    cases v <;> simp [mj_ar, Value.category] <;> omega
theorem mj_entry (base : Nat) (ext : Nat → Nat) {as : List Value} {n : Nat} (h : (mj_ar as).length ≤ n) : mj_LR (mj_cv base ext) (mj_in n as) ((lg_sl (as.map (mj_cv base ext)) ++ List.replicate (n - (lg_sl (as.map (mj_cv base ext))).length) Slot.unset).toArray) n := by
  have h1 := lv_entry (as.map (mj_cv base ext)) (n := n) (by rw [mj_sl_len]; exact h)
  refine ⟨?_, ?_⟩
  · unfold mj_in
    rw [List.length_append, List.length_replicate]
    omega
  · rw [show mj_ll (mj_cv base ext) (mj_in n as) 0 = lv_args 0 (as.map (mj_cv base ext)) from mj_ll_args base ext _ as 0]
    exact h1
def mj_okm : Prop := ∀ mm, mm < 324 → mj_ckL mm (mj_code mm 0) = true ∧ mj_pc (mj_code mm 0) = 0 ∧ plainName (mj_my mm).cls = true ∧ (mj_my mm).cls = mj_cn (mj_mo mm)
theorem mj_run_nil {Φ : mj_F} {code : Nat → List mj_O} {Q : mj_Q} {lo : mj_Lo} {st : List Value} {σ : mj_S} {bc bs : Nat} (h : mj_run Φ code Q [] lo st σ bc bs) : False := by
  refine h (fun cs _ _ _ _ _ => cs ≠ []) (fun cs lo st σ bc bs h1 => ?_) rfl
  cases cs with
  | nil => exact h1.elim
  | cons o is => exact List.cons_ne_nil o is
theorem mj_code_out {mm : Nat} (h : mj_codel.length ≤ mm) : mj_code mm 0 = [] := by
  unfold mj_code
  rw [List.getD_eq_getElem?_getD, List.getElem?_eq_none h]
  rfl
theorem mj_ev_out {d mm : Nat} {as : List Value} {σ : mj_S} {Q : mj_Q} (hcl : mj_codel.length = 324) (h : mj_ev d mm as σ Q) : mm < 324 := by
  cases d with
  | zero => exact h.elim
  | succ d =>
    rcases Nat.lt_or_ge mm 324 with q | q
    · exact q
    · have h2 := h.2
      rw [mj_code_out (by omega)] at h2
      exact (mj_run_nil h2).elim
/-- what the small machine comes to, the machine comes to -/
theorem mj_sound (FC : mj_FC) (hlb : mj_lnb) (okm : mj_okm) (hcl : mj_codel.length = 324) {l : Launch} (hl : l.stackTraces = false) {D : va_G} {ca : Nat → ClassId} {base : Nat} {ext : Nat → Nat} : ∀ (d mm : Nat) (as : List Value) (σ : mj_S) (Q : mj_Q), mj_ev d mm as σ Q → mj_Ct l D ca base ext d mm as σ Q
  | 0, _, _, _, _, h => h.elim
  | d + 1, mm, as, σ, Q, h => by
    have hmm : mm < 324 := mj_ev_out hcl h
    obtain ⟨har, hrun⟩ := h
    obtain ⟨ok1, ok2, ok3, ok4⟩ := okm mm hmm
    unfold mj_Ct
    have body : ∀ p e s m args below meth c s₁, BodyLoose p l (mj_my mm) (headSpec (mj_ws mm) (mj_rm (d + 1) mm)) (mj_mb mm) (mj_ml mm) (mj_mr mm) e s m args below meth c s₁ → c.maxLocals = mj_ml mm → c.exceptionTable.toList = tableOf (mj_hh mm) → mj_Pc D ca base ext as σ args s →
        W p l e (headSpec (mj_ws mm) (mj_rm (d + 1) mm)).room s m args below meth c s.heap [] 0 0 (vx_MQ below (mj_Qc D ca base ext Q) (mj_XC D ca base Q) args s (mj_mc mm) (mj_ms mm) (mj_A base)) (entryFrame m args (mj_ml mm)) := by
      intro p e s m args below meth c s₁ B hml hout hv
      obtain ⟨rfl, hH, hK, hca, hE⟩ := hv
      have hw := atoms_spec (ws := mj_ws mm) B.pre
      have hbs : base ≤ s.heap.size := by
        rcases hH.2 with q | ⟨-, q⟩ <;> omega
      have C : mj_Cx p s m (as.map (mj_cv base ext)).toArray meth c D ca base mm := ⟨B.exec, B.bytes, hml, by rw [← ok4]; exact findClass_of_methodNamed B.named, fun w h => hw w (List.mem_cons_of_mem _ h), hK, B.returns, B.notSynchronized, (name_of_methodNamed B.named B.method).1, hbs, hout⟩
      have hcl2 := mj_closed (p := p) (e := e) (below := below) (R := (headSpec (mj_ws mm) (mj_rm (d + 1) mm)).room) (Q := Q) (Φ := mj_ev d) (d := d) FC hlb ok1 C hw hca hE hl (fun a _ as σ Q2 h => mj_sound FC hlb okm hcl hl d a as σ Q2 h) (fun i σ Q2 h => absurd (mj_ev_out hcl h) (by decide)) (fun σ Q2 h => absurd (mj_ev_out hcl h) (by decide)) (by show d + 9 ≤ d + 1 + 8; omega) (by show 100 * d + 300 ≤ 100 * (d + 1) + 200; omega) rfl rfl
      have h9 := hrun _ hcl2 ⟨[], rfl⟩ s.heap [] 0 0 _ (mj_entry base ext (Nat.le_of_ble_eq_true har)) hH va_S.rf (by show 0 + mj_mc mm ≤ mj_mc mm; omega) (by show 0 + mj_ms mm ≤ mj_ms mm; omega)
      rw [ok2] at h9
      rw [lg_entry_eq]
      exact h9
    by_cases hem : mj_hh mm = []
    · refine vx_ofW (cc := mj_mb mm) (maxL := mj_ml mm) (ret := mj_mr mm) ok3 (mj_ws_c hem) ?_
      intro p e s m args below meth c s₁ B hml hout hv
      exact body p e s m args below meth c s₁ B hml (by rw [hem]; exact List.eq_nil_iff_forall_not_mem.mpr hout) hv
    · have hws : mj_ws mm = Cond.codeWith (mj_my mm) (mj_mb mm) (mj_ml mm) (mj_mr mm) (mj_hh mm) :: mj_mw := by
        unfold mj_ws
        rw [mj_cw_h hem]
      refine vx_ofWH (cc := mj_mb mm) (maxL := mj_ml mm) (ret := mj_mr mm) ok3 hws ?_
      intro p e s m args below meth c s₁ B hml hv
      have hw := atoms_spec (ws := mj_ws mm) B.pre
      exact body p e s m args below meth c s₁ B hml (vx_table (x := mj_my mm) B (hw _ (by rw [hws]; exact List.mem_cons_self))) hv
