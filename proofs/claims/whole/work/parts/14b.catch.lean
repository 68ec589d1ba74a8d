/-! soundness: calls whose throws are caught (vx_catch is the printed names' own row) -/
section K
variable {p : Program} {l : Launch} {e : Env} {R : Room} {s : State} {m : MethodId} {args : Array Value} {below : List Frame} {meth : Method} {c : Code} {H : Heap} {locs : List Loc} {cells slots : Nat} {Q : State → Prop} {ls : Array Slot} {rest : List Value} {pc : Nat}
/-- caught by the row x of this method's table; the rows ahead don't take it -/
theorem vx_catch {own name : String} {E : String} {ce : Cell} {q : Addr} (hown : s.vm.findClass own = some m.cls) (pre : List ExceptionTableEntry) (x : ExceptionTableEntry) (suf : List ExceptionTableEntry) (hsplit : c.exceptionTable.toList = pre ++ x :: suf)
    (hpass : ∀ z ∈ pre, covers z pc = false ∨ (z.catchType ≠ 0 ∧ ∃ nm : String, (Cond.classLink own z.catchType nm).before args s = true ∧ va_Nc E nm s)) (hx : covers x pc = true) (h0 : x.catchType ≠ 0)
    (hlink : (Cond.classLink own x.catchType name).before args s = true) (hcast : (Cond.castable E name).before args s = true) (hcell : H[q]? = some ce) (hv : ce.vm = .none) (hcl : s.vm.findClass E = some ce.cls)
    (kk : W p l e R s m args below meth c H locs cells slots Q (F0 m x.handlerPc ls [.ref q])) : vx_W p l e R s m args below meth c H locs cells slots Q (F0 m pc ls rest) q := by
  intro T hT X
  have hpl : e.platform.magicAccessors = ({} : Platform).magicAccessors := by rw [X.admits.platform]
  obtain ⟨c3, c4, hc3, hc4, hasg⟩ := Cond.castable_spec hcast
  cases Option.some.inj (hc3.symm.trans hcl)
  obtain ⟨c5, hc5, hcl5⟩ := Cond.classLink_spec hown hlink e.platform hpl
  cases Option.some.inj (hc4.symm.trans hc5)
  obtain ⟨vm', X', st⟩ := Stand.thenCaughtThrough X q (g := F0 m pc ls rest) rfl (Steps.refl _) (by rw [hT]; exact hcell) (by rw [hv]; rfl) (by obtain ⟨k9, h9, -⟩ := Vm.findClass_spec hcl; exact ⟨k9, h9⟩) pre x suf hsplit
    (fun z hz => by
      rcases hpass z hz with h | ⟨hz0, nm, hl1, hn1⟩
      · exact Or.inl h
      · obtain ⟨c6, hc6, hcl6⟩ := Cond.classLink_spec hown hl1 e.platform hpl
        obtain ⟨a8, b8, h1, h2, h3⟩ := hn1
        cases Option.some.inj (h1.symm.trans hcl)
        cases Option.some.inj (h2.symm.trans hc6)
        exact Or.inr ⟨hz0, _, hcl6, h3⟩) hx (Or.inr ⟨h0, c4, hcl5, hasg⟩)
  obtain ⟨t, a1, b1⟩ := kk (T.setVm vm') hT X'
  exact ⟨t, st.trans a1, b1⟩
end K
theorem mj_hk_at {mm pc : Nat} {q : Nat × Nat × Nat} : ∀ {L : List (Nat × Nat × Nat)} {M : List (Nat × Nat × Nat × Nat)}, mj_hk mm pc L M = true → q ∈ L → ∃ pre z suf, M = pre ++ z :: suf ∧ mj_hz mm pc q z = true ∧ ∀ y ∈ pre, ∃ q', q'.1 ≠ q.1 ∧ mj_hz mm pc q' y = true
  | [], _, _, hq => by cases hq
  | q0 :: r, [], h, _ => by simp [mj_hk] at h
  | q0 :: r, z :: t, h, hq => by
    simp only [mj_hk, Bool.and_eq_true, List.all_eq_true, decide_eq_true_eq] at h
    obtain ⟨⟨h1, h2⟩, h3⟩ := h
    rcases List.mem_cons.mp hq with rfl | hq
    · exact ⟨[], z, t, rfl, h1, fun y hy => by cases hy⟩
    · obtain ⟨pre, z', suf, e, g1, g2⟩ := mj_hk_at h3 hq
      refine ⟨z :: pre, z', suf, by rw [e]; rfl, g1, fun y hy => ?_⟩
      rcases List.mem_cons.mp hy with rfl | hy
      · exact ⟨q0, fun e => h2 q hq e.symm, h1⟩
      · exact g2 y hy
theorem mj_hz_ok {mm pc : Nat} {q : Nat × Nat × Nat} {z : Nat × Nat × Nat × Nat} (h : mj_hz mm pc q z = true) : z.1 ≤ pc ∧ pc < z.2.1 ∧ z.2.2.2 ≠ 0 ∧ q.1 < 2 ∧ (mj_mo mm, q.1, z.2.2.2) ∈ mj_pH ∧ mj_tg mm q.2.1 = true ∧ ((decode (mj_mb mm) z.2.2.1 = .ok (.astore q.2.2, 2) ∧ q.2.1 = z.2.2.1 + 2) ∨ (q.2.2 = 3 ∧ decode (mj_mb mm) z.2.2.1 = .ok (.astore_n 3, 1) ∧ q.2.1 = z.2.2.1 + 1)) := by
  simp only [mj_hz, Bool.and_eq_true, Bool.or_eq_true, decide_eq_true_eq, List.contains_iff_mem, beq_iff_eq] at h
  obtain ⟨⟨⟨⟨⟨⟨a1, a2⟩, a3⟩, a4⟩, a5⟩, a6⟩, a7⟩ := h
  refine ⟨a1, a2, a3, a4, a5, a6, ?_⟩
  rcases a7 with ⟨b1, b2⟩ | ⟨⟨b0, b1⟩, b2⟩
  · exact Or.inl ⟨mj_dk_ok b1, b2⟩
  · exact Or.inr ⟨b0, mj_dk_ok b1, b2⟩
section S
variable {p : Program} {l : Launch} {e : Env} {R : Room} {s : State} {m : MethodId} {args : Array Value} {below : List Frame} {meth : Method} {c : Code} {H : Heap} {locs : List Loc} {cells slots : Nat} {Qf : State → Prop}
variable {D : va_G} {ca : Nat → ClassId} {base : Nat} {ext : Nat → Nat} {mm : Nat}
variable {is : List mj_O} {lo : mj_Lo} {st rest : List Value} {σ τ : mj_S} {bc bs pc a b x k d : Nat} {ls : Array Slot} {Q : mj_Q}
/-- the store of what was caught: nothing is said of that local from there on -/
theorem mj_LR.no {base : Nat} {ext : Nat → Nat} {lo : mj_Lo} {ls ls' : Array Slot} {nL a : Nat} {w : Value} (h : mj_LR (mj_cv base ext) lo ls nL) (hn : mj_nlo lo a = true)
    (h2 : lv_has ls' nL ((a, w) :: (mj_ll (mj_cv base ext) lo 0).filter (fun q => !(q.1 == a) && !(q.1 + 1 == a && q.2.category == 2)))) : mj_LR (mj_cv base ext) (mj_set lo a none) ls' nL := by
  refine ⟨by rw [mj_set_len]; exact h.1, h2.1, h2.2.1, fun q hq => ?_⟩
  obtain ⟨i, w, hg, rfl⟩ := mj_ll_inv hq
  rw [Nat.zero_add]
  by_cases e : i = a
  · subst e
    cases mj_get_eq hg
  · rw [mj_get_ne e] at hg
    refine h2.2.2 _ (List.mem_cons_of_mem _ (List.mem_filter.mpr ⟨?_, ?_⟩))
    · have h3 := mj_ll_mem (cv := mj_cv base ext) (o := 0) hg
      rw [Nat.zero_add] at h3
      exact h3
    · by_cases e2 : i + 1 = a
      · subst e2
        have h4 := mj_nlo_cat hn hg
        have h5 : ¬ (mj_cv base ext w).category = 2 := by rw [mj_cv_cat]; exact h4
        simp [h5]
      · simp [e, e2]
theorem mj_caught (C : mj_Cx p s m args meth c D ca base mm) (fH : mj_fcH) (hE : mj_X base ext s s.heap) (hlr : mj_LR (mj_cv base ext) lo ls (mj_ml mm)) (hk : mj_hk mm pc (mj_ht b) (mj_hh mm) = true) {q : Nat × Nat × Nat} (hq : q ∈ mj_ht b) (hlt : q.2.2 < lo.length) (hnl : mj_nlo lo q.2.2 = true) {ad : Addr} {ce : Cell} (hcell : H[ad]? = some ce) (hv : ce.vm = .none) (hcl : s.vm.findClass (mj_xn q.1) = some ce.cls)
    (kk : ∀ ls', mj_LR (mj_cv base ext) (mj_set lo q.2.2 none) ls' (mj_ml mm) → W p l e R s m args below meth c H locs cells slots Qf (F0 m q.2.1 ls' [])) : vx_W p l e R s m args below meth c H locs cells slots Qf (F0 m pc ls rest) ad := by
  obtain ⟨hx, hb, hml, hown, hts, -, -, -, -, -, htab⟩ := C
  obtain ⟨pre, z, suf, e1, hz, hpre⟩ := mj_hk_at hk hq
  obtain ⟨z1, z2, z3, z4, z5, z6, z7⟩ := mj_hz_ok hz
  have hnc : ∀ q' : Nat × Nat × Nat, q'.1 < 2 → q'.1 ≠ q.1 → va_Nc (mj_xn q.1) (mj_xn q'.1) s := by
    intro q' h1 h2
    rcases (by omega : (q.1 = 0 ∧ q'.1 = 1) ∨ (q.1 = 1 ∧ q'.1 = 0)) with ⟨h3, h4⟩ | ⟨h3, h4⟩
    · rw [h3, h4]; exact hE.2.2.2.2.2.2.2.2.2.2.1
    · rw [h3, h4]; exact hE.2.2.2.2.2.2.2.2.2.2.2.1
  refine vx_catch (own := mj_cn (mj_mo mm)) (name := mj_xn q.1) (E := mj_xn q.1) (ce := ce) hown (tableOf pre) { startPc := z.1, endPc := z.2.1, handlerPc := z.2.2.1, catchType := z.2.2.2 } (tableOf suf) (by rw [htab, e1]; simp [tableOf]) ?_ ?_ z3 (hts _ (fH _ z5)) (va_Nw.use rfl (hE.2.1 q.1)) hcell hv hcl ?_
  · intro y hy
    simp only [tableOf, List.mem_map] at hy
    obtain ⟨y0, hy0, rfl⟩ := hy
    obtain ⟨q', g1, g2⟩ := hpre y0 hy0
    obtain ⟨w1, w2, w3, w4, w5, -⟩ := mj_hz_ok g2
    exact Or.inr ⟨w3, mj_xn q'.1, hts _ (fH _ w5), hnc q' w4 g1⟩
  · simp [covers, z1, z2]
  · rcases z7 with ⟨k1, k2⟩ | ⟨k0, k1, k2⟩
    · exact lv_astore hx hb k1 hlr.2 (by rw [← hlr.1]; exact hlt) rfl (fun ls' h2 => by
        have h3 := kk ls' (hlr.no hnl h2)
        rw [k2] at h3
        exact h3)
    · exact lv_astore_n hx hb k1 k0.symm hlr.2 (by rw [← hlr.1]; exact hlt) rfl (fun ls' h2 => by
        have h3 := kk ls' (hlr.no hnl h2)
        rw [k2] at h3
        exact h3)
theorem mj_s66 (C : mj_Cx p s m args meth c D ca base mm) (hw : ∀ w ∈ mj_ws mm, w.before args s = true) (fM : mj_fcM) (fQ : mj_fcQ) (fS : mj_fcS) (fK : mj_fcK) (fH : mj_fcH) (hca : mj_cas ca s) (hE : mj_X base ext s s.heap) (hH : mj_H D ca base σ H) (hS : va_S (mj_A base) s.heap H locs) (hlr : mj_LR (mj_cv base ext) lo ls (mj_ml mm)) (ck : mj_ckop mm pc 66 a b x is = true) {As : List Value} {Q2 : mj_Q}
    (hct : mj_Ct l D ca base ext d a (.ref k :: As) σ Q2) (hAs : As.length = mj_mn a) (hs : mj_sh k = 10 + mj_mo a) (hk : k < σ.1) (hcs : mj_cs rest ≤ 8) (hc1 : cells + mj_mc a ≤ R.cells) (hs1 : slots + mj_ms a ≤ R.slots) (hR1 : d + 9 ≤ R.frames) (hR2 : 100 * d + 300 ≤ R.locals)
    (kk : ∀ (v : Option Value) (τ : mj_S) (H1 : Heap) (locs1 : List Loc), Q2 (.inl v) τ → mj_H D ca base τ H1 → va_S (mj_A base) s.heap H1 locs1 → W p l e R s m args below meth c H1 locs1 (cells + mj_mc a) (slots + mj_ms a) Qf (F0 m (mj_pc is) ls ((v.toList ++ rest).map (mj_cv base ext))))
    (kx : ∀ (k : Nat) (τ : mj_S) (H1 : Heap) (locs1 : List Loc) (q : Addr) (ce : Cell), Q2 (.inr k) τ → mj_H D ca base τ H1 → va_S (mj_A base) s.heap H1 locs1 → H1[q]? = some ce → ce.vm = .none → s.vm.findClass (mj_xn k) = some ce.cls → vx_W p l e R s m args below meth c H1 locs1 (cells + mj_mc a) (slots + mj_ms a) Qf (F0 m pc ls (rest.map (mj_cv base ext))) q) :
    W p l e R s m args below meth c H locs cells slots Qf (F0 m pc ls ((As.reverse ++ .ref k :: rest).map (mj_cv base ext))) := by
  have C0 := C
  obtain ⟨hx, hb, hml, hown, hts, hK, -⟩ := C
  simp only [mj_ckop, Bool.and_eq_true, List.contains_iff_mem] at ck
  obtain ⟨⟨⟨hm, ck⟩, hkd⟩, -⟩ := ck
  obtain ⟨k1, k2⟩ := mj_df_ok ck
  rw [k2] at kk
  obtain ⟨-, hcode, hcl, hmh, hvh, hdesc, hini, hml9, h0, -, -, -, -, hhe⟩ := fQ _ hkd
  have hhe : mj_hh a = [] := hhe (fun z => by cases z)
  obtain ⟨hinst, hsel, ho13⟩ := h0 rfl
  have hml8 : mj_ml a ≤ 60 := hml9
  obtain ⟨Cn, T, hc⟩ := fS k _ hs
  have hG := mj_good_in (mm := mm) hcode
  rw [mj_map_rev]
  refine mj_after (rest := rest.map (mj_cv base ext)) (v0 := (.ref (base + k) :: As.map (mj_cv base ext)).toArray) (mc := mj_mc a) (ms := mj_ms a) hS (vx_runV (own := mj_cn (mj_mo mm)) (C := (mj_my a).cls) (Ts := mj_ws mm) (nL := mj_ml mm) (As := As.map (mj_cv base ext)) (b := base + k) (n := mj_mn a) ⟨hx, hb, hml, hown, hw⟩ hct ⟨callB_of (ws' := mj_mw) (mj_mn a) hw hG (mj_ws_c hhe) rfl rfl (hts _ hini) (hts _ (fM _ hm)) ⟨hmh, hvh, hdesc⟩ ⟨by show d + 8 + 1 ≤ _; omega, by show 8 + (mj_ml a + 11) + (100 * d + 200) ≤ _; omega⟩, hts _ hinst, hts _ hsel⟩ ⟨mj_blind, ?_, mj_pre C0 hH hca hE hS⟩ rfl (by rw [List.length_map]; exact hAs) hlr.2.1 rfl (by show 2 * 0 + _ ≤ 8; rw [mj_cv_cs]; omega) k1 ⟨hc1, hs1⟩) (fun v τ H1 locs1 g1 g2 g3 => ?_) kx
  · obtain ⟨cell, c1, c2, c3⟩ := va_recv (q0 := k) hK hH.1 hc (by rw [mj_wd_get hk, mj_ce_o hs])
    refine ⟨cell, c1, c2, ?_⟩
    rw [hcl]
    rw [mj_cn_eq fK hc]
    exact c3
  · have h9 := kk v τ H1 locs1 g1 g2 g3
    rw [List.map_append] at h9
    cases v <;> exact h9
theorem mj_s69 (C : mj_Cx p s m args meth c D ca base mm) (hw : ∀ w ∈ mj_ws mm, w.before args s = true) (fM : mj_fcM) (fQ : mj_fcQ) (hca : mj_cas ca s) (hE : mj_X base ext s s.heap) (hH : mj_H D ca base σ H) (hS : va_S (mj_A base) s.heap H locs) (hlr : mj_LR (mj_cv base ext) lo ls (mj_ml mm)) (ck : mj_ckop mm pc 69 a b x is = true) {As : List Value} {Q2 : mj_Q}
    (hct : mj_Ct l D ca base ext d a As σ Q2) (hno : ∀ k τ, ¬ Q2 (.inr k) τ) (hAs : As.length = mj_mn a) (hcs : mj_cs rest ≤ 8) (hc1 : cells + mj_mc a ≤ R.cells) (hs1 : slots + mj_ms a ≤ R.slots) (hR1 : d + 9 ≤ R.frames) (hR2 : 100 * d + 300 ≤ R.locals)
    (kk : ∀ (v : Option Value) (τ : mj_S) (H1 : Heap) (locs1 : List Loc), Q2 (.inl v) τ → mj_H D ca base τ H1 → va_S (mj_A base) s.heap H1 locs1 → W p l e R s m args below meth c H1 locs1 (cells + mj_mc a) (slots + mj_ms a) Qf (F0 m (mj_pc is) ls ((v.toList ++ rest).map (mj_cv base ext)))) :
    W p l e R s m args below meth c H locs cells slots Qf (F0 m pc ls ((As.reverse ++ rest).map (mj_cv base ext))) := by
  have C0 := C
  obtain ⟨hx, hb, hml, hown, hts, hK, -⟩ := C
  simp only [mj_ckop, Bool.and_eq_true, List.contains_iff_mem] at ck
  obtain ⟨⟨hm, ck⟩, hkd⟩ := ck
  obtain ⟨k1, k2⟩ := mj_df_ok ck
  rw [k2] at kk
  obtain ⟨-, hcode, hcl, hmh, hvh, hdesc, hini, hml9, -, -, -, -, h0, -⟩ := fQ _ hkd
  obtain ⟨hsta, hhe⟩ := h0 rfl
  have hml8 : mj_ml a ≤ 60 := hml9
  have hhe : mj_hh a ≠ [] := hhe
  have gw : ∀ w ∈ mj_mw, GoodIn (mj_ws mm) [w] := fun w hw w' h => by
    rw [List.mem_singleton.mp h]
    exact ⟨List.mem_cons_of_mem _ hw, good_of_word (List.mem_filter.mp hw).2⟩
  have hG : GoodIn (mj_ws mm) (va_wsS (mj_cn (mj_mo mm)) x (mj_my a) (mj_ws a)) := by
    intro w hw9
    unfold va_wsS at hw9
    rcases List.mem_append.mp hw9 with h | h
    · simp only [List.mem_cons, List.not_mem_nil, or_false] at h
      rcases h with rfl | rfl | rfl
      · exact gw _ (fM _ hm) _ List.mem_cons_self
      · exact gw _ hsta _ List.mem_cons_self
      · exact gw _ hini _ List.mem_cons_self
    · exact mj_good_in (mm := mm) hcode w h
  have hcn : vx_CSW R s args (mj_cn (mj_mo mm)) x (mj_my a) (mj_mb a) (mj_ml a) (mj_mr a) (mj_hh a) (mj_ws a) (mj_rm d a) (mj_mc a) (mj_ms a) (mj_mn a) := vx_cwSW (ws' := mj_mw) (mj_mn a) hw hG (by unfold mj_ws; rw [mj_cw_h hhe]) rfl rfl ⟨hmh, hvh, hdesc⟩ ⟨by show d + 8 + 1 ≤ _; omega, by show 8 + (mj_ml a + 11) + (100 * d + 200) ≤ _; omega⟩
  have hMt := mj_Met hct hno
  have hroom : 2 * (F0 m pc ls ((As.map (mj_cv base ext)).reverse ++ rest.map (mj_cv base ext))).monitorRoom + ((rest.map (mj_cv base ext)).map fun v => v.category).sum ≤ 8 := by show 2 * 0 + _ ≤ 8; rw [mj_cv_cs]; omega
  have hrun := vx_runSW (p := p) (l := l) (e := e) (below := below) (meth := meth) (H := H) (locs := locs) (cells := cells) (slots := slots) (g := F0 m pc ls ((As.map (mj_cv base ext)).reverse ++ rest.map (mj_cv base ext))) (rest := rest.map (mj_cv base ext)) (As := As.map (mj_cv base ext)) (Ts := mj_ws mm) (nL := mj_ml mm) (cc := mj_mb mm) ⟨hx, hb, hml, hown, hw⟩ hMt hcn ⟨mj_blind, mj_pre C0 hH hca hE hS⟩ rfl (by rw [List.length_map]; exact hAs) hlr.2.1 rfl hroom k1 ⟨hc1, hs1⟩
  rw [mj_map_rev]
  refine mj_afterM (rest := rest.map (mj_cv base ext)) (v0 := (As.map (mj_cv base ext)).toArray) (mc := mj_mc a) (ms := mj_ms a) hS hrun (fun v τ H1 locs1 g1 g2 g3 => ?_)
  have h9 := kk v τ H1 locs1 g1 g2 g3
  rw [List.map_append] at h9
  cases v <;> exact h9
end S
