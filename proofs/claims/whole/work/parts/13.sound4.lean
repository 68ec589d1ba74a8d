/-! soundness: calls -/
/-- the texts that are read: their lengths and bytes; the script's ints; the rows' classes apart -/
def mj_tln : List Nat := [(mj_txt 0).length, (mj_txt 1).length]
def mj_tby : List (List Int32) := [(mj_txt 0).map nI, (mj_txt 1).map nI]
def mj_sci (ext : Nat → Nat) (j : Nat) : Int32 := Int32.ofNat (ext (1000 + j))
/-- the classes above the exceptions -/
def mj_dc : List String := ["java/lang/RuntimeException", "java/lang/Exception", "java/lang/Throwable"]
def mj_Y (base : Nat) (ext : Nat → Nat) (U : State) (H : Heap) : Prop :=
  vk_S 2 mj_tln mj_tby ext (fun i => ext (2 + i)) (mj_A base) U H ∧ (∀ q ∈ mj_pS, ∃ tx, vk_R (mj_cn q.1) q.2.2 tx (ext q.2.1) U) ∧ va_Z "java/lang/String" "COMPACT_STRINGS" "Z" (.int 1) (mj_A base) U H ∧ va_Z "jdk/internal/util/Preconditions" "SIOOBE_FORMATTER" "Ljava/util/function/BiFunction;" (mj_nv (ext 4)) (mj_A base) U H ∧ va_T .int (ext 5) (ext 999) (fun j => .int (mj_sci ext j)) (mj_A base) U H ∧ va_Nc (mj_xn 0) (mj_xn 1) U ∧ va_Nc (mj_xn 1) (mj_xn 0) U ∧ ∀ y ∈ mj_dc, va_Nw (.declares (Bundle.initS y)) U
theorem mj_Y.moved {base : Nat} {ext : Nat → Nat} {u U : State} {H : Heap} (hW : u.WarmedH U.vm) (h : mj_Y base ext u H) : mj_Y base ext U H := by
  obtain ⟨h1, h2, h3, h4, h5, h6, h7, h8⟩ := h
  refine ⟨h1.moved hW.alike, fun q hq => ?_, h3.moved hW.alike, h4.moved hW.alike, h5.moved hW.alike, h6.moved hW.alike, h7.moved hW.alike, fun y hy => va_Nw.warmD hW (h8 y hy)⟩
  obtain ⟨tx, h⟩ := h2 q hq
  exact ⟨tx, h.warm hW⟩
theorem mj_Y.kept {base : Nat} {ext : Nat → Nat} {U : State} {H H1 : Heap} (h : mj_Y base ext U H) (hq : ∀ q : Nat, q < H.size → ¬ mj_A base q → H1[q]? = H[q]?) : mj_Y base ext U H1 := by
  obtain ⟨h1, h2, h3, h4, h5, h6, h7⟩ := h
  exact ⟨h1.kept hq, h2, h3.kept hq, h4.kept hq, h5.kept hq, h6, h7⟩
def mj_fcM : Prop := ∀ q ∈ mj_pM, Cond.methodLink (mj_cn q.1) q.2.2 (mj_my q.2.1) ∈ mj_mw
/-- the word of a method's code -/
def mj_cw (mm : Nat) : Cond := match mj_hh mm with
  | [] => .code (mj_my mm) (mj_mb mm) (mj_ml mm) (mj_mr mm)
  | h => .codeWith (mj_my mm) (mj_mb mm) (mj_ml mm) (mj_mr mm) h
theorem mj_cw_c {mm : Nat} (h : mj_hh mm = []) : mj_cw mm = .code (mj_my mm) (mj_mb mm) (mj_ml mm) (mj_mr mm) := by
  unfold mj_cw
  rw [h]
theorem mj_cw_h {mm : Nat} (h : mj_hh mm ≠ []) : mj_cw mm = .codeWith (mj_my mm) (mj_mb mm) (mj_ml mm) (mj_mr mm) (mj_hh mm) := by
  unfold mj_cw
  cases hh : mj_hh mm with
  | nil => exact absurd hh h
  | cons a b => rfl
def mj_fcQ : Prop := ∀ q ∈ mj_kd, q.2 < 324 ∧ mj_cw q.2 ∈ mj_mw ∧ (mj_my q.2).cls = mj_cn (mj_mo q.2) ∧ (mj_my q.2).cls ≠ "java/lang/invoke/MethodHandle" ∧ (mj_my q.2).cls ≠ "java/lang/invoke/VarHandle" ∧ (parseMethodDescriptor (mj_my q.2).desc).map (fun d => d.parameters.length) = some (mj_mn q.2) ∧ Cond.initialized (mj_my q.2).cls ∈ mj_mw ∧ mj_ml q.2 ≤ 60 ∧
  (q.1 = 0 → Cond.instanceMethod (mj_my q.2) ∈ mj_mw ∧ Cond.selects (mj_my q.2).cls (mj_my q.2) (mj_my q.2) ∈ mj_mw ∧ mj_mo q.2 < 13) ∧ (q.1 = 1 → Cond.static (mj_my q.2) ∈ mj_mw) ∧ (q.1 = 2 → Cond.instanceMethod (mj_my q.2) ∈ mj_mw ∧ (mj_my q.2).name = "<init>" ∧ mj_mr q.2 = none) ∧ (q.1 = 3 → Cond.instanceMethod (mj_my q.2) ∈ mj_mw ∧ Cond.selects (mj_my q.2).cls (mj_my q.2) (mj_my q.2) ∈ mj_mw ∧ mj_mo q.2 = 15) ∧ (q.1 = 4 → Cond.static (mj_my q.2) ∈ mj_mw ∧ mj_hh q.2 ≠ []) ∧ (q.1 ≠ 4 → mj_hh q.2 = [])
def mj_ws (mm : Nat) : List Cond := mj_cw mm :: mj_mw
theorem mj_ws_c {mm : Nat} (h : mj_hh mm = []) : mj_ws mm = .code (mj_my mm) (mj_mb mm) (mj_ml mm) (mj_mr mm) :: mj_mw := by
  unfold mj_ws
  rw [mj_cw_c h]
def mj_rm (d mm : Nat) : Room := { frames := d + 8, cells := mj_mc mm, slots := mj_ms mm, locals := 100 * d + 200 }
/-- the array classes -/
def mj_cas (ca : Nat → ClassId) (U : State) : Prop := U.vm.findClass ("[" ++ FieldType.int.toString) = some (ca 0) ∧ U.vm.findClass ("[" ++ FieldType.long.toString) = some (ca 1) ∧ U.vm.findClass ("[" ++ FieldType.byte.toString) = some (ca 2) ∧ U.vm.findClass ("[" ++ FieldType.boolean.toString) = some (ca 3)
theorem mj_cas.moved {ca : Nat → ClassId} {u U : State} (hW : u.WarmedH U.vm) (h : mj_cas ca u) : mj_cas ca U := by
  unfold mj_cas
  rw [hW.alike.findClass, hW.alike.findClass, hW.alike.findClass, hW.alike.findClass]
  exact h
/-- what stands outside the cells: nest mates' links, what a throw wants of the tables and of Throwable's statics, the messages -/
def mj_X (base : Nat) (ext : Nat → Nat) (U : State) (H : Heap) : Prop :=
  (∀ q ∈ mj_pN, va_Nw (.methodLinkNest (mj_cn q.1) q.2.2 (mj_my q.2.1) "SockFair") U) ∧ (∀ k, va_Nw (.castable (mj_xn k) (mj_xn k)) U) ∧ vx_Zq Bundle.tN "UNASSIGNED_STACK" Bundle.steD (mj_A base) U H ∧ vx_Zq Bundle.tN "SUPPRESSED_SENTINEL" Bundle.listD (mj_A base) U H ∧ (∀ q ∈ mj_pT, ∃ text sa, vk_R (mj_cn q.1) q.2.2.1 text sa U) ∧ mj_Y base ext U H
theorem mj_X.moved {base : Nat} {ext : Nat → Nat} {u U : State} {H : Heap} (hW : u.WarmedH U.vm) (h : mj_X base ext u H) : mj_X base ext U H := by
  obtain ⟨h1, h2, h3, h4, h5, h6⟩ := h
  refine ⟨fun q hq => va_Nw.warmM hW (h1 q hq), fun k => va_Nw.warmC hW (h2 k), h3.moved hW.alike, h4.moved hW.alike, fun q hq => ?_, h6.moved hW⟩
  obtain ⟨tx, sa, h⟩ := h5 q hq
  exact ⟨tx, sa, h.warm hW⟩
theorem mj_X.kept {base : Nat} {ext : Nat → Nat} {U : State} {H H1 : Heap} (h : mj_X base ext U H) (hq : ∀ q : Nat, q < H.size → ¬ mj_A base q → H1[q]? = H[q]?) : mj_X base ext U H1 := by
  obtain ⟨h1, h2, h3, h4, h5, h6⟩ := h
  exact ⟨h1, h2, h3.kept hq, h4.kept hq, h5, h6.kept hq⟩
def mj_Pc (D : va_G) (ca : Nat → ClassId) (base : Nat) (ext : Nat → Nat) (as : List Value) (σ : mj_S) : Array Value → State → Prop := va_Pc (as.map (mj_cv base ext)) (fun U => mj_H D ca base σ U.heap ∧ va_K D vwCl (mj_tys ca) U ∧ mj_cas ca U ∧ mj_X base ext U U.heap)
/-- a method's contract -/
def mj_Ct (l : Launch) (D : va_G) (ca : Nat → ClassId) (base : Nat) (ext : Nat → Nat) (d mm : Nat) (as : List Value) (σ : mj_S) (Q : mj_Q) : Prop :=
  vx_Met l (mj_my mm) (mj_ws mm) (mj_rm d mm) (mj_Pc D ca base ext as σ) (mj_Qc D ca base ext Q) (mj_XC D ca base Q) (mj_mc mm) (mj_ms mm) (mj_A base)
theorem mj_Met {l : Launch} {D : va_G} {ca : Nat → ClassId} {base : Nat} {ext : Nat → Nat} {d mm : Nat} {as : List Value} {σ : mj_S} {Q : mj_Q} (h : mj_Ct l D ca base ext d mm as σ Q) (hn : ∀ k τ, ¬ Q (.inr k) τ) : Met l (mj_my mm) (mj_ws mm) (mj_rm d mm) (mj_Pc D ca base ext as σ) (mj_Qc D ca base ext Q) (mj_mc mm) (mj_ms mm) (mj_A base) := by
  intro p e ha hc hk s m args below hf happ hP hK
  obtain ⟨n, o, h1, h2, h3, h4⟩ := h p e ha hc hk s m args below hf happ hP hK
  refine ⟨n, o, h1, h2, h3, ?_⟩
  rcases h4 with h4 | ⟨q, -, E, ce, L, ⟨k, τ, -, hq, -⟩, -⟩
  · exact h4
  · exact absurd hq (hn k τ)
theorem mj_good_in {mm z : Nat} (h : mj_cw z ∈ mj_mw) : GoodIn (mj_ws mm) (mj_ws z) := by
  have g : ∀ w ∈ mj_mw, goodWord w = true := fun w hw => (List.mem_filter.mp hw).2
  intro w hw
  rcases List.mem_cons.mp hw with rfl | hw
  · exact ⟨List.mem_cons_of_mem _ h, good_of_word (g _ h)⟩
  · exact ⟨List.mem_cons_of_mem _ hw, good_of_word (g _ hw)⟩
theorem mj_cn_eq {a : Nat} {C : String} {T : u_T} {N : Nat} (fK : mj_fcK) (h : vwCl[a]? = some (C, T, N)) : mj_cn a = C := (fK a C T N h).2.1
section S
variable {p : Program} {l : Launch} {e : Env} {R : Room} {s : State} {m : MethodId} {args : Array Value} {below : List Frame} {meth : Method} {c : Code} {H : Heap} {locs : List Loc} {cells slots : Nat} {Qf : State → Prop}
variable {D : va_G} {ca : Nat → ClassId} {base : Nat} {ext : Nat → Nat} {mm : Nat}
variable {is : List mj_O} {lo : mj_Lo} {st rest : List Value} {σ τ : mj_S} {bc bs pc a b x k d : Nat} {ls : Array Slot} {Q : mj_Q}
theorem mj_blind {as : List Value} : FrameBlind (mj_Pc D ca base ext as σ) := by
  intro v U g mk q
  obtain ⟨q0, q1, q2, q3, q4⟩ := q
  exact ⟨q0, q1, va_K.moved (u := U) (U := U.calling g mk v) (Vm.Alike.refl U.vm) q2, mj_cas.moved (u := U) (U := U.calling g mk v) (State.WarmedH.refl U) q3, mj_X.moved (u := U) (U := U.calling g mk v) (State.WarmedH.refl U) q4⟩
theorem mj_pre {as : List Value} (C : mj_Cx p s m args meth c D ca base mm) (hH : mj_H D ca base σ H) (hca : mj_cas ca s) (hE : mj_X base ext s s.heap) (hS : va_S (mj_A base) s.heap H locs) : ∀ U : State, U.heap = H → s.WarmedH U.vm → mj_Pc D ca base ext as σ (as.map (mj_cv base ext)).toArray U := by
  intro U hU hW
  obtain ⟨-, -, -, -, -, hK, -⟩ := C
  refine ⟨rfl, by rw [hU]; exact hH, va_K.moved hW.alike hK, ?_, ?_⟩
  · exact mj_cas.moved hW hca
  · rw [hU]
    exact mj_X.moved hW (mj_X.kept hE hS.2.1)
/-- what comes behind a call -/
theorem mj_after {mc ms : Nat} {Q2 : mj_Q} {v0 : Array Value} {st0 : List Value} (hS : va_S (mj_A base) s.heap H locs)
    (hr : vx_Run p l e R s m args below meth c H locs cells slots mc ms (F0 m pc ls st0) rest (mj_Qc D ca base ext Q2 v0) (mj_XC D ca base Q2) (mj_A base))
    (kk : ∀ (v : Option Value) (τ : mj_S) (H1 : Heap) (locs1 : List Loc), Q2 (.inl v) τ → mj_H D ca base τ H1 → va_S (mj_A base) s.heap H1 locs1 → W p l e R s m args below meth c H1 locs1 (cells + mc) (slots + ms) Qf (F0 m (pc + 3) ls ((v.map (mj_cv base ext)).toList ++ rest)))
    (kx : ∀ (k : Nat) (τ : mj_S) (H1 : Heap) (locs1 : List Loc) (q : Addr) (ce : Cell), Q2 (.inr k) τ → mj_H D ca base τ H1 → va_S (mj_A base) s.heap H1 locs1 → H1[q]? = some ce → ce.vm = .none → s.vm.findClass (mj_xn k) = some ce.cls → vx_W p l e R s m args below meth c H1 locs1 (cells + mc) (slots + ms) Qf (F0 m pc ls rest) q) :
    W p l e R s m args below meth c H locs cells slots Qf (F0 m pc ls st0) := by
  intro T hT X
  have keep : ∀ (st₀ t : State) (L : List Loc), st₀.heap = H → va_F (mj_A base) st₀ t → (∀ q ∈ L, mj_A base q.base) → va_S (mj_A base) s.heap t.heap (locs ++ L) := by
    intro st₀ t L h0 hF hL
    obtain ⟨hz, hk⟩ := hF
    rw [h0] at hz hk
    refine ⟨Nat.le_trans hS.1 hz, fun q h1 h2 => ?_, fun q hq => ?_⟩
    · rw [hk q (Nat.lt_of_lt_of_le h1 hS.1) h2]
      exact hS.2.1 q h1 h2
    · rcases List.mem_append.mp hq with h | h
      · exact hS.2.2 q h
      · exact hL q h
  rcases hr T hT X with ⟨v, st₀, t, T', L, h0, X', hL, e1, e2, ⟨v', τ, hv, hq, hH, hF⟩, go⟩ | ⟨q, st₀, t, T', L, E, ce, h0, X', hL, e1, e2, ⟨k, τ, hE, hq, hH, hF⟩, hcell, hvm, hcl, go⟩
  · cases hv
    obtain ⟨t2, a1, b1⟩ := kk v' τ T'.heap (locs ++ L) hq (by rw [e1]; exact hH) (by rw [e1]; exact keep st₀ t L h0 hF hL) T' rfl X'
    exact ⟨t2, go t2 a1, b1⟩
  · subst hE
    obtain ⟨t2, a1, b1⟩ := kx k τ T'.heap (locs ++ L) q ce hq (by rw [e1]; exact hH) (by rw [e1]; exact keep st₀ t L h0 hF hL) (by rw [e1]; exact hcell) hvm hcl T' rfl X'
    exact ⟨t2, go.trans a1, b1⟩
theorem mj_afterM {mc ms : Nat} {Q2 : mj_Q} {v0 : Array Value} {st0 : List Value} (hS : va_S (mj_A base) s.heap H locs)
    (hr : va_Run p l e R s m args below meth c H locs cells slots mc ms (F0 m pc ls st0) rest (mj_Qc D ca base ext Q2 v0) (mj_A base))
    (kk : ∀ (v : Option Value) (τ : mj_S) (H1 : Heap) (locs1 : List Loc), Q2 (.inl v) τ → mj_H D ca base τ H1 → va_S (mj_A base) s.heap H1 locs1 → W p l e R s m args below meth c H1 locs1 (cells + mc) (slots + ms) Qf (F0 m (pc + 3) ls ((v.map (mj_cv base ext)).toList ++ rest))) :
    W p l e R s m args below meth c H locs cells slots Qf (F0 m pc ls st0) := by
  intro T hT X
  obtain ⟨v, st₀, t, T', L, h0, X', hL, e1, e2, ⟨v', τ, hv, hq, hH, hz, hk⟩, go⟩ := hr T hT X
  cases hv
  rw [h0] at hz hk
  obtain ⟨t2, a1, b1⟩ := kk v' τ T'.heap (locs ++ L) hq (by rw [e1]; exact hH) (by
    rw [e1]
    refine ⟨Nat.le_trans hS.1 hz, fun q h1 h2 => ?_, fun q hq => ?_⟩
    · rw [hk q (Nat.lt_of_lt_of_le h1 hS.1) h2]
      exact hS.2.1 q h1 h2
    · rcases List.mem_append.mp hq with h | h
      · exact hS.2.2 q h
      · exact hL q h) T' rfl X'
  exact ⟨t2, go t2 a1, b1⟩
theorem mj_map_rev (f : Value → Value) (As rest : List Value) : (As.reverse ++ rest).map f = (As.map f).reverse ++ rest.map f := by
  rw [List.map_append, List.map_reverse]
theorem mj_s47 (C : mj_Cx p s m args meth c D ca base mm) (hw : ∀ w ∈ mj_ws mm, w.before args s = true) (fM : mj_fcM) (fQ : mj_fcQ) (fS : mj_fcS) (fK : mj_fcK) (hca : mj_cas ca s) (hE : mj_X base ext s s.heap) (hH : mj_H D ca base σ H) (hS : va_S (mj_A base) s.heap H locs) (hlr : mj_LR (mj_cv base ext) lo ls (mj_ml mm)) (ck : mj_ckop mm pc 47 a b x is = true) {As : List Value} {Q2 : mj_Q}
    (hct : mj_Ct l D ca base ext d a (.ref k :: As) σ Q2) (hAs : As.length = mj_mn a) (hs : mj_sh k = 10 + mj_mo a) (hk : k < σ.1) (hcs : mj_cs rest ≤ 8) (hc1 : cells + mj_mc a ≤ R.cells) (hs1 : slots + mj_ms a ≤ R.slots) (hR1 : d + 9 ≤ R.frames) (hR2 : 100 * d + 300 ≤ R.locals)
    (kk : ∀ (v : Option Value) (τ : mj_S) (H1 : Heap) (locs1 : List Loc), Q2 (.inl v) τ → mj_H D ca base τ H1 → va_S (mj_A base) s.heap H1 locs1 → W p l e R s m args below meth c H1 locs1 (cells + mj_mc a) (slots + mj_ms a) Qf (F0 m (mj_pc is) ls ((v.toList ++ rest).map (mj_cv base ext))))
    (kx : ∀ (k : Nat) (τ : mj_S) (H1 : Heap) (locs1 : List Loc) (q : Addr) (ce : Cell), Q2 (.inr k) τ → mj_H D ca base τ H1 → va_S (mj_A base) s.heap H1 locs1 → H1[q]? = some ce → ce.vm = .none → s.vm.findClass (mj_xn k) = some ce.cls → vx_W p l e R s m args below meth c H1 locs1 (cells + mj_mc a) (slots + mj_ms a) Qf (F0 m pc ls (rest.map (mj_cv base ext))) q) :
    W p l e R s m args below meth c H locs cells slots Qf (F0 m pc ls ((As.reverse ++ .ref k :: rest).map (mj_cv base ext))) := by
  have C0 := C
  obtain ⟨hx, hb, hml, hown, hts, hK, -⟩ := C
  simp only [mj_ckop, Bool.and_eq_true, List.contains_iff_mem] at ck
  obtain ⟨⟨⟨hm, ck⟩, hkd⟩, -⟩ := ck
  obtain ⟨k1, k2⟩ := mj_df_ok ck
  rw [k2] at kk
  obtain ⟨-, hcode, hcl, hmh, hvh, hdesc, hini, hml9, h0, -, -, -, -, hhe⟩ := fQ _ hkd
  have hhe : mj_hh a = [] := hhe (fun z => by cases z)
  obtain ⟨hinst, hsel, ho13⟩ := h0 rfl
  have hml8 : mj_ml a ≤ 60 := hml9
  obtain ⟨Cn, T, hc⟩ := fS k _ hs
  have hG := mj_good_in (mm := mm) hcode
  rw [mj_map_rev]
  refine mj_after (rest := rest.map (mj_cv base ext)) (v0 := (.ref (base + k) :: As.map (mj_cv base ext)).toArray) (mc := mj_mc a) (ms := mj_ms a) hS (vx_runV (own := mj_cn (mj_mo mm)) (C := (mj_my a).cls) (Ts := mj_ws mm) (nL := mj_ml mm) (As := As.map (mj_cv base ext)) (b := base + k) (n := mj_mn a) ⟨hx, hb, hml, hown, hw⟩ hct ⟨callB_of (ws' := mj_mw) (mj_mn a) hw hG (mj_ws_c hhe) rfl rfl (hts _ hini) (hts _ (fM _ hm)) ⟨hmh, hvh, hdesc⟩ ⟨by show d + 8 + 1 ≤ _; omega, by show 8 + (mj_ml a + 11) + (100 * d + 200) ≤ _; omega⟩, hts _ hinst, hts _ hsel⟩ ⟨mj_blind, ?_, mj_pre C0 hH hca hE hS⟩ rfl (by rw [List.length_map]; exact hAs) hlr.2.1 rfl (by show 2 * 0 + _ ≤ 8; rw [mj_cv_cs]; omega) k1 ⟨hc1, hs1⟩) (fun v τ H1 locs1 g1 g2 g3 => ?_) kx
  · obtain ⟨cell, c1, c2, c3⟩ := va_recv (q0 := k) hK hH.1 hc (by rw [mj_wd_get hk, mj_ce_o hs])
    refine ⟨cell, c1, c2, ?_⟩
    rw [hcl]
    rw [mj_cn_eq fK hc]
    exact c3
  · have h9 := kk v τ H1 locs1 g1 g2 g3
    rw [List.map_append] at h9
    cases v <;> exact h9
theorem mj_s48 (C : mj_Cx p s m args meth c D ca base mm) (hw : ∀ w ∈ mj_ws mm, w.before args s = true) (fM : mj_fcM) (fQ : mj_fcQ) (hca : mj_cas ca s) (hE : mj_X base ext s s.heap) (hH : mj_H D ca base σ H) (hS : va_S (mj_A base) s.heap H locs) (hlr : mj_LR (mj_cv base ext) lo ls (mj_ml mm)) (ck : mj_ckop mm pc 48 a b x is = true) {As : List Value} {Q2 : mj_Q}
    (hct : mj_Ct l D ca base ext d a As σ Q2) (hAs : As.length = mj_mn a) (hcs : mj_cs rest ≤ 8) (hc1 : cells + mj_mc a ≤ R.cells) (hs1 : slots + mj_ms a ≤ R.slots) (hR1 : d + 9 ≤ R.frames) (hR2 : 100 * d + 300 ≤ R.locals)
    (kk : ∀ (v : Option Value) (τ : mj_S) (H1 : Heap) (locs1 : List Loc), Q2 (.inl v) τ → mj_H D ca base τ H1 → va_S (mj_A base) s.heap H1 locs1 → W p l e R s m args below meth c H1 locs1 (cells + mj_mc a) (slots + mj_ms a) Qf (F0 m (mj_pc is) ls ((v.toList ++ rest).map (mj_cv base ext))))
    (kx : ∀ (k : Nat) (τ : mj_S) (H1 : Heap) (locs1 : List Loc) (q : Addr) (ce : Cell), Q2 (.inr k) τ → mj_H D ca base τ H1 → va_S (mj_A base) s.heap H1 locs1 → H1[q]? = some ce → ce.vm = .none → s.vm.findClass (mj_xn k) = some ce.cls → vx_W p l e R s m args below meth c H1 locs1 (cells + mj_mc a) (slots + mj_ms a) Qf (F0 m pc ls (rest.map (mj_cv base ext))) q) :
    W p l e R s m args below meth c H locs cells slots Qf (F0 m pc ls ((As.reverse ++ rest).map (mj_cv base ext))) := by
  have C0 := C
  obtain ⟨hx, hb, hml, hown, hts, hK, -⟩ := C
  simp only [mj_ckop, Bool.and_eq_true, List.contains_iff_mem] at ck
  obtain ⟨⟨⟨hm, ck⟩, hkd⟩, -⟩ := ck
  obtain ⟨k1, k2⟩ := mj_df_ok ck
  rw [k2] at kk
  obtain ⟨-, hcode, hcl, hmh, hvh, hdesc, hini, hml9, -, h0, -, -, -, hhe⟩ := fQ _ hkd
  have hhe : mj_hh a = [] := hhe (fun z => by cases z)
  have hsta := h0 rfl
  have hml8 : mj_ml a ≤ 60 := hml9
  have hG := mj_good_in (mm := mm) hcode
  rw [mj_map_rev]
  refine mj_after (rest := rest.map (mj_cv base ext)) (v0 := (As.map (mj_cv base ext)).toArray) (mc := mj_mc a) (ms := mj_ms a) hS (vx_runS (own := mj_cn (mj_mo mm)) (Ts := mj_ws mm) (nL := mj_ml mm) (As := As.map (mj_cv base ext)) (n := mj_mn a) ⟨hx, hb, hml, hown, hw⟩ hct ⟨callB_of (ws' := mj_mw) (mj_mn a) hw hG (mj_ws_c hhe) rfl rfl (hts _ hini) (hts _ (fM _ hm)) ⟨hmh, hvh, hdesc⟩ ⟨by show d + 8 + 1 ≤ _; omega, by show 8 + (mj_ml a + 11) + (100 * d + 200) ≤ _; omega⟩, hts _ hsta⟩ ⟨mj_blind, mj_pre C0 hH hca hE hS⟩ rfl (by rw [List.length_map]; exact hAs) hlr.2.1 rfl (by show 2 * 0 + _ ≤ 8; rw [mj_cv_cs]; omega) k1 ⟨hc1, hs1⟩) (fun v τ H1 locs1 g1 g2 g3 => ?_) kx
  have h9 := kk v τ H1 locs1 g1 g2 g3
  rw [List.map_append] at h9
  cases v <;> exact h9
theorem mj_s49 (C : mj_Cx p s m args meth c D ca base mm) (hw : ∀ w ∈ mj_ws mm, w.before args s = true) (fM : mj_fcM) (fQ : mj_fcQ) (hca : mj_cas ca s) (hE : mj_X base ext s s.heap) (hH : mj_H D ca base σ H) (hS : va_S (mj_A base) s.heap H locs) (hlr : mj_LR (mj_cv base ext) lo ls (mj_ml mm)) (ck : mj_ckop mm pc 49 a b x is = true) {As : List Value} {Q2 : mj_Q}
    (hct : mj_Ct l D ca base ext d a (.ref k :: As) σ Q2) (hno : ∀ k τ, ¬ Q2 (.inr k) τ) (hAs : As.length = mj_mn a) (hcs : mj_cs rest ≤ 8) (hc1 : cells + mj_mc a ≤ R.cells) (hs1 : slots + mj_ms a ≤ R.slots) (hR1 : d + 9 ≤ R.frames) (hR2 : 100 * d + 300 ≤ R.locals)
    (kk : ∀ (v : Option Value) (τ : mj_S) (H1 : Heap) (locs1 : List Loc), Q2 (.inl v) τ → mj_H D ca base τ H1 → va_S (mj_A base) s.heap H1 locs1 → W p l e R s m args below meth c H1 locs1 (cells + mj_mc a) (slots + mj_ms a) Qf (F0 m (mj_pc is) ls ((v.toList ++ rest).map (mj_cv base ext)))) :
    W p l e R s m args below meth c H locs cells slots Qf (F0 m pc ls ((As.reverse ++ .ref k :: rest).map (mj_cv base ext))) := by
  have C0 := C
  obtain ⟨hx, hb, hml, hown, hts, hK, -⟩ := C
  simp only [mj_ckop, Bool.and_eq_true, List.contains_iff_mem] at ck
  obtain ⟨⟨hm, ck⟩, hkd⟩ := ck
  obtain ⟨k1, k2⟩ := mj_df_ok ck
  rw [k2] at kk
  obtain ⟨-, hcode, hcl, hmh, hvh, hdesc, hini, hml9, -, -, h0, -, -, hhe⟩ := fQ _ hkd
  have hhe : mj_hh a = [] := hhe (fun z => by cases z)
  obtain ⟨hinst, hname, hret⟩ := h0 rfl
  have hml8 : mj_ml a ≤ 60 := hml9
  have hG := mj_good_in (mm := mm) hcode
  have hret : mj_mr a = none := hret
  rw [mj_map_rev]
  refine mj_afterM (rest := rest.map (mj_cv base ext)) (v0 := (.ref (base + k) :: As.map (mj_cv base ext)).toArray) (mc := mj_mc a) (ms := mj_ms a) hS (va_runI (bytes := mj_mb a) (maxL := mj_ml a) (own := mj_cn (mj_mo mm)) (Ts := mj_ws mm) (nL := mj_ml mm) (As := As.map (mj_cv base ext)) (b := base + k) (n := mj_mn a) ⟨hx, hb, hml, hown, hw⟩ (mj_Met hct hno) ⟨callB_of (ws' := mj_mw) (mj_mn a) hw hG (by rw [mj_ws_c hhe, hret]) rfl rfl (hts _ hini) (hts _ (fM _ hm)) ⟨hmh, hvh, hdesc⟩ ⟨by show d + 8 + 1 ≤ _; omega, by show 8 + (mj_ml a + 11) + (100 * d + 200) ≤ _; omega⟩, hname, hts _ hinst⟩ ⟨mj_blind, mj_pre (as := .ref k :: As) C0 hH hca hE hS⟩ rfl (by rw [List.length_map]; exact hAs) hlr.2.1 rfl (by show 2 * 0 + _ ≤ 8; rw [mj_cv_cs]; omega) k1 ⟨hc1, hs1⟩) (fun v τ H1 locs1 g1 g2 g3 => ?_)
  have h9 := kk v τ H1 locs1 g1 g2 g3
  rw [List.map_append] at h9
  cases v <;> exact h9
theorem mj_s50 (C : mj_Cx p s m args meth c D ca base mm) (hw : ∀ w ∈ mj_ws mm, w.before args s = true) (fQ : mj_fcQ) (hca : mj_cas ca s) (hE : mj_X base ext s s.heap) (hH : mj_H D ca base σ H) (hS : va_S (mj_A base) s.heap H locs) (hlr : mj_LR (mj_cv base ext) lo ls (mj_ml mm)) (ck : mj_ckop mm pc 50 a b x is = true) {As : List Value} {Q2 : mj_Q}
    (hct : mj_Ct l D ca base ext d a As σ Q2) (hno : ∀ k τ, ¬ Q2 (.inr k) τ) (hAs : As.length = mj_mn a) (hcs : mj_cs rest ≤ 8) (hc1 : cells + mj_mc a ≤ R.cells) (hs1 : slots + mj_ms a ≤ R.slots) (hR1 : d + 9 ≤ R.frames) (hR2 : 100 * d + 300 ≤ R.locals)
    (kk : ∀ (v : Option Value) (τ : mj_S) (H1 : Heap) (locs1 : List Loc), Q2 (.inl v) τ → mj_H D ca base τ H1 → va_S (mj_A base) s.heap H1 locs1 → W p l e R s m args below meth c H1 locs1 (cells + mj_mc a) (slots + mj_ms a) Qf (F0 m (mj_pc is) ls ((v.toList ++ rest).map (mj_cv base ext)))) :
    W p l e R s m args below meth c H locs cells slots Qf (F0 m pc ls ((As.reverse ++ rest).map (mj_cv base ext))) := by
  have C0 := C
  obtain ⟨hx, hb, hml, hown, hts, hK, -⟩ := C
  simp only [mj_ckop, Bool.and_eq_true, List.contains_iff_mem] at ck
  obtain ⟨⟨hm, ck⟩, hkd⟩ := ck
  obtain ⟨k1, k2⟩ := mj_df_ok ck
  rw [k2] at kk
  obtain ⟨-, hcode, hcl, hmh, hvh, hdesc, hini, hml9, -, h0, -, -, -, hhe⟩ := fQ _ hkd
  have hhe : mj_hh a = [] := hhe (fun z => by cases z)
  have hsta := h0 rfl
  have hml8 : mj_ml a ≤ 60 := hml9
  have hG := mj_good_in (mm := mm) hcode
  have hN : va_Nw (.methodLinkNest (mj_cn (mj_mo mm)) x (mj_my a) "SockFair") s := hE.1 (mj_mo mm, a, x) hm
  have hcn : va_CN R s args (mj_cn (mj_mo mm)) x (mj_my a) "SockFair" (mj_mb a) (mj_ml a) (mj_mr a) (mj_ws a) (mj_rm d a) (mj_mc a) (mj_ms a) (mj_mn a) := va_cnB (ws' := mj_mw) (mj_mn a) hw hG (mj_ws_c hhe) rfl rfl hN (hts _ hini) ⟨hmh, hvh, hdesc⟩ ⟨by show d + 8 + 1 ≤ _; omega, by show 8 + (mj_ml a + 11) + (100 * d + 200) ≤ _; omega⟩
  have hMt := mj_Met hct hno
  have hsz : ls.size = mj_ml mm := hlr.2.1
  have hstk : (As.map (mj_cv base ext)).length = mj_mn a := by rw [List.length_map]; exact hAs
  have hroom : 2 * (F0 m pc ls ((As.map (mj_cv base ext)).reverse ++ rest.map (mj_cv base ext))).monitorRoom + ((rest.map (mj_cv base ext)).map fun v => v.category).sum ≤ 8 := by show 2 * 0 + _ ≤ 8; rw [mj_cv_cs]; omega
  have hrun := va_runSN (p := p) (l := l) (e := e) (below := below) (meth := meth) (H := H) (locs := locs) (cells := cells) (slots := slots) (g := F0 m pc ls ((As.map (mj_cv base ext)).reverse ++ rest.map (mj_cv base ext))) (rest := rest.map (mj_cv base ext)) (As := As.map (mj_cv base ext)) (Ts := mj_ws mm) (nL := mj_ml mm) (cc := mj_mb mm) ⟨hx, hb, hml, hown, hw⟩ hMt ⟨hcn, hts _ hsta, trivial⟩ ⟨mj_blind, mj_pre C0 hH hca hE hS⟩ rfl hstk hsz rfl hroom k1 ⟨hc1, hs1⟩
  rw [mj_map_rev]
  refine mj_afterM (rest := rest.map (mj_cv base ext)) (v0 := (As.map (mj_cv base ext)).toArray) (mc := mj_mc a) (ms := mj_ms a) hS hrun (fun v τ H1 locs1 g1 g2 g3 => ?_)
  have h9 := kk v τ H1 locs1 g1 g2 g3
  rw [List.map_append] at h9
  cases v <;> exact h9
end S
