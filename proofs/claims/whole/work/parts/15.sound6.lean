/-! soundness: the whole -/
def mj_ckL (mm : Nat) : List mj_O → Bool
  | [] => true
  | o :: is => mj_ckop mm o.1 o.2.1 o.2.2.1 o.2.2.2.1 o.2.2.2.2 is && mj_ckL mm is
theorem mj_ckL_at {mm : Nat} {o : mj_O} {is : List mj_O} : ∀ {pre : List mj_O}, mj_ckL mm (pre ++ o :: is) = true → mj_ckop mm o.1 o.2.1 o.2.2.1 o.2.2.2.1 o.2.2.2.2 is = true
  | [], h => by
    simp only [List.nil_append, mj_ckL, Bool.and_eq_true] at h
    exact h.1
  | _ :: r, h => by
    simp only [List.cons_append, mj_ckL, Bool.and_eq_true] at h
    exact mj_ckL_at (pre := r) h.2
def mj_FC : Prop := mj_fcF ∧ mj_fcK ∧ mj_fcS ∧ mj_fcI ∧ mj_fcJ ∧ mj_fcO ∧ mj_fcA ∧ mj_fcC ∧ mj_fcR ∧ mj_fcM ∧ mj_fcQ ∧ mj_fcT ∧ mj_fcV ∧ mj_fcH ∧ mj_fcX
def mj_lnb : Prop := ∀ k, mj_ln k < 2 ^ 20
section S
variable {p : Program} {l : Launch} {e : Env} {R : Room} {s : State} {m : MethodId} {args : Array Value} {below : List Frame} {meth : Method} {c : Code}
variable {D : va_G} {ca : Nat → ClassId} {base : Nat} {ext : Nat → Nat} {mm d : Nat} {Q : mj_Q} {Φ : mj_F}
set_option maxHeartbeats 4000000 in
theorem mj_closed (FC : mj_FC) (hlb : mj_lnb) (ok : mj_ckL mm (mj_code mm 0) = true) (C : mj_Cx p s m args meth c D ca base mm) (hw : ∀ w ∈ mj_ws mm, w.before args s = true) (hca : mj_cas ca s) (hE : mj_X base ext s s.heap) (hl : l.stackTraces = false)
    (hΦ : ∀ a, a < 324 → ∀ as σ Q2, Φ a as σ Q2 → mj_Ct l D ca base ext d a as σ Q2) (hΦ0 : ∀ i σ Q2, Φ 1000 [.int i] σ Q2 → vp_in i (ext 999) ∧ Q2 (.inl (some (.int (mj_sci ext i.toNatClampNeg)))) σ) (hΦ1 : ∀ σ Q2, Φ 1001 [] σ Q2 → Q2 (.inl (some (.int (nI (ext 999))))) σ) (hR1 : d + 9 ≤ R.frames) (hR2 : 100 * d + 300 ≤ R.locals) (hRc : R.cells = mj_mc mm) (hRs : R.slots = mj_ms mm) :
    mj_cl Φ (mj_code mm) Q (mj_WG p l e R s m args below meth c (vx_MQ below (mj_Qc D ca base ext Q) (mj_XC D ca base Q) args s (mj_mc mm) (mj_ms mm) (mj_A base)) D ca base ext mm) := by
  obtain ⟨fF, fK, fS, fI, fJ, fO, fA, fC, fR, fM, fQ, fT, fV, fH, fX⟩ := FC
  intro cs lo st σ bc bs h
  cases cs with
  | nil => exact h.elim
  | cons o is =>
    obtain ⟨pc, op, a, b, x⟩ := o
    intro hsuf H locs cells slots ls hlr hH hS hc hs
    have ck : mj_ckop mm pc op a b x is = true := by
      obtain ⟨pre, hp⟩ := hsuf
      rw [hp] at ok
      exact mj_ckL_at ok
    have hn : ∃ pre, mj_code mm 0 = pre ++ is := by
      obtain ⟨pre, hp⟩ := hsuf
      exact ⟨pre ++ [(pc, op, a, b, x)], by rw [hp, List.append_assoc]; rfl⟩
    have hcc : cells ≤ mj_mc mm := by omega
    have hss : slots ≤ mj_ms mm := by omega
    show W p l e R s m args below meth c H locs cells slots _ (F0 m pc ls (st.map (mj_cv base ext)))
    have go : ∀ {lo2 : mj_Lo} {st2 : List Value} {ls2 : Array Slot}, mj_WG p l e R s m args below meth c (vx_MQ below (mj_Qc D ca base ext Q) (mj_XC D ca base Q) args s (mj_mc mm) (mj_ms mm) (mj_A base)) D ca base ext mm is lo2 st2 σ bc bs → mj_LR (mj_cv base ext) lo2 ls2 (mj_ml mm) → W p l e R s m args below meth c H locs cells slots (vx_MQ below (mj_Qc D ca base ext Q) (mj_XC D ca base Q) args s (mj_mc mm) (mj_ms mm) (mj_A base)) (F0 m (mj_pc is) ls2 (st2.map (mj_cv base ext))) := fun hg hl2 => hg hn H locs cells slots _ hl2 hH hS hc hs
    have goS : ∀ {st2 : List Value} {τ : mj_S}, mj_WG p l e R s m args below meth c (vx_MQ below (mj_Qc D ca base ext Q) (mj_XC D ca base Q) args s (mj_mc mm) (mj_ms mm) (mj_A base)) D ca base ext mm is lo st2 τ bc bs → ∀ (H1 : Heap) (locs1 : List Loc), mj_H D ca base τ H1 → va_S (mj_A base) s.heap H1 locs1 → W p l e R s m args below meth c H1 locs1 cells slots (vx_MQ below (mj_Qc D ca base ext Q) (mj_XC D ca base Q) args s (mj_mc mm) (mj_ms mm) (mj_A base)) (F0 m (mj_pc is) ls (st2.map (mj_cv base ext))) := fun hg H1 locs1 h1 h2 => hg hn H1 locs1 cells slots _ hlr h1 h2 hc hs
    have jmp : ∀ {t : Nat} {st2 : List Value}, mj_tg mm t = true → mj_WG p l e R s m args below meth c (vx_MQ below (mj_Qc D ca base ext Q) (mj_XC D ca base Q) args s (mj_mc mm) (mj_ms mm) (mj_A base)) D ca base ext mm (mj_code mm t) lo st2 σ bc bs → W p l e R s m args below meth c H locs cells slots (vx_MQ below (mj_Qc D ca base ext Q) (mj_XC D ca base Q) args s (mj_mc mm) (mj_ms mm) (mj_A base)) (F0 m t ls (st2.map (mj_cv base ext))) := by
      intro t st2 ht hg
      obtain ⟨h1, h2⟩ := mj_tg_ok ht
      have h3 := hg h1 H locs cells slots ls hlr hH hS hc hs
      rw [h2] at h3
      exact h3
    have out : ∀ {k : Nat} {τ : mj_S} {H1 : Heap} {locs1 : List Loc} {q : Addr} {ce : Cell} {cl sl : Nat} {r2 : List Value}, mj_hh mm = [] → Q (.inr k) τ → mj_H D ca base τ H1 → va_S (mj_A base) s.heap H1 locs1 → H1[q]? = some ce → ce.vm = .none → s.vm.findClass (mj_xn k) = some ce.cls → cl ≤ mj_mc mm → sl ≤ mj_ms mm → vx_W p l e R s m args below meth c H1 locs1 cl sl (vx_MQ below (mj_Qc D ca base ext Q) (mj_XC D ca base Q) args s (mj_mc mm) (mj_ms mm) (mj_A base)) (F0 m pc ls r2) q := by
      intro k τ H1 locs1 q ce cl sl r2 hem g1 g2 g3 g4 g5 g6 g7 g8
      exact vx_out (fun z hz => by
        rw [C.2.2.2.2.2.2.2.2.2.2, hem] at hz
        cases hz) C.2.2.2.2.2.2.2.1 g4 g5 g6 (fun t ht _ => ⟨k, τ, rfl, g1, by rw [ht]; exact g2, g3.F ht⟩) g3.2.2 g7 g8
    change mj_op Φ (mj_code mm) Q _ op a b is lo st σ bc bs at h
    unfold mj_op at h
    split at h
    · exact mj_s0 C fI ck (go h hlr)
    · exact mj_s1 C fI ck (go h hlr)
    · exact mj_s2 C fJ ck (go h hlr)
    · obtain ⟨v, hg, h⟩ := h; exact mj_s3 C hlr ck hg (go h hlr)
    · obtain ⟨v, hg, h⟩ := h; exact mj_s4 C hlr ck hg (go h hlr)
    · obtain ⟨v, hg, h⟩ := h; exact mj_s5 C hlr ck hg (go h hlr)
    · obtain ⟨v, rest, rfl, h1, h2, h⟩ := h; exact mj_s6 C hlr ck h1 h2 (fun ls' hl' => go h hl')
    · obtain ⟨v, rest, rfl, h1, h2, h⟩ := h; exact mj_s7 C hlr ck h1 h2 (fun ls' hl' => go h hl')
    · obtain ⟨v, rest, rfl, h1, h2, h⟩ := h; exact mj_s8 C hlr ck h1 h2 (fun ls' hl' => go h hl')
    · obtain ⟨v, hg, h2, h⟩ := h; exact mj_s9 C hlr ck hg h2 (fun ls' hl' => go h hl')
    · obtain ⟨v, hg, h2, h⟩ := h; exact mj_s10 C hlr ck hg h2 (fun ls' hl' => go h hl')
    · obtain ⟨u, v, r, rest, rfl, h1, h⟩ := h; exact mj_s11 C ck h1 (go h hlr)
    · obtain ⟨u, r, rest, rfl, h1, h⟩ := h; exact mj_s12 C ck h1 (go h hlr)
    · obtain ⟨u, v, r, rest, rfl, h1, h⟩ := h; exact mj_s13 C ck h1 (go h hlr)
    · obtain ⟨u, v, rest, rfl, h⟩ := h; exact mj_s14 C ck (go h hlr)
    · obtain ⟨v, rest, rfl, h⟩ := h; exact mj_s15 C ck (go h hlr)
    · obtain ⟨v, rest, rfl, h⟩ := h; exact mj_s16 C ck (go h hlr)
    · obtain ⟨u, v, rest, rfl, h⟩ := h; exact mj_s17 C ck (go h hlr)
    · obtain ⟨v, rest, rfl, h1, h⟩ := h; exact mj_s18 C ck (by rw [mj_cv_cat]; exact h1) (go h hlr)
    · obtain ⟨v, rest, rfl, h1, h⟩ := h; exact mj_s19 C ck (by rw [mj_cv_cat]; exact h1) (go h hlr)
    · obtain ⟨v, w, rest, rfl, h1, h2, h⟩ := h; exact mj_s20 C ck (by rw [mj_cv_cat]; exact h1) (by rw [mj_cv_cat]; exact h2) (go h hlr)
    · obtain ⟨v, rest, rfl, h1, h2⟩ := h
      have ht : mj_tg mm b = true := by simp only [mj_ckop, Bool.and_eq_true] at ck; exact ck.2
      exact mj_s21 C ck (fun q => jmp ht (h1 q)) (fun q => go (h2 q) hlr)
    · obtain ⟨u, v, rest, rfl, h1, h2⟩ := h
      have ht : mj_tg mm b = true := by simp only [mj_ckop, Bool.and_eq_true] at ck; exact ck.2
      exact mj_s22 C ck (fun q => jmp ht (h1 q)) (fun q => go (h2 q) hlr)
    · have ht : mj_tg mm b = true := by simp only [mj_ckop, Bool.and_eq_true] at ck; exact ck.2
      exact mj_s23 C ck (jmp ht h)
    · obtain ⟨v, rest, rfl, h⟩ := h
      have ht : mj_tg mm (mj_sw (mj_swt a) b v) = true := by
        simp only [mj_ckop, Bool.and_eq_true, List.all_eq_true] at ck
        rcases mj_sw_in (mj_swt a) b v with q | ⟨z, hz, q⟩
        · rw [q]; exact ck.1.1
        · rw [q]; exact ck.1.2 z hz
      exact mj_s24 C ck (jmp ht h)
    · obtain ⟨rfl, h⟩ := h; exact mj_s25 C hH hS ck hcc hss h
    · obtain ⟨v, rfl, h⟩ := h; exact mj_s26 C hH hS ck hcc hss h
    · obtain ⟨v, rfl, h1, h⟩ := h; exact mj_s27 C hH hS ck hcc hss h1 h
    · obtain ⟨v, rfl, h⟩ := h; exact mj_s28 C hH hS ck hcc hss h
    · obtain ⟨v, rfl, h⟩ := h; exact mj_s29 C hH hS ck hcc hss h
    · obtain ⟨h1, h2, h3, h4, h⟩ := h; exact mj_s30 C hl fT hE hH hS hlr ck (by rw [mj_cv_cs]; exact h3) h4 (by omega) (by omega) (by omega) (by omega) (by omega) (by omega) h
    · obtain ⟨k, rest, rfl, h1, h2, h⟩ := h; exact mj_s31 C fF fK fS hH h1 h2 ck (go h hlr)
    · obtain ⟨k, rest, rfl, h1, h2, h⟩ := h; exact mj_s32 C fF fK fS hH h1 h2 ck (go h hlr)
    · obtain ⟨k, r, rest, rfl, h1, h2, h3, h⟩ := h; exact mj_s33 C fF fK fS hH h1 h2 ck h3 (go h hlr)
    · obtain ⟨v, k, rest, rfl, h1, h2, h⟩ := h; exact mj_s34 C fF fK fS hH hS h1 h2 ck (goS h)
    · obtain ⟨v, k, rest, rfl, h1, h2, h3, h⟩ := h; exact mj_s35 C fF fK fS hH hS h1 h2 ck h3 (goS h)
    · obtain ⟨v, k, rest, rfl, h1, h2, h⟩ := h; exact mj_s36 C fF fK fS hH hS h1 h2 ck (goS h)
    · obtain ⟨v, k, rest, rfl, h1, h2, h⟩ := h; exact mj_s37 C fF fK fS hH hS h1 h2 ck (goS h)
    · obtain ⟨i, k, rest, rfl, h1, h2, h3, h⟩ := h; exact mj_s38 C hH h1 h2 ck h3 (go h hlr)
    · obtain ⟨i, k, rest, rfl, h1, h2, h3, h⟩ := h; exact mj_s39 C hH h1 h2 ck h3 (go h hlr)
    · obtain ⟨i, k, rest, rfl, h1, h2, h3, h⟩ := h; exact mj_s40 C hH h1 h2 ck h3 (go h hlr)
    · obtain ⟨i, k, rest, rfl, h1, h2, h3, h⟩ := h; exact mj_s41 C hH h1 h2 ck h3 (go h hlr)
    · obtain ⟨v, i, k, rest, rfl, h1, h2, h3, h⟩ := h; exact mj_s42 C hH hS h1 h2 ck h3 (goS h)
    · obtain ⟨v, i, k, rest, rfl, h1, h2, h3, h⟩ := h; exact mj_s43 C hH hS h1 h2 ck h3 (goS h)
    · obtain ⟨v, i, k, rest, rfl, h1, h2, h3, h⟩ := h; exact mj_s44 C hH hS h1 h2 ck h3 (goS h)
    · obtain ⟨v, i, k, rest, rfl, h1, h2, h3, h⟩ := h; exact mj_s45 C hH hS h1 h2 ck h3 (goS h)
    · obtain ⟨k, rest, rfl, h1, h2, h3, h⟩ := h; exact mj_s46 C hH h1 h2 h3 ck (go h hlr)
    · obtain ⟨k, As, rest, rfl, h1, h2, h3, h4, h5, h6, h⟩ := h
      have hem : mj_hh mm = [] := by
        simp only [mj_ckop, Bool.and_eq_true] at ck
        exact List.isEmpty_iff.mp ck.2
      have ha : a < 324 := by
        simp only [mj_ckop, Bool.and_eq_true, List.contains_iff_mem] at ck
        exact (fQ _ ck.1.2).1
      refine mj_s47 C hw fM fQ fS fK hca hE hH hS hlr ck (hΦ _ ha _ _ _ h) h1 h2 h3 h4 (by omega) (by omega) hR1 hR2 (fun v τ H1 locs1 g1 g2 g3 => ?_) (fun k τ H1 locs1 q ce g1 g2 g3 g4 g5 g6 => out hem g1 g2 g3 g4 g5 g6 (by omega) (by omega))
      cases v with
      | none => exact g1 hn H1 locs1 _ _ ls hlr g2 g3 (by omega) (by omega)
      | some v => exact g1 hn H1 locs1 _ _ ls hlr g2 g3 (by omega) (by omega)
    · obtain ⟨As, rest, rfl, h1, h4, h5, h6, h⟩ := h
      have hem : mj_hh mm = [] := by
        simp only [mj_ckop, Bool.and_eq_true] at ck
        exact List.isEmpty_iff.mp ck.2
      have ha : a < 324 := by
        simp only [mj_ckop, Bool.and_eq_true, List.contains_iff_mem] at ck
        exact (fQ _ ck.1.2).1
      refine mj_s48 C hw fM fQ hca hE hH hS hlr ck (hΦ _ ha _ _ _ h) h1 h4 (by omega) (by omega) hR1 hR2 (fun v τ H1 locs1 g1 g2 g3 => ?_) (fun k τ H1 locs1 q ce g1 g2 g3 g4 g5 g6 => out hem g1 g2 g3 g4 g5 g6 (by omega) (by omega))
      cases v with
      | none => exact g1 hn H1 locs1 _ _ ls hlr g2 g3 (by omega) (by omega)
      | some v => exact g1 hn H1 locs1 _ _ ls hlr g2 g3 (by omega) (by omega)
    · obtain ⟨k, As, rest, rfl, h1, h4, h5, h6, h⟩ := h
      have ha : a < 324 := by
        simp only [mj_ckop, Bool.and_eq_true, List.contains_iff_mem] at ck
        exact (fQ _ ck.2).1
      refine mj_s49 C hw fM fQ hca hE hH hS hlr ck (hΦ _ ha _ _ _ h) (fun k τ z => z) h1 h4 (by omega) (by omega) hR1 hR2 (fun v τ H1 locs1 g1 g2 g3 => ?_)
      cases v with
      | none => exact g1 hn H1 locs1 _ _ ls hlr g2 g3 (by omega) (by omega)
      | some v => exact g1 hn H1 locs1 _ _ ls hlr g2 g3 (by omega) (by omega)
    · obtain ⟨As, rest, rfl, h1, h4, h5, h6, h⟩ := h
      have ha : a < 324 := by
        simp only [mj_ckop, Bool.and_eq_true, List.contains_iff_mem] at ck
        exact (fQ _ ck.2).1
      refine mj_s50 C hw fQ hca hE hH hS hlr ck (hΦ _ ha _ _ _ h) (fun k τ z => z) h1 h4 (by omega) (by omega) hR1 hR2 (fun v τ H1 locs1 g1 g2 g3 => ?_)
      cases v with
      | none => exact g1 hn H1 locs1 _ _ ls hlr g2 g3 (by omega) (by omega)
      | some v => exact g1 hn H1 locs1 _ _ ls hlr g2 g3 (by omega) (by omega)
    · obtain ⟨k, rest, rfl, h1, h⟩ := h; exact mj_s51 C fO hlr ck (by rw [mj_cv_cs]; exact h1) (by omega) (by omega) (go h hlr)
    · obtain ⟨h1, h2, h3, h⟩ := h
      exact mj_s52 C fC fK fS hH hS h1 ck (by omega) (by omega) (fun H1 g2 g3 => h hn H1 locs _ _ ls hlr g2 g3 (by omega) (by omega))
    · obtain ⟨rest, rfl, h1, h2, h3, h⟩ := h
      exact mj_s53 C fR hca hH hS h1 (hlb _) ck (by omega) (by omega) (fun H1 g2 g3 => h hn H1 locs _ _ ls hlr g2 g3 (by omega) (by omega))
    · obtain ⟨n, dp, d0, sp, s0, rest, rfl, h1, h2, h3, h4, h5, h6, h7, h8, h9, h10, h⟩ := h
      exact mj_s54 C fA hH hS hlr h1 h2 h3 h4 ck h5 h6 h7 h8 h9 (by rw [mj_cv_cs]; exact h10) (by omega) (by omega) (goS h)
    · exact mj_s55 C hE ck (go h hlr)
    · obtain ⟨k, rest, rfl, h1, h⟩ := h; exact mj_s56 C fV hE hS ck h1 (go h hlr)
    · obtain ⟨k, rest, rfl, h1, h⟩ := h; exact mj_s57 C fV hE hS ck h1 (go h hlr)
    · exact mj_s58 C fV hE hS ck (go h hlr)
    · exact mj_s59 C fV hE hS ck (go h hlr)
    · obtain ⟨k, rest, rfl, h1, h⟩ := h; exact mj_s60 C hE hS ck h1 (go h hlr)
    · obtain ⟨i, k, rest, rfl, h1, h2, h⟩ := h; exact mj_s61 C hE hS ck h1 h2 (go h hlr)
    · obtain ⟨k, As, rest, rfl, h0, h1, h4, h5, h6, h⟩ := h
      have ha : a < 324 := by
        simp only [mj_ckop, Bool.and_eq_true, List.contains_iff_mem] at ck
        exact (fQ _ ck.2).1
      refine mj_s62 C hw fM fQ hca hE hH hS hlr ck (hΦ _ ha _ _ _ h) (fun k τ z => z) h0 h1 h4 (by omega) (by omega) hR1 hR2 (fun v τ H1 locs1 g1 g2 g3 => ?_)
      cases v with
      | none => exact g1 hn H1 locs1 _ _ ls hlr g2 g3 (by omega) (by omega)
      | some v => exact g1 hn H1 locs1 _ _ ls hlr g2 g3 (by omega) (by omega)
    · obtain ⟨v, hg, h⟩ := h; exact mj_s63 C hlr ck hg (go h hlr)
    · obtain ⟨v, rfl, h1, h⟩ := h; exact mj_s64 C hH hS ck hcc hss h1 h
    · obtain ⟨v, rfl, h1, h⟩ := h; exact mj_s65 C hH hS ck hcc hss h1 h
    · obtain ⟨k, As, rest, rfl, h1, h2, h3, h4, h5, h6, h⟩ := h
      have hk : mj_hk mm pc (mj_ht b) (mj_hh mm) = true := by
        simp only [mj_ckop, Bool.and_eq_true] at ck
        exact ck.2
      have ha : a < 324 := by
        simp only [mj_ckop, Bool.and_eq_true, List.contains_iff_mem] at ck
        exact (fQ _ ck.1.2).1
      refine mj_s66 C hw fM fQ fS fK fH hca hE hH hS hlr ck (hΦ _ ha _ _ _ h) h1 h2 h3 h4 (by omega) (by omega) hR1 hR2 (fun v τ H1 locs1 g1 g2 g3 => ?_) (fun k τ H1 locs1 q ce g1 g2 g3 g4 g5 g6 => ?_)
      · cases v with
        | none => exact g1 hn H1 locs1 _ _ ls hlr g2 g3 (by omega) (by omega)
        | some v => exact g1 hn H1 locs1 _ _ ls hlr g2 g3 (by omega) (by omega)
      · obtain ⟨q0, hq, rfl, hl1, hl2, hg⟩ := g1
        refine mj_caught C fH hE hlr hk hq hl1 hl2 g4 g5 g6 (fun ls' hl' => ?_)
        obtain ⟨-, z, -, -, hz, -⟩ := mj_hk_at hk hq
        obtain ⟨-, -, -, -, -, htg, -⟩ := mj_hz_ok hz
        obtain ⟨t1, t2⟩ := mj_tg_ok htg
        have h9 := hg t1 H1 locs1 (cells + mj_mc a) (slots + mj_ms a) ls' hl' g2 g3 (by omega) (by omega)
        rw [t2] at h9
        exact h9
    · obtain ⟨i, rest, rfl, h⟩ := h
      obtain ⟨h1, h2⟩ := hΦ0 _ _ _ h
      exact mj_s67 C hE hS ck h1 (go h2 hlr)
    · obtain ⟨rest, rfl, h⟩ := h
      exact mj_s68 C hE hS ck (go (hΦ1 _ _ h) hlr)
    · obtain ⟨As, rest, rfl, h1, h4, h5, h6, h⟩ := h
      have ha : a < 324 := by
        simp only [mj_ckop, Bool.and_eq_true, List.contains_iff_mem] at ck
        exact (fQ _ ck.2).1
      refine mj_s69 C hw fM fQ hca hE hH hS hlr ck (hΦ _ ha _ _ _ h) (fun k τ z => z) h1 h4 (by omega) (by omega) hR1 hR2 (fun v τ H1 locs1 g1 g2 g3 => ?_)
      cases v with
      | none => exact g1 hn H1 locs1 _ _ ls hlr g2 g3 (by omega) (by omega)
      | some v => exact g1 hn H1 locs1 _ _ ls hlr g2 g3 (by omega) (by omega)
    · obtain ⟨u, v, rest, rfl, h1, h⟩ := h; exact mj_s70 C fX hlr ck (by omega) (by rw [mj_cv_cs]; omega) (by omega) (by omega) (go h hlr)
    · obtain ⟨u, v, rest, rfl, h1, h⟩ := h; exact mj_s71 C fX hlr ck (by omega) (by rw [mj_cv_cs]; omega) (by omega) (by omega) (go h hlr)
    · obtain ⟨u, rest, rfl, h1, h⟩ := h; exact mj_s72 C fX hlr ck (by omega) (by rw [mj_cv_cs]; omega) (by omega) (by omega) (go h hlr)
    · obtain ⟨u, v, rest, rfl, h1, h⟩ := h; exact mj_s73 C fX hlr ck (by omega) (by rw [mj_cv_cs]; omega) (by omega) (by omega) (go h hlr)
    · exact h.elim
end S
