/-! the small machine's cells in the heap: cell k lies at base + k; a text's or a script's reference lies at ext -/
/-- what may be null -/
def mj_nv : Nat → Value
  | 0 => .null
  | n + 1 => .ref n
def mj_cv (base : Nat) (ext : Nat → Nat) : Value → Value
  | .ref k => .ref (base + k)
  | .retAddr k => if k = 4 then mj_nv (ext 4) else .ref (ext k)
  | v => v
theorem mj_cv_cat (base : Nat) (ext : Nat → Nat) (v : Value) : (mj_cv base ext v).category = v.category := by
  cases v <;> try rfl
  rename_i k
  show (if k = 4 then mj_nv (ext 4) else .ref (ext k)).category = 1
  split
  · cases ext 4 <;> rfl
  · rfl
theorem mj_cv_x {base : Nat} {ext : Nat → Nat} {k : Nat} (h : k ≠ 4) : mj_cv base ext (.retAddr k) = .ref (ext k) := by
  show (if k = 4 then mj_nv (ext 4) else .ref (ext k)) = _
  rw [if_neg h]
theorem mj_cv_cs (base : Nat) (ext : Nat → Nat) (st : List Value) : ((st.map (mj_cv base ext)).map fun v => v.category).sum = mj_cs st := by
  unfold mj_cs
  rw [List.map_map]
  congr 1
  apply List.map_congr_left
  intro v _
  exact mj_cv_cat base ext v
def mj_fv (base : Nat) (σ : mj_S) (ci k j : Nat) : Value := match mj_ft ci j with
  | 2 => .long (σ.2.2.1 k j)
  | 3 => va_rf ((σ.2.2.2 k j).map (fun r => base + r))
  | _ => .int (σ.2.1 k j)
def mj_ce (ca : Nat → ClassId) (base : Nat) (σ : mj_S) (k : Nat) : va_E := match mj_sh k with
  | 1 => .inl (ca 0, mj_ln k, .inl (σ.2.1 k))
  | 2 => .inl (ca 1, mj_ln k, .inr (.inl (σ.2.2.1 k)))
  | 3 => .inl (ca 2, mj_ln k, .inl (σ.2.1 k))
  | 4 => .inl (ca 3, mj_ln k, .inl (σ.2.1 k))
  | q => .inr (q - 10, (List.range (mj_ln k)).map (mj_fv base σ (q - 10) k))
def mj_wd (ca : Nat → ClassId) (base : Nat) (σ : mj_S) : va_W := (List.range σ.1).map (fun k => (base + k, mj_ce ca base σ k))
def mj_tys (ca : Nat → ClassId) : List (ClassId × FieldType) := [(ca 0, .int), (ca 1, .long), (ca 2, .byte), (ca 3, .boolean)]
def mj_sz (base : Nat) (σ : mj_S) (H : Heap) : Prop := H.size = base + σ.1 ∨ (mj_shl.length ≤ σ.1 ∧ base + σ.1 ≤ H.size)
def mj_H (D : va_G) (ca : Nat → ClassId) (base : Nat) (σ : mj_S) (H : Heap) : Prop := va_P D vwCl (mj_wd ca base σ) H ∧ mj_sz base σ H
def mj_A (base : Nat) : Nat → Prop := fun q => base ≤ q
theorem mj_wd_get {ca : Nat → ClassId} {base : Nat} {σ : mj_S} {k : Nat} (h : k < σ.1) : (mj_wd ca base σ)[k]? = some (base + k, mj_ce ca base σ k) := by
  unfold mj_wd
  rw [List.getElem?_map, List.getElem?_range h]
  rfl
theorem mj_wd_len (ca : Nat → ClassId) (base : Nat) (σ : mj_S) : (mj_wd ca base σ).length = σ.1 := by
  unfold mj_wd
  rw [List.length_map, List.length_range]
theorem mj_wd_inv {ca : Nat → ClassId} {base : Nat} {σ : mj_S} {k : Nat} {q : Nat × va_E} (h : (mj_wd ca base σ)[k]? = some q) : k < σ.1 ∧ q = (base + k, mj_ce ca base σ k) := by
  have hl : k < σ.1 := by rw [← mj_wd_len ca base σ]; exact (List.getElem?_eq_some_iff.mp h).1
  rw [mj_wd_get hl] at h
  exact ⟨hl, (Option.some.inj h).symm⟩
theorem mj_wd_D (ca : Nat → ClassId) (base : Nat) (σ : mj_S) : va_D (mj_A base) (mj_wd ca base σ) := by
  refine ⟨fun i j x y hi hj e => ?_, fun k q h => ?_⟩
  · obtain ⟨-, rfl⟩ := mj_wd_inv hi
    obtain ⟨-, rfl⟩ := mj_wd_inv hj
    have e2 : base + i = base + j := e
    omega
  · obtain ⟨-, rfl⟩ := mj_wd_inv h
    exact Nat.le_add_right base k
theorem mj_ce_congr {ca : Nat → ClassId} {base : Nat} {σ τ : mj_S} {k : Nat} (h1 : τ.2.1 k = σ.2.1 k) (h2 : τ.2.2.1 k = σ.2.2.1 k) (h3 : τ.2.2.2 k = σ.2.2.2 k) : mj_ce ca base τ k = mj_ce ca base σ k := by
  have e : ∀ c, mj_fv base τ c k = mj_fv base σ c k := fun c => by
    funext j
    unfold mj_fv
    rw [h1, h2, h3]
  unfold mj_ce
  simp only [h1, h2, e]
/-- one cell is another one now -/
theorem mj_wd_set {ca : Nat → ClassId} {base : Nat} {σ τ : mj_S} {k : Nat} {E : va_E} (hn : τ.1 = σ.1) (hk : mj_ce ca base τ k = E) (ho : ∀ j, j ≠ k → mj_ce ca base τ j = mj_ce ca base σ j) : (mj_wd ca base σ).set k (base + k, E) = mj_wd ca base τ := by
  apply List.ext_getElem?
  intro j
  by_cases hj : j < σ.1
  · rw [mj_wd_get (σ := τ) (by omega)]
    by_cases e : j = k
    · subst e
      rw [List.getElem?_set_self (by rw [mj_wd_len]; exact hj), hk]
    · rw [List.getElem?_set_ne (Ne.symm e), mj_wd_get hj, ho j e]
  · rw [List.getElem?_eq_none (by rw [List.length_set, mj_wd_len]; omega), List.getElem?_eq_none (by rw [mj_wd_len]; omega)]
theorem mj_ce_1 {ca : Nat → ClassId} {base : Nat} {σ : mj_S} {k : Nat} (h : mj_sh k = 1) : mj_ce ca base σ k = .inl (ca 0, mj_ln k, .inl (σ.2.1 k)) := by unfold mj_ce; rw [h]; rfl
theorem mj_ce_2 {ca : Nat → ClassId} {base : Nat} {σ : mj_S} {k : Nat} (h : mj_sh k = 2) : mj_ce ca base σ k = .inl (ca 1, mj_ln k, .inr (.inl (σ.2.2.1 k))) := by unfold mj_ce; rw [h]; rfl
theorem mj_ce_3 {ca : Nat → ClassId} {base : Nat} {σ : mj_S} {k : Nat} (h : mj_sh k = 3) : mj_ce ca base σ k = .inl (ca 2, mj_ln k, .inl (σ.2.1 k)) := by unfold mj_ce; rw [h]; rfl
theorem mj_ce_4 {ca : Nat → ClassId} {base : Nat} {σ : mj_S} {k : Nat} (h : mj_sh k = 4) : mj_ce ca base σ k = .inl (ca 3, mj_ln k, .inl (σ.2.1 k)) := by unfold mj_ce; rw [h]; rfl
theorem mj_ce_o {ca : Nat → ClassId} {base : Nat} {σ : mj_S} {k c : Nat} (h : mj_sh k = 10 + c) : mj_ce ca base σ k = .inr (c, (List.range (mj_ln k)).map (mj_fv base σ c k)) := by
  unfold mj_ce
  rw [h]
  have e : 10 + c - 10 = c := by omega
  split
  · omega
  · omega
  · omega
  · omega
  · rename_i q _ _ _ _
    rw [e]
theorem mj_fs_get {base : Nat} {σ : mj_S} {c k N j : Nat} (h : j < N) : ((List.range N).map (mj_fv base σ c k))[j]? = some (mj_fv base σ c k j) := by
  rw [List.getElem?_map, List.getElem?_range h]
  rfl
theorem mj_fs_set {base : Nat} {σ τ : mj_S} {c k N j : Nat} {v : Value} (hj : mj_fv base τ c k j = v) (ho : ∀ i, i ≠ j → mj_fv base τ c k i = mj_fv base σ c k i) : ((List.range N).map (mj_fv base σ c k)).set j v = (List.range N).map (mj_fv base τ c k) := by
  apply List.ext_getElem?
  intro i
  by_cases hi : i < N
  · rw [mj_fs_get hi]
    by_cases e : i = j
    · subst e
      rw [List.getElem?_set_self (by rw [List.length_map, List.length_range]; exact hi), hj]
    · rw [List.getElem?_set_ne (Ne.symm e), mj_fs_get hi, ho i e]
  · rw [List.getElem?_eq_none (by rw [List.length_set, List.length_map, List.length_range]; omega), List.getElem?_eq_none (by rw [List.length_map, List.length_range]; omega)]
theorem mj_upI_ne {I : mj_I} {k j c : Nat} {v : Int32} (h : c ≠ k) : mj_upI I k j v c = I c := by unfold mj_upI; rw [if_neg h]
theorem mj_upI_eq {I : mj_I} {k j : Nat} {v : Int32} : mj_upI I k j v k = upd (I k) j v := by unfold mj_upI; rw [if_pos rfl]
theorem mj_upL_ne {L : mj_L} {k j c : Nat} {v : Int64} (h : c ≠ k) : mj_upL L k j v c = L c := by unfold mj_upL; rw [if_neg h]
theorem mj_upL_eq {L : mj_L} {k j : Nat} {v : Int64} : mj_upL L k j v k = vp_updL (L k) j v := by unfold mj_upL; rw [if_pos rfl]
theorem mj_upP_ne {P : mj_P} {k j c : Nat} {v : Option Nat} (h : c ≠ k) : mj_upP P k j v c = P c := by unfold mj_upP; rw [if_neg h]
theorem mj_upP_eq {P : mj_P} {k j : Nat} {v : Option Nat} : mj_upP P k j v k = va_up (P k) j v := by unfold mj_upP; rw [if_pos rfl]
theorem mj_seI_ne {I : mj_I} {k c : Nat} {f : Nat → Int32} (h : c ≠ k) : mj_seI I k f c = I c := by unfold mj_seI; rw [if_neg h]
theorem mj_seI_eq {I : mj_I} {k : Nat} {f : Nat → Int32} : mj_seI I k f k = f := by unfold mj_seI; rw [if_pos rfl]
theorem mj_seL_ne {L : mj_L} {k c : Nat} {f : Nat → Int64} (h : c ≠ k) : mj_seL L k f c = L c := by unfold mj_seL; rw [if_neg h]
theorem mj_seL_eq {L : mj_L} {k : Nat} {f : Nat → Int64} : mj_seL L k f k = f := by unfold mj_seL; rw [if_pos rfl]
theorem mj_seP_ne {P : mj_P} {k c : Nat} {f : Nat → Option Nat} (h : c ≠ k) : mj_seP P k f c = P c := by unfold mj_seP; rw [if_neg h]
theorem mj_seP_eq {P : mj_P} {k : Nat} {f : Nat → Option Nat} : mj_seP P k f k = f := by unfold mj_seP; rw [if_pos rfl]
/-- locals -/
def mj_ll (cv : Value → Value) : mj_Lo → Nat → List (Nat × Value)
  | [], _ => []
  | some v :: t, i => (i, cv v) :: mj_ll cv t (i + 1)
  | none :: t, i => mj_ll cv t (i + 1)
theorem mj_ll_mem {cv : Value → Value} : ∀ {lo : mj_Lo} {i o : Nat} {v : Value}, mj_get lo i = some v → (o + i, cv v) ∈ mj_ll cv lo o
  | [], i, o, v, h => by cases h
  | x :: t, 0, o, v, h => by
    have e : x = some v := h
    subst e
    exact List.mem_cons_self
  | x :: t, i + 1, o, v, h => by
    have h2 : mj_get t i = some v := h
    have h3 := mj_ll_mem (cv := cv) (o := o + 1) h2
    rw [show o + 1 + i = o + (i + 1) by omega] at h3
    cases x with
    | none => exact h3
    | some w => exact List.mem_cons_of_mem _ h3
theorem mj_ll_inv {cv : Value → Value} : ∀ {lo : mj_Lo} {o : Nat} {q : Nat × Value}, q ∈ mj_ll cv lo o → ∃ i v, mj_get lo i = some v ∧ q = (o + i, cv v)
  | [], o, q, h => by cases h
  | none :: t, o, q, h => by
    obtain ⟨i, v, h1, h2⟩ := mj_ll_inv (lo := t) (o := o + 1) h
    exact ⟨i + 1, v, h1, by rw [h2]; congr 1; omega⟩
  | some w :: t, o, q, h => by
    rcases List.mem_cons.mp h with rfl | h
    · exact ⟨0, w, rfl, rfl⟩
    · obtain ⟨i, v, h1, h2⟩ := mj_ll_inv (lo := t) (o := o + 1) h
      exact ⟨i + 1, v, h1, by rw [h2]; congr 1; omega⟩
theorem mj_set_len : ∀ (lo : mj_Lo) (a : Nat) (v : Option Value), (mj_set lo a v).length = lo.length
  | [], _, _ => rfl
  | _ :: _, 0, _ => rfl
  | _ :: t, n + 1, v => by
    show (mj_set t n v).length + 1 = t.length + 1
    rw [mj_set_len t n v]
theorem mj_get_ne : ∀ {lo : mj_Lo} {a i : Nat} {v : Option Value}, i ≠ a → mj_get (mj_set lo a v) i = mj_get lo i
  | [], _, _, _, _ => rfl
  | _ :: _, 0, 0, _, h => absurd rfl h
  | _ :: _, 0, _ + 1, _, _ => rfl
  | _ :: _, _ + 1, 0, _, _ => rfl
  | _ :: t, n + 1, i + 1, v, h => mj_get_ne (lo := t) (a := n) (i := i) (v := v) (by omega)
theorem mj_get_eq : ∀ {lo : mj_Lo} {a : Nat} {v : Option Value} {w : Value}, mj_get (mj_set lo a v) a = some w → v = some w
  | [], _, _, _, h => by cases h
  | _ :: _, 0, _, _, h => h
  | _ :: t, n + 1, v, w, h => mj_get_eq (lo := t) (a := n) h
def mj_LR (cv : Value → Value) (lo : mj_Lo) (ls : Array Slot) (nL : Nat) : Prop := lo.length = nL ∧ lv_has ls nL (mj_ll cv lo 0)
theorem mj_LR.at {cv : Value → Value} {lo : mj_Lo} {ls : Array Slot} {nL i : Nat} {v : Value} (h : mj_LR cv lo ls nL) (hg : mj_get lo i = some v) : ls[i]? = some (.val (cv v)) := by
  have h2 := h.2.2.2 _ (mj_ll_mem (cv := cv) (o := 0) hg)
  rw [Nat.zero_add] at h2
  exact h2
theorem mj_nlo_cat {lo : mj_Lo} {i : Nat} {v : Value} (h : mj_nlo lo (i + 1) = true) (hg : mj_get lo i = some v) : ¬ v.category = 2 := by
  have h' : (match mj_get lo i with
    | some (.long _) => false
    | some (.double _) => false
    | _ => true) = true := h
  rw [hg] at h'
  cases v <;> simp [Value.category] at h' ⊢
theorem mj_LR.st1 {base : Nat} {ext : Nat → Nat} {lo : mj_Lo} {ls ls' : Array Slot} {nL a : Nat} {v : Value} (h : mj_LR (mj_cv base ext) lo ls nL) (hn : mj_nlo lo a = true)
    (h2 : lv_has ls' nL ((a, mj_cv base ext v) :: (mj_ll (mj_cv base ext) lo 0).filter (fun q => !(q.1 == a) && !(q.1 + 1 == a && q.2.category == 2)))) : mj_LR (mj_cv base ext) (mj_set lo a (some v)) ls' nL := by
  refine ⟨by rw [mj_set_len]; exact h.1, h2.1, h2.2.1, fun q hq => ?_⟩
  obtain ⟨i, w, hg, rfl⟩ := mj_ll_inv hq
  rw [Nat.zero_add]
  by_cases e : i = a
  · subst e
    cases mj_get_eq hg
    exact h2.2.2 _ List.mem_cons_self
  · rw [mj_get_ne e] at hg
    refine h2.2.2 _ (List.mem_cons_of_mem _ (List.mem_filter.mpr ⟨?_, ?_⟩))
    · have h3 := mj_ll_mem (cv := mj_cv base ext) (o := 0) hg
      rw [Nat.zero_add] at h3
      exact h3
    · by_cases e2 : i + 1 = a
      · subst e2
        have h4 := mj_nlo_cat hn hg
        have h5 : ¬ (mj_cv base ext w).category = 2 := by rw [mj_cv_cat]; exact h4
        simp [h5]
      · simp [e, e2]
theorem mj_LR.st2 {base : Nat} {ext : Nat → Nat} {lo : mj_Lo} {ls ls' : Array Slot} {nL a : Nat} {v : Value} (h : mj_LR (mj_cv base ext) lo ls nL) (hn : mj_nlo lo a = true)
    (h2 : lv_has ls' nL ((a, mj_cv base ext v) :: (mj_ll (mj_cv base ext) lo 0).filter (fun q => !(q.1 == a) && (!(q.1 == a + 1) && !(q.1 + 1 == a && q.2.category == 2))))) : mj_LR (mj_cv base ext) (mj_set (mj_set lo a (some v)) (a + 1) none) ls' nL := by
  refine ⟨by rw [mj_set_len, mj_set_len]; exact h.1, h2.1, h2.2.1, fun q hq => ?_⟩
  obtain ⟨i, w, hg, rfl⟩ := mj_ll_inv hq
  rw [Nat.zero_add]
  by_cases e1 : i = a + 1
  · subst e1
    cases mj_get_eq hg
  · rw [mj_get_ne e1] at hg
    by_cases e : i = a
    · subst e
      cases mj_get_eq hg
      exact h2.2.2 _ List.mem_cons_self
    · rw [mj_get_ne e] at hg
      refine h2.2.2 _ (List.mem_cons_of_mem _ (List.mem_filter.mpr ⟨?_, ?_⟩))
      · have h3 := mj_ll_mem (cv := mj_cv base ext) (o := 0) hg
        rw [Nat.zero_add] at h3
        exact h3
      · by_cases e2 : i + 1 = a
        · subst e2
          have h4 := mj_nlo_cat hn hg
          have h5 : ¬ (mj_cv base ext w).category = 2 := by rw [mj_cv_cat]; exact h4
          simp [h5]
          omega
        · simp [e, e1, e2]
