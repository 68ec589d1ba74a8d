/-! soundness: switches, references given back, throws -/
theorem mj_sw_tab (x : Int32) (d : Nat) : ∀ (cs : List (Int32 × Nat)) (lo : Int), (∀ (i : Nat) (q : Int32 × Nat), cs[i]? = some q → q.1.toInt = lo + i) → ((x.toInt < lo ∨ lo + cs.length ≤ x.toInt) ∧ mj_sw cs d x = d) ∨ (lo ≤ x.toInt ∧ x.toInt < lo + cs.length ∧ ∃ q, cs[(x.toInt - lo).toNat]? = some q ∧ mj_sw cs d x = q.2)
  | [], lo, _ => Or.inl ⟨by simp only [List.length_nil]; omega, rfl⟩
  | q :: r, lo, h => by
    have h0 : q.1.toInt = lo := by have := h 0 q rfl; simpa using this
    have ih := mj_sw_tab x d r (lo + 1) (fun i z hz => by
      have := h (i + 1) z hz
      rw [this]; omega)
    have hl : ((q :: r).length : Int) = r.length + 1 := by simp
    rw [hl]
    unfold mj_sw
    by_cases e : x = q.1
    · subst e
      rw [if_pos rfl, h0]
      exact Or.inr ⟨by omega, by omega, q, by rw [Int.sub_self]; rfl, rfl⟩
    · rw [if_neg e]
      have hne : ¬ x.toInt = lo := fun z => e (Int32.toInt_inj.mp (by rw [h0]; exact z))
      rcases ih with ⟨h1, h2⟩ | ⟨h1, h2, z, h3, h4⟩
      · exact Or.inl ⟨by omega, h2⟩
      · refine Or.inr ⟨by omega, by omega, z, ?_, h4⟩
        rw [show (x.toInt - lo).toNat = (x.toInt - (lo + 1)).toNat + 1 by omega]
        exact h3
theorem mj_swu_at : ∀ (cs : List (Int32 × Nat)) (q0 : Int32 × Nat), mj_swu (q0 :: cs) = true → ∀ (i : Nat) (q : Int32 × Nat), (q0 :: cs)[i]? = some q → q.1.toInt = q0.1.toInt + i
  | [], q0, _, i, q, hq => by
    cases i with
    | zero => cases hq; simp
    | succ i => simp at hq
  | z :: r, q0, h, i, q, hq => by
    cases i with
    | zero => cases hq; simp
    | succ i =>
      simp only [mj_swu, Bool.and_eq_true, decide_eq_true_eq] at h
      have h2 := mj_swu_at r z h.2 i q hq
      rw [h2, h.1]
      omega
theorem mj_swl_off (pc d : Nat) (x : Int32) : ∀ (cs : List (Int32 × Nat)), Op.lookupswitch.offset (cs.map (fun z => (z.1.toInt, (z.2 : Int) - pc))) ((d : Int) - pc) x.toInt = (mj_sw cs d x : Int) - pc
  | [] => by rw [List.map_nil, Op.lookupswitch.offset_nil]; rfl
  | q :: r => by
    rw [List.map_cons, Op.lookupswitch.offset_cons]
    unfold mj_sw
    by_cases e : x = q.1
    · subst e
      rw [if_pos rfl, if_pos rfl]
    · rw [if_neg e, if_neg (fun z => e (Int32.toInt_inj.mp z.symm)), mj_swl_off pc d x r]
theorem mj_sws_ok : ∀ (cs : List (Int32 × Nat)) (pc : Nat), mj_sws cs = true → ((cs.map (fun z => (z.1.toInt, (z.2 : Int) - pc))).zip ((cs.map (fun z => (z.1.toInt, (z.2 : Int) - pc))).drop 1)).all (fun (a, next) => a.1 < next.1) = true
  | [], _, _ => rfl
  | [_], _, _ => rfl
  | q :: z :: r, pc, h => by
    simp only [mj_sws, Bool.and_eq_true, decide_eq_true_eq] at h
    have ih := mj_sws_ok (z :: r) pc h.2
    simp only [List.map_cons, List.drop_succ_cons, List.drop_zero, List.zip_cons_cons, List.all_cons, Bool.and_eq_true, decide_eq_true_eq] at ih ⊢
    exact ⟨h.1, ih⟩
theorem mj_sw_in : ∀ (cs : List (Int32 × Nat)) (d : Nat) (x : Int32), mj_sw cs d x = d ∨ ∃ q ∈ cs, mj_sw cs d x = q.2
  | [], _, _ => Or.inl rfl
  | q :: r, d, x => by
    unfold mj_sw
    split
    · exact Or.inr ⟨q, List.mem_cons_self, rfl⟩
    · rcases mj_sw_in r d x with h | ⟨z, hz, h⟩
      · exact Or.inl h
      · exact Or.inr ⟨z, List.mem_cons_of_mem _ hz, h⟩
def mj_fcT : Prop := ∀ q ∈ mj_pT, q.2.1 < 2 ∧ Cond.classLink (mj_cn q.1) q.2.2.2 (mj_xn q.2.1) ∈ mj_mw ∧ Cond.initialized (mj_xn q.2.1) ∈ mj_mw ∧ (∀ w ∈ vx_atS (mj_cn q.1) (mj_ic q.2.1) (mj_xn q.2.1) ["java/lang/RuntimeException", "java/lang/Exception"], w ∈ mj_mw ∨ w = .castable (mj_xn q.2.1) (mj_xn q.2.1)) ∧ ∀ w ∈ Cond.classLink (mj_cn q.1) q.2.2.2 (mj_xn q.2.1) :: Cond.initialized (mj_xn q.2.1) :: vx_atS (mj_cn q.1) (mj_ic q.2.1) (mj_xn q.2.1) ["java/lang/RuntimeException", "java/lang/Exception"], vx_ot w = true
section S
variable {p : Program} {l : Launch} {e : Env} {R : Room} {s : State} {m : MethodId} {args : Array Value} {below : List Frame} {meth : Method} {c : Code} {H : Heap} {locs : List Loc} {cells slots : Nat} {Qf : State → Prop}
variable {D : va_G} {ca : Nat → ClassId} {base : Nat} {ext : Nat → Nat} {mm : Nat}
variable {is : List mj_O} {lo : mj_Lo} {st rest : List Value} {σ τ : mj_S} {bc bs pc a b x k d : Nat} {ls : Array Slot} {Q : mj_Q}
theorem mj_s24 (C : mj_Cx p s m args meth c D ca base mm) (ck : mj_ckop mm pc 24 a b x is = true) {v : Int32} (h : W p l e R s m args below meth c H locs cells slots Qf (F0 m (mj_sw (mj_swt a) b v) ls rest)) : W p l e R s m args below meth c H locs cells slots Qf (F0 m pc ls (.int v :: rest)) := by
  obtain ⟨hx, hb, -⟩ := C
  simp only [mj_ckop, Bool.and_eq_true, Bool.or_eq_true] at ck
  generalize mj_swt a = cs at ck h
  rcases ck.2 with ⟨⟨k1, k2⟩, k3⟩ | ⟨k1, k2⟩
  · obtain ⟨n, k1⟩ := mj_dx_ok k1
    cases cs with
    | nil => simp at k3
    | cons q r =>
      have hat := mj_swu_at r q k2
      have hle : ((q :: r).length : Int) = r.length + 1 := by simp
      rcases mj_sw_tab v b (q :: r) q.1.toInt hat with ⟨h1, h2⟩ | ⟨h1, h2, z, h3, h4⟩
      · rw [h2] at h
        exact lv_tableOut hx hb k1 (by rw [hle] at h1; omega) (by omega) h
      · rw [h4] at h
        refine lv_tableIn (off := (z.2 : Int) - pc) hx hb k1 (by omega) (by rw [hle] at h2; omega) ?_ (by omega) h
        rw [List.getElem?_toArray, List.getElem?_map, h3]
        rfl
  · obtain ⟨n, k1⟩ := mj_dx_ok k1
    exact lv_lookup hx hb k1 (mj_sws_ok cs pc k2) (mj_swl_off pc b v cs) (by omega) h
theorem mj_s29 (C : mj_Cx p s m args meth c D ca base mm) (hH : mj_H D ca base σ H) (hS : va_S (mj_A base) s.heap H locs) (ck : mj_ckop mm pc 29 a b x is = true) (hc : cells ≤ mj_mc mm) (hs : slots ≤ mj_ms mm) {v : Nat} (hq : Q (.inl (some (.ref v))) σ) :
    W p l e R s m args below meth c H locs cells slots (vx_MQ below (mj_Qc D ca base ext Q) (mj_XC D ca base Q) args s (mj_mc mm) (mj_ms mm) (mj_A base)) (F0 m pc ls [.ref (base + v)]) := by
  obtain ⟨hx, hb, hml, hown, hts, hK, hr, hlocks, -⟩ := C
  simp only [mj_ckop, Bool.and_eq_true] at ck
  have hn : ∃ n, mj_mr mm = some (.object n) := by
    have h := ck.2
    unfold mj_isO at h
    split at h
    · exact ⟨_, by assumption⟩
    · cases h
  obtain ⟨n, hn⟩ := hn
  rw [hn] at hr
  refine W.widen hc hs (vx_ret ?_)
  exact W.aret hx hb hr (Or.inl ⟨n, rfl⟩) (Or.inr ⟨_, rfl⟩) (mj_rq (ext := ext) hH hS hq) hS.2.2 (mj_dk_ok ck.1) hlocks
theorem mj_H.old (hH : mj_H D ca base σ H) {H1 : Heap} (hn : mj_shl.length ≤ σ.1) (hz : H.size ≤ H1.size) (ho : ∀ q : Nat, q < H.size → H1[q]? = H[q]?) : mj_H D ca base σ H1 := by
  refine ⟨hH.1.kept (fun k q hq => ho q.1 ((hH.1 k q hq).lt)), Or.inr ⟨hn, ?_⟩⟩
  rcases hH.2 with q | ⟨-, q⟩ <;> omega
theorem mj_s30 (C : mj_Cx p s m args meth c D ca base mm) (hl : l.stackTraces = false) (fT : mj_fcT) (hE : mj_X base ext s s.heap) (hH : mj_H D ca base σ H) (hS : va_S (mj_A base) s.heap H locs) (hlr : mj_LR (mj_cv base ext) lo ls (mj_ml mm)) (ck : mj_ckop mm pc 30 a b x is = true) (hcs : (rest.map fun v => v.category).sum ≤ 8) (hn : mj_shl.length ≤ σ.1) (hc1 : cells + 1 ≤ R.cells) (hs1 : slots + 6 ≤ R.slots) (hc : cells + 1 ≤ mj_mc mm) (hs : slots + 6 ≤ mj_ms mm) (hR1 : 8 ≤ R.frames) (hR2 : 100 ≤ R.locals) (hq : Q (.inr a) σ) :
    W p l e R s m args below meth c H locs cells slots (vx_MQ below (mj_Qc D ca base ext Q) (mj_XC D ca base Q) args s (mj_mc mm) (mj_ms mm) (mj_A base)) (F0 m pc ls rest) := by
  obtain ⟨hx, hb, hml, hown, hts, hK, hr, hlocks, -, -, hout⟩ := C
  simp only [mj_ckop, Bool.and_eq_true, Bool.or_eq_true, List.contains_iff_mem] at ck
  obtain ⟨⟨⟨hm, k0⟩, k3⟩, k4⟩ := ck
  obtain ⟨hlt, hcl, hin, hat, hot⟩ := fT _ hm
  obtain ⟨tx, sa, hstr⟩ := hE.2.2.2.2.1 _ hm
  have hat' : ∀ w ∈ vx_atS (mj_cn (mj_mo mm)) (mj_ic a) (mj_xn a) ["java/lang/RuntimeException", "java/lang/Exception"], w.before args s = true := by
    intro w hw
    rcases hat w hw with h | h
    · exact hts w h
    · rw [h]
      exact va_Nw.use rfl (hE.2.1 a)
  have hfit : Bundle.fit (mj_xn a) = true := by
    have hlt : a < 2 := hlt
    rcases (by omega : a = 0 ∨ a = 1) with rfl | rfl <;> decide +kernel
  have hnm : ∀ n ∈ ["java/lang/RuntimeException", "java/lang/Exception"], Bundle.fit n = true := by decide +kernel
  have hXC : ∀ t : State, s.vm.Alike t.vm → H.size ≤ t.heap.size → (∀ q : Nat, q < H.size → t.heap[q]? = H[q]?) → mj_XC D ca base Q (mj_xn a) s t := fun t _ hz ho => ⟨a, σ, rfl, hq, hH.old hn hz ho, Nat.le_trans hS.1 hz, fun q h1 h2 => (ho q (Nat.lt_of_lt_of_le h1 hS.1)).trans (hS.2.1 q h1 h2)⟩
  rcases k4 with ⟨⟨k4, k6⟩, k9⟩ | ⟨⟨k4, k6⟩, k9⟩
  · exact vx_throwS hx hb hl hown hfit hnm (hts _ hcl) (hts _ hin) hstr hat' hot hE.2.2.1 hE.2.2.2.1 hS (by rw [hml]; exact hlr.2.1) (mj_dk_ok k0) (mj_dk_ok k3) (mj_dk_ok k4) (mj_dk_ok k6) (mj_dk_ok k9) (fun z hz => (hout z hz).elim) (by show 2 + 3 < _; omega) (by show _ + (13 * (2 + 1) + 43) ≤ _; omega) hc1 hs1 hlocks hXC hS.2.2 hc hs
  · exact vx_throwSW hx hb hl hown hfit hnm (hts _ hcl) (hts _ hin) hstr hat' hot hE.2.2.1 hE.2.2.2.1 hS (by rw [hml]; exact hlr.2.1) (mj_dk_ok k0) (mj_dk_ok k3) (mj_dk_ok k4) (mj_dk_ok k6) (mj_dk_ok k9) (fun z hz => (hout z hz).elim) (by show 2 + 3 < _; omega) (by show _ + (13 * (2 + 1) + 43) ≤ _; omega) hc1 hs1 hlocks hXC hS.2.2 hc hs
end S
