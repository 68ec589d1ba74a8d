/-! soundness: switches, references given back, throws -/
theorem mj_sw_tab (x : Int32) (d : Nat) : ∀ (cs : List (Int32 × Nat)) (lo : Int), (∀ (i : Nat) (q : Int32 × Nat), cs[i]? = some q → q.1.toInt = lo + i) → ((x.toInt < lo ∨ lo + cs.length ≤ x.toInt) ∧ mj_sw cs d x = d) ∨ (lo ≤ x.toInt ∧ x.toInt < lo + cs.length ∧ ∃ q, cs[(x.toInt - lo).toNat]? = some q ∧ mj_sw cs d x = q.2)
  | [], lo, _ => Or.inl ⟨by simp only [List.length_nil]; omega, rfl⟩
  | q :: r, lo, h => by
    have h0 : q.1.toInt = lo := by have := h 0 q rfl; simpa using this
    have ih := mj_sw_tab x d r (lo + 1) (fun i z hz => by
      have := h (i + 1) z hz
      rw [this]; omega)
    have hl : ((q :: r).length : Int) = r.length + 1 := by simp
    rw [hl]
    unfold mj_sw
    by_cases e : x = q.1
    · subst e
      rw [if_pos rfl, h0]
      exact Or.inr ⟨by omega, by omega, q, by rw [Int.sub_self]; rfl, rfl⟩
    · rw [if_neg e]
      have hne : ¬ x.toInt = lo := fun z => e (Int32.toInt_inj.mp (by rw [h0]; exact z))
      rcases ih with ⟨h1, h2⟩ | ⟨h1, h2, z, h3, h4⟩
      · exact Or.inl ⟨by omega, h2⟩
      · refine Or.inr ⟨by omega, by omega, z, ?_, h4⟩
        rw [show (x.toInt - lo).toNat = (x.toInt - (lo + 1)).toNat + 1 by omega]
        exact h3
theorem mj_swu_at : ∀ (cs : List (Int32 × Nat)) (q0 : Int32 × Nat), mj_swu (q0 :: cs) = true → ∀ (i : Nat) (q : Int32 × Nat), (q0 :: cs)[i]? = some q → q.1.toInt = q0.1.toInt + i
  | [], q0, _, i, q, hq => by
    cases i with
    | zero => cases hq; simp
    | succ i => simp at hq
  | z :: r, q0, h, i, q, hq => by
    cases i with
    | zero => cases hq; simp
    | succ i =>
      simp only [mj_swu, Bool.and_eq_true, decide_eq_true_eq] at h
      have h2 := mj_swu_at r z h.2 i q hq
      rw [h2, h.1]
      omega
theorem mj_swl_off (pc d : Nat) (x : Int32) : ∀ (cs : List (Int32 × Nat)), Op.lookupswitch.offset (cs.map (fun z => (z.1.toInt, (z.2 : Int) - pc))) ((d : Int) - pc) x.toInt = (mj_sw cs d x : Int) - pc
  | [] => by rw [List.map_nil, Op.lookupswitch.offset_nil]; rfl
  | q :: r => by
    rw [List.map_cons, Op.lookupswitch.offset_cons]
    unfold mj_sw
    by_cases e : x = q.1
    · subst e
      rw [if_pos rfl, if_pos rfl]
    · rw [if_neg e, if_neg (fun z => e (Int32.toInt_inj.mp z.symm)), mj_swl_off pc d x r]
theorem mj_sws_ok : ∀ (cs : List (Int32 × Nat)) (pc : Nat), mj_sws cs = true → ((cs.map (fun z => (z.1.toInt, (z.2 : Int) - pc))).zip ((cs.map (fun z => (z.1.toInt, (z.2 : Int) - pc))).drop 1)).all (fun (a, next) => a.1 < next.1) = true
  | [], _, _ => rfl
  | [_], _, _ => rfl
  | q :: z :: r, pc, h => by
    simp only [mj_sws, Bool.and_eq_true, decide_eq_true_eq] at h
    have ih := mj_sws_ok (z :: r) pc h.2
    simp only [List.map_cons, List.drop_succ_cons, List.drop_zero, List.zip_cons_cons, List.all_cons, Bool.and_eq_true, decide_eq_true_eq] at ih ⊢
    exact ⟨h.1, ih⟩
theorem mj_sw_in : ∀ (cs : List (Int32 × Nat)) (d : Nat) (x : Int32), mj_sw cs d x = d ∨ ∃ q ∈ cs, mj_sw cs d x = q.2
  | [], _, _ => Or.inl rfl
  | q :: r, d, x => by
    unfold mj_sw
    split
    · exact Or.inr ⟨q, List.mem_cons_self, rfl⟩
    · rcases mj_sw_in r d x with h | ⟨z, hz, h⟩
      · exact Or.inl h
      · exact Or.inr ⟨z, List.mem_cons_of_mem _ hz, h⟩
/-- how the exceptions' constructors call their super class's -/
def mj_xi : Nat → Nat
  | 0 => 13
  | _ => 7
def mj_xb : Nat → ByteArray
  | 0 => ⟨#[0x2a, 0x2b, 0xb7, 0x00, 0x0d, 0xb1]⟩
  | _ => Bundle.six
def mj_xw (own : String) (a : Nat) : List Cond := mj_xS own (mj_ic a) (mj_xn a) (mj_xi a) (mj_xb a) "java/lang/RuntimeException" ["java/lang/Exception"]
def mj_fcT : Prop := ∀ q ∈ mj_pT, q.2.1 < 2 ∧ Cond.classLink (mj_cn q.1) q.2.2.2 (mj_xn q.2.1) ∈ mj_mw ∧ Cond.initialized (mj_xn q.2.1) ∈ mj_mw ∧ (∀ w ∈ mj_xw (mj_cn q.1) q.2.1, w ∈ mj_mw ∨ w = .castable (mj_xn q.2.1) (mj_xn q.2.1) ∨ ∃ y ∈ mj_dc, w = .declares (Bundle.initS y)) ∧ ∀ w ∈ Cond.classLink (mj_cn q.1) q.2.2.2 (mj_xn q.2.1) :: Cond.initialized (mj_xn q.2.1) :: mj_xw (mj_cn q.1) q.2.1, vx_ot w = true
/-- what the texts' ways take of the tables -/
def mj_vt : Nat → String × String × String
  | 0 => ("java/lang/String", "value", "[B")
  | 1 => ("java/lang/String", "coder", "B")
  | 2 => ("java/lang/String", "COMPACT_STRINGS", "Z")
  | _ => ("jdk/internal/util/Preconditions", "SIOOBE_FORMATTER", "Ljava/util/function/BiFunction;")
def mj_fcV : Prop := ∀ q ∈ mj_pV, Cond.fieldLink (mj_cn q.1) q.2.2 (mj_vt q.2.1).1 (mj_vt q.2.1).2.1 (mj_vt q.2.1).2.2 ∈ mj_mw
def mj_xm : Nat → MethodName
  | 0 => Lib.Math.max.name
  | 1 => Lib.Math.min.name
  | 2 => Lib.Math.abs.name
  | _ => Lib.MathLoose.max_long.x
def mj_fcX : Prop := (∀ q ∈ mj_pX, Cond.methodLink (mj_cn q.1) q.2.2 (mj_xm q.2.1) ∈ mj_mw) ∧ Cond.initialized "java/lang/Math" ∈ mj_mw ∧ (Cond.static Lib.Math.max.name ∈ mj_mw ∧ Cond.static Lib.Math.min.name ∈ mj_mw ∧ Cond.static Lib.Math.abs.name ∈ mj_mw ∧ Cond.static Lib.MathLoose.max_long.x ∈ mj_mw) ∧ Cond.code Lib.Math.max.name Lib.Math.max.code 2 (some .int) ∈ mj_mw ∧ Cond.code Lib.Math.min.name Lib.Math.min.code 2 (some .int) ∈ mj_mw ∧ Cond.code Lib.Math.abs.name Lib.Math.abs.code 1 (some .int) ∈ mj_mw ∧ Cond.code Lib.MathLoose.max_long.x Lib.MathLoose.max_long.code 4 (some .long) ∈ mj_mw
def mj_fcH : Prop := ∀ q ∈ mj_pH, Cond.classLink (mj_cn q.1) q.2.2 (mj_xn q.2.1) ∈ mj_mw
section S
variable {p : Program} {l : Launch} {e : Env} {R : Room} {s : State} {m : MethodId} {args : Array Value} {below : List Frame} {meth : Method} {c : Code} {H : Heap} {locs : List Loc} {cells slots : Nat} {Qf : State → Prop}
variable {D : va_G} {ca : Nat → ClassId} {base : Nat} {ext : Nat → Nat} {mm : Nat}
variable {is : List mj_O} {lo : mj_Lo} {st rest : List Value} {σ τ : mj_S} {bc bs pc a b x k d : Nat} {ls : Array Slot} {Q : mj_Q}
theorem mj_s24 (C : mj_Cx p s m args meth c D ca base mm) (ck : mj_ckop mm pc 24 a b x is = true) {v : Int32} (h : W p l e R s m args below meth c H locs cells slots Qf (F0 m (mj_sw (mj_swt a) b v) ls rest)) : W p l e R s m args below meth c H locs cells slots Qf (F0 m pc ls (.int v :: rest)) := by
  obtain ⟨hx, hb, -⟩ := C
  simp only [mj_ckop, Bool.and_eq_true, Bool.or_eq_true] at ck
  generalize mj_swt a = cs at ck h
  rcases ck.2 with ⟨⟨k1, k2⟩, k3⟩ | ⟨k1, k2⟩
  · obtain ⟨n, k1⟩ := mj_dx_ok k1
    cases cs with
    | nil => simp at k3
    | cons q r =>
      have hat := mj_swu_at r q k2
      have hle : ((q :: r).length : Int) = r.length + 1 := by simp
      rcases mj_sw_tab v b (q :: r) q.1.toInt hat with ⟨h1, h2⟩ | ⟨h1, h2, z, h3, h4⟩
      · rw [h2] at h
        exact lv_tableOut hx hb k1 (by rw [hle] at h1; omega) (by omega) h
      · rw [h4] at h
        refine lv_tableIn (off := (z.2 : Int) - pc) hx hb k1 (by omega) (by rw [hle] at h2; omega) ?_ (by omega) h
        rw [List.getElem?_toArray, List.getElem?_map, h3]
        rfl
  · obtain ⟨n, k1⟩ := mj_dx_ok k1
    exact lv_lookup hx hb k1 (mj_sws_ok cs pc k2) (mj_swl_off pc b v cs) (by omega) h
theorem mj_s29 (C : mj_Cx p s m args meth c D ca base mm) (hH : mj_H D ca base σ H) (hS : va_S (mj_A base) s.heap H locs) (ck : mj_ckop mm pc 29 a b x is = true) (hc : cells ≤ mj_mc mm) (hs : slots ≤ mj_ms mm) {v : Nat} (hq : Q (.inl (some (.ref v))) σ) :
    W p l e R s m args below meth c H locs cells slots (vx_MQ below (mj_Qc D ca base ext Q) (mj_XC D ca base Q) args s (mj_mc mm) (mj_ms mm) (mj_A base)) (F0 m pc ls [.ref (base + v)]) := by
  obtain ⟨hx, hb, hml, hown, hts, hK, hr, hlocks, -⟩ := C
  simp only [mj_ckop, Bool.and_eq_true] at ck
  have hn : ∃ n, mj_mr mm = some (.object n) := by
    have h := ck.2
    unfold mj_isO at h
    split at h
    · exact ⟨_, by assumption⟩
    · cases h
  obtain ⟨n, hn⟩ := hn
  rw [hn] at hr
  refine W.widen hc hs (vx_ret ?_)
  exact W.aret hx hb hr (Or.inl ⟨n, rfl⟩) (Or.inr ⟨_, rfl⟩) (mj_rq (ext := ext) hH hS hq) hS.2.2 (mj_dk_ok ck.1) hlocks
theorem mj_H.old (hH : mj_H D ca base σ H) {H1 : Heap} (hn : mj_shl.length ≤ σ.1) (hz : H.size ≤ H1.size) (ho : ∀ q : Nat, q < H.size → H1[q]? = H[q]?) : mj_H D ca base σ H1 := by
  refine ⟨hH.1.kept (fun k q hq => ho q.1 ((hH.1 k q hq).lt)), Or.inr ⟨hn, ?_⟩⟩
  rcases hH.2 with q | ⟨-, q⟩ <;> omega
theorem mj_s30 (C : mj_Cx p s m args meth c D ca base mm) (hl : l.stackTraces = false) (fT : mj_fcT) (hE : mj_X base ext s s.heap) (hH : mj_H D ca base σ H) (hS : va_S (mj_A base) s.heap H locs) (hlr : mj_LR (mj_cv base ext) lo ls (mj_ml mm)) (ck : mj_ckop mm pc 30 a b x is = true) (hcs : (rest.map fun v => v.category).sum ≤ 8) (hn : mj_shl.length ≤ σ.1) (hc1 : cells + 1 ≤ R.cells) (hs1 : slots + 6 ≤ R.slots) (hc : cells + 1 ≤ mj_mc mm) (hs : slots + 6 ≤ mj_ms mm) (hR1 : 8 ≤ R.frames) (hR2 : 100 ≤ R.locals) (hq : Q (.inr a) σ) :
    W p l e R s m args below meth c H locs cells slots (vx_MQ below (mj_Qc D ca base ext Q) (mj_XC D ca base Q) args s (mj_mc mm) (mj_ms mm) (mj_A base)) (F0 m pc ls rest) := by
  obtain ⟨hx, hb, hml, hown, hts, hK, hr, hlocks, -, -, hout⟩ := C
  simp only [mj_ckop, Bool.and_eq_true, Bool.or_eq_true, List.contains_iff_mem] at ck
  obtain ⟨⟨⟨⟨hm, k0⟩, k3⟩, k4⟩, hem⟩ := ck
  have hem : mj_hh mm = [] := List.isEmpty_iff.mp hem
  rw [hem] at hout
  have hout : ∀ z ∈ c.exceptionTable.toList, False := by
    intro z hz
    rw [hout] at hz
    cases hz
  obtain ⟨hlt, hcl, hin, hat, hot⟩ := fT _ hm
  obtain ⟨tx, sa, hstr⟩ := hE.2.2.2.2.1 _ hm
  have hat' : ∀ w ∈ mj_xw (mj_cn (mj_mo mm)) a, w.before args s = true := by
    intro w hw
    rcases hat w hw with h | h | ⟨y, hy, h⟩
    · exact hts w h
    · rw [h]
      exact va_Nw.use rfl (hE.2.1 a)
    · rw [h]
      exact va_Nw.use rfl (hE.2.2.2.2.2.2.2.2.2.2.2.2 y hy)
  have hlt : a < 2 := hlt
  have hfit : Bundle.fit (mj_xn a) = true := by
    rcases (by omega : a = 0 ∨ a = 1) with rfl | rfl <;> decide +kernel
  have hY : Bundle.fit "java/lang/RuntimeException" = true := by decide +kernel
  have hnm : ∀ n ∈ ["java/lang/Exception"], Bundle.fit n = true := by decide +kernel
  have hXC : ∀ t : State, s.vm.Alike t.vm → H.size ≤ t.heap.size → (∀ q : Nat, q < H.size → t.heap[q]? = H[q]?) → mj_XC D ca base Q (mj_xn a) s t := fun t _ hz ho => ⟨a, σ, rfl, hq, hH.old hn hz ho, Nat.le_trans hS.1 hz, fun q h1 h2 => (ho q (Nat.lt_of_lt_of_le h1 hS.1)).trans (hS.2.1 q h1 h2)⟩
  have r0 : decode (mj_xb a) 0 = .ok (.aload_n 0, 1) := by
    rcases (by omega : a = 0 ∨ a = 1) with rfl | rfl <;> decide +kernel
  have r1 : decode (mj_xb a) 1 = .ok (.aload_n 1, 1) := by
    rcases (by omega : a = 0 ∨ a = 1) with rfl | rfl <;> decide +kernel
  have r2 : decode (mj_xb a) 2 = .ok (.invokespecial (mj_xi a), 3) := by
    rcases (by omega : a = 0 ∨ a = 1) with rfl | rfl <;> decide +kernel
  have r5 : decode (mj_xb a) 5 = .ok (.return_, 1) := by
    rcases (by omega : a = 0 ∨ a = 1) with rfl | rfl <;> decide +kernel
  rcases k4 with ⟨⟨k4, k6⟩, k9⟩ | ⟨⟨k4, k6⟩, k9⟩
  · exact mj_throwX (k6 := pc + 6) hx hb hl hown hfit hY hnm r0 r1 r2 r5 (hts _ hcl) (hts _ hin) hstr hat' hot hE.2.2.1 hE.2.2.2.1 hS (by rw [hml]; exact hlr.2.1) (mj_dk_ok k0) (mj_dk_ok k3) (Or.inl ⟨mj_dk_ok k4, rfl⟩) (mj_dk_ok k6) (mj_dk_ok k9) (fun z hz => (hout z hz).elim) (by show 1 + 4 < _; omega) (by show _ + (13 * (1 + 2) + 43) ≤ _; omega) hc1 hs1 hlocks hXC hS.2.2 hc hs
  · exact mj_throwX (k6 := pc + 7) hx hb hl hown hfit hY hnm r0 r1 r2 r5 (hts _ hcl) (hts _ hin) hstr hat' hot hE.2.2.1 hE.2.2.2.1 hS (by rw [hml]; exact hlr.2.1) (mj_dk_ok k0) (mj_dk_ok k3) (Or.inr ⟨mj_dk_ok k4, rfl⟩) (mj_dk_ok k6) (mj_dk_ok k9) (fun z hz => (hout z hz).elim) (by show 1 + 4 < _; omega) (by show _ + (13 * (1 + 2) + 43) ≤ _; omega) hc1 hs1 hlocks hXC hS.2.2 hc hs
/-! texts -/
theorem mj_s55 (C : mj_Cx p s m args meth c D ca base mm) (hE : mj_X base ext s s.heap) (ck : mj_ckop mm pc 55 a b x is = true) (h : W p l e R s m args below meth c H locs cells slots Qf (F0 m (mj_pc is) ls (mj_cv base ext (.retAddr a) :: rest))) : W p l e R s m args below meth c H locs cells slots Qf (F0 m pc ls rest) := by
  obtain ⟨hx, hb, hml, hown, -⟩ := C
  simp only [mj_ckop, Bool.and_eq_true, List.contains_iff_mem, decide_eq_true_eq] at ck
  obtain ⟨⟨hm, ck⟩, ha⟩ := ck
  obtain ⟨k1, k2⟩ := mj_df_ok ck
  rw [k2, mj_cv_x (by omega)] at h
  obtain ⟨tx, hR⟩ := hE.2.2.2.2.2.2.1 _ hm
  exact va_ldcS hx hb hown hR k1 h
theorem mj_s56 (C : mj_Cx p s m args meth c D ca base mm) (fV : mj_fcV) (hE : mj_X base ext s s.heap) (hS : va_S (mj_A base) s.heap H locs) (ck : mj_ckop mm pc 56 a b x is = true) (hk : k < 2) (h : W p l e R s m args below meth c H locs cells slots Qf (F0 m (mj_pc is) ls (mj_cv base ext (.retAddr (2 + k)) :: rest))) : W p l e R s m args below meth c H locs cells slots Qf (F0 m pc ls (mj_cv base ext (.retAddr k) :: rest)) := by
  obtain ⟨hx, hb, hml, hown, hts, -⟩ := C
  simp only [mj_ckop, Bool.and_eq_true, List.contains_iff_mem] at ck
  obtain ⟨k1, k2⟩ := mj_df_ok ck.2
  rw [k2, mj_cv_x (by omega)] at h
  rw [mj_cv_x (by omega)]
  exact vk_getf hx hb ((hE.2.2.2.2.2.1.1 k hk).2.2.1) hS hown (hts _ (fV _ ck.1)) (fun _ h => h) k1 h
theorem mj_s57 (C : mj_Cx p s m args meth c D ca base mm) (fV : mj_fcV) (hE : mj_X base ext s s.heap) (hS : va_S (mj_A base) s.heap H locs) (ck : mj_ckop mm pc 57 a b x is = true) (hk : k < 2) (h : W p l e R s m args below meth c H locs cells slots Qf (F0 m (mj_pc is) ls (.int 0 :: rest))) : W p l e R s m args below meth c H locs cells slots Qf (F0 m pc ls (mj_cv base ext (.retAddr k) :: rest)) := by
  obtain ⟨hx, hb, hml, hown, hts, -⟩ := C
  simp only [mj_ckop, Bool.and_eq_true, List.contains_iff_mem] at ck
  obtain ⟨k1, k2⟩ := mj_df_ok ck.2
  rw [k2] at h
  rw [mj_cv_x (by omega)]
  exact vk_getf hx hb ((hE.2.2.2.2.2.1.1 k hk).2.1) hS hown (hts _ (fV _ ck.1)) (fun _ h => h) k1 h
theorem mj_s58 (C : mj_Cx p s m args meth c D ca base mm) (fV : mj_fcV) (hE : mj_X base ext s s.heap) (hS : va_S (mj_A base) s.heap H locs) (ck : mj_ckop mm pc 58 a b x is = true) (h : W p l e R s m args below meth c H locs cells slots Qf (F0 m (mj_pc is) ls (.int 1 :: rest))) : W p l e R s m args below meth c H locs cells slots Qf (F0 m pc ls rest) := by
  obtain ⟨hx, hb, hml, hown, hts, -⟩ := C
  simp only [mj_ckop, Bool.and_eq_true, List.contains_iff_mem] at ck
  obtain ⟨k1, k2⟩ := mj_df_ok ck.2
  rw [k2] at h
  exact va_gets hx hb hE.2.2.2.2.2.2.2.1 hS hown (hts _ (fV _ ck.1)) (fun _ h => h) k1 h
theorem mj_s59 (C : mj_Cx p s m args meth c D ca base mm) (fV : mj_fcV) (hE : mj_X base ext s s.heap) (hS : va_S (mj_A base) s.heap H locs) (ck : mj_ckop mm pc 59 a b x is = true) (h : W p l e R s m args below meth c H locs cells slots Qf (F0 m (mj_pc is) ls (mj_cv base ext (.retAddr 4) :: rest))) : W p l e R s m args below meth c H locs cells slots Qf (F0 m pc ls rest) := by
  obtain ⟨hx, hb, hml, hown, hts, -⟩ := C
  simp only [mj_ckop, Bool.and_eq_true, List.contains_iff_mem] at ck
  obtain ⟨k1, k2⟩ := mj_df_ok ck.2
  rw [k2] at h
  exact va_gets hx hb hE.2.2.2.2.2.2.2.2.1 hS hown (hts _ (fV _ ck.1)) (fun _ h => h) k1 h
theorem mj_s60 (C : mj_Cx p s m args meth c D ca base mm) (hE : mj_X base ext s s.heap) (hS : va_S (mj_A base) s.heap H locs) (ck : mj_ckop mm pc 60 a b x is = true) (hk : k < 2) (h : W p l e R s m args below meth c H locs cells slots Qf (F0 m (mj_pc is) ls (.int (nI (mj_txt k).length) :: rest))) : W p l e R s m args below meth c H locs cells slots Qf (F0 m pc ls (mj_cv base ext (.retAddr (2 + k)) :: rest)) := by
  obtain ⟨hx, hb, hml, hown, hts, -⟩ := C
  simp only [mj_ckop] at ck
  obtain ⟨k1, k2⟩ := mj_df_ok ck
  rw [k2] at h
  rw [mj_cv_x (by omega)]
  refine va_tlen hx hb ((hE.2.2.2.2.2.1.1 k hk).2.2.2) hS ?_ k1 h
  rcases (by omega : k = 0 ∨ k = 1) with rfl | rfl <;> rfl
theorem mj_getD_map (l : List Nat) (j : Nat) : (l.map nI).getD j 0 = nI (l.getD j 0) := by
  rw [List.getD_eq_getElem?_getD, List.getD_eq_getElem?_getD, List.getElem?_map]
  cases l[j]? <;> rfl
theorem mj_s61 (C : mj_Cx p s m args meth c D ca base mm) (hE : mj_X base ext s s.heap) (hS : va_S (mj_A base) s.heap H locs) (ck : mj_ckop mm pc 61 a b x is = true) (hk : k < 2) {i : Int32} (hi : vp_in i (mj_txt k).length) (h : W p l e R s m args below meth c H locs cells slots Qf (F0 m (mj_pc is) ls (.int (nI ((mj_txt k).getD i.toNatClampNeg 0)) :: rest))) : W p l e R s m args below meth c H locs cells slots Qf (F0 m pc ls (.int i :: mj_cv base ext (.retAddr (2 + k)) :: rest)) := by
  obtain ⟨hx, hb, hml, hown, hts, -⟩ := C
  simp only [mj_ckop] at ck
  obtain ⟨k1, k2⟩ := mj_df_ok ck
  rw [k2] at h
  rw [mj_cv_x (by omega)]
  refine va_tb hx hb ((hE.2.2.2.2.2.1.1 k hk).2.2.2) hS ?_ ?_ k1 h
  · rcases (by omega : k = 0 ∨ k = 1) with rfl | rfl <;> exact hi
  · rcases (by omega : k = 0 ∨ k = 1) with rfl | rfl
    · exact congrArg Value.int (mj_getD_map _ _)
    · exact congrArg Value.int (mj_getD_map _ _)
theorem mj_s63 (C : mj_Cx p s m args meth c D ca base mm) (hl : mj_LR (mj_cv base ext) lo ls (mj_ml mm)) (ck : mj_ckop mm pc 63 a b x is = true) {v : Nat} (hg : mj_get lo a = some (.retAddr v)) (h : W p l e R s m args below meth c H locs cells slots Qf (F0 m (mj_pc is) ls (mj_cv base ext (.retAddr v) :: rest))) : W p l e R s m args below meth c H locs cells slots Qf (F0 m pc ls rest) := by
  obtain ⟨hx, hb, -⟩ := C
  have hcat : (mj_cv base ext (.retAddr v)).category = 1 := by rw [mj_cv_cat]; rfl
  have hat := hl.at hg
  by_cases h4 : v = 4
  · subst h4
    cases he : ext 4 with
    | zero =>
      have e0 : mj_cv base ext (.retAddr 4) = .null := by
        show mj_nv (ext 4) = .null
        rw [he]; rfl
      rw [e0] at h hat
      rcases mj_d4_ok ck with ⟨k1, k2⟩ | ⟨i, e1, k1, k2⟩
      all_goals rw [k2] at h
      · exact lv_aloadN hx hb k1 hat h
      · exact lv_aload_nN hx hb k1 e1 hat h
    | succ n =>
      have e0 : mj_cv base ext (.retAddr 4) = .ref n := by
        show mj_nv (ext 4) = .ref n
        rw [he]; rfl
      rw [e0] at h hat
      rcases mj_d4_ok ck with ⟨k1, k2⟩ | ⟨i, e1, k1, k2⟩
      all_goals rw [k2] at h
      · exact lv_aload hx hb k1 hat h
      · exact lv_aload_n hx hb k1 e1 hat h
  · rw [mj_cv_x h4] at h hat
    rcases mj_d4_ok ck with ⟨k1, k2⟩ | ⟨i, e1, k1, k2⟩
    all_goals rw [k2] at h
    · exact lv_aload hx hb k1 hat h
    · exact lv_aload_n hx hb k1 e1 hat h
theorem mj_s64 (C : mj_Cx p s m args meth c D ca base mm) (hH : mj_H D ca base σ H) (hS : va_S (mj_A base) s.heap H locs) (ck : mj_ckop mm pc 64 a b x is = true) (hc : cells ≤ mj_mc mm) (hs : slots ≤ mj_ms mm) {v : Int32} (hv : narrow .char (.int v) = .int v) (hq : Q (.inl (some (.int v))) σ) :
    W p l e R s m args below meth c H locs cells slots (vx_MQ below (mj_Qc D ca base ext Q) (mj_XC D ca base Q) args s (mj_mc mm) (mj_ms mm) (mj_A base)) (F0 m pc ls [.int v]) := by
  obtain ⟨hx, hb, hml, hown, hts, hK, hr, hlocks, -⟩ := C
  simp only [mj_ckop, Bool.and_eq_true, decide_eq_true_eq] at ck
  rw [ck.2] at hr
  refine W.widen hc hs (vx_ret ?_)
  exact W.zret hx hb hr hv (mj_rq (ext := ext) hH hS hq) hS.2.2 (mj_dk_ok ck.1) hlocks
theorem mj_s65 (C : mj_Cx p s m args meth c D ca base mm) (hH : mj_H D ca base σ H) (hS : va_S (mj_A base) s.heap H locs) (ck : mj_ckop mm pc 65 a b x is = true) (hc : cells ≤ mj_mc mm) (hs : slots ≤ mj_ms mm) {v : Int32} (hv : narrow .byte (.int v) = .int v) (hq : Q (.inl (some (.int v))) σ) :
    W p l e R s m args below meth c H locs cells slots (vx_MQ below (mj_Qc D ca base ext Q) (mj_XC D ca base Q) args s (mj_mc mm) (mj_ms mm) (mj_A base)) (F0 m pc ls [.int v]) := by
  obtain ⟨hx, hb, hml, hown, hts, hK, hr, hlocks, -⟩ := C
  simp only [mj_ckop, Bool.and_eq_true, decide_eq_true_eq] at ck
  rw [ck.2] at hr
  refine W.widen hc hs (vx_ret ?_)
  exact W.zret hx hb hr hv (mj_rq (ext := ext) hH hS hq) hS.2.2 (mj_dk_ok ck.1) hlocks
theorem mj_s62 (C : mj_Cx p s m args meth c D ca base mm) (hw : ∀ w ∈ mj_ws mm, w.before args s = true) (fM : mj_fcM) (fQ : mj_fcQ) (hca : mj_cas ca s) (hE : mj_X base ext s s.heap) (hH : mj_H D ca base σ H) (hS : va_S (mj_A base) s.heap H locs) (hlr : mj_LR (mj_cv base ext) lo ls (mj_ml mm)) (ck : mj_ckop mm pc 62 a b x is = true) {As : List Value} {Q2 : mj_Q}
    (hct : mj_Ct l D ca base ext d a (.retAddr k :: As) σ Q2) (hno : ∀ k τ, ¬ Q2 (.inr k) τ) (hk : k < 2) (hAs : As.length = mj_mn a) (hcs : mj_cs rest ≤ 8) (hc1 : cells + mj_mc a ≤ R.cells) (hs1 : slots + mj_ms a ≤ R.slots) (hR1 : d + 9 ≤ R.frames) (hR2 : 100 * d + 300 ≤ R.locals)
    (kk : ∀ (v : Option Value) (τ : mj_S) (H1 : Heap) (locs1 : List Loc), Q2 (.inl v) τ → mj_H D ca base τ H1 → va_S (mj_A base) s.heap H1 locs1 → W p l e R s m args below meth c H1 locs1 (cells + mj_mc a) (slots + mj_ms a) Qf (F0 m (mj_pc is) ls ((v.toList ++ rest).map (mj_cv base ext)))) :
    W p l e R s m args below meth c H locs cells slots Qf (F0 m pc ls ((As.reverse ++ .retAddr k :: rest).map (mj_cv base ext))) := by
  have C0 := C
  obtain ⟨hx, hb, hml, hown, hts, hK, -⟩ := C
  simp only [mj_ckop, Bool.and_eq_true, List.contains_iff_mem] at ck
  obtain ⟨⟨hm, ck⟩, hkd⟩ := ck
  obtain ⟨k1, k2⟩ := mj_df_ok ck
  rw [k2] at kk
  obtain ⟨-, hcode, hcl, hmh, hvh, hdesc, hini, hml9, -, -, -, h0, -, hhe⟩ := fQ _ hkd
  have hhe : mj_hh a = [] := hhe (fun z => by cases z)
  obtain ⟨hinst, hsel, ho⟩ := h0 rfl
  have hml8 : mj_ml a ≤ 60 := hml9
  have ho : mj_mo a = 15 := ho
  have hG := mj_good_in (mm := mm) hcode
  have hct' : vx_Met l (mj_my a) (mj_ws a) (mj_rm d a) (va_Pc ((.ref (ext k)) :: As.map (mj_cv base ext)) (fun U => mj_H D ca base σ U.heap ∧ va_K D vwCl (mj_tys ca) U ∧ mj_cas ca U ∧ mj_X base ext U U.heap)) (mj_Qc D ca base ext Q2) (mj_XC D ca base Q2) (mj_mc a) (mj_ms a) (mj_A base) := by
    have h9 := hct
    unfold mj_Ct mj_Pc at h9
    rw [List.map_cons, mj_cv_x (by omega)] at h9
    exact h9
  rw [mj_map_rev, List.map_cons, mj_cv_x (by omega)]
  refine mj_after (rest := rest.map (mj_cv base ext)) (v0 := (.ref (ext k) :: As.map (mj_cv base ext)).toArray) (mc := mj_mc a) (ms := mj_ms a) hS (vx_runV (own := mj_cn (mj_mo mm)) (C := (mj_my a).cls) (Ts := mj_ws mm) (nL := mj_ml mm) (As := As.map (mj_cv base ext)) (b := ext k) (n := mj_mn a) ⟨hx, hb, hml, hown, hw⟩ hct' ⟨callB_of (ws' := mj_mw) (mj_mn a) hw hG (mj_ws_c hhe) rfl rfl (hts _ hini) (hts _ (fM _ hm)) ⟨hmh, hvh, hdesc⟩ ⟨by show d + 8 + 1 ≤ _; omega, by show 8 + (mj_ml a + 11) + (100 * d + 200) ≤ _; omega⟩, hts _ hinst, hts _ hsel⟩ ⟨?_, ?_, ?_⟩ rfl (by rw [List.length_map]; exact hAs) hlr.2.1 rfl (by show 2 * 0 + _ ≤ 8; rw [mj_cv_cs]; omega) k1 ⟨hc1, hs1⟩) (fun v τ H1 locs1 g1 g2 g3 => ?_) (fun k τ H1 locs1 q ce g1 g2 g3 g4 g5 g6 => absurd g1 (hno k τ))
  · have h9 := mj_blind (D := D) (ca := ca) (base := base) (ext := ext) (σ := σ) (as := .retAddr k :: As)
    unfold mj_Pc at h9
    rw [List.map_cons, mj_cv_x (by omega)] at h9
    exact h9
  · obtain ⟨cell, c1, c2, c3⟩ := vk_recv hE.2.2.2.2.2.1 hk hS
    refine ⟨cell, c1, c2, ?_⟩
    rw [hcl, ho]
    exact c3
  · have h9 := mj_pre (as := .retAddr k :: As) C0 hH hca hE hS
    unfold mj_Pc at h9
    rw [List.map_cons, mj_cv_x (by omega)] at h9
    exact h9
  · have h9 := kk v τ H1 locs1 g1 g2 g3
    rw [List.map_append] at h9
    cases v <;> exact h9
/-! Math -/
theorem mj_s70 (C : mj_Cx p s m args meth c D ca base mm) (fX : mj_fcX) (hlr : mj_LR (mj_cv base ext) lo ls (mj_ml mm)) (ck : mj_ckop mm pc 70 a b x is = true) (h1 : 1 ≤ R.frames) (h2 : (rest.map fun v => v.category).sum + 15 ≤ R.locals) (hc : cells ≤ R.cells) (hs : slots ≤ R.slots) {u v : Int32} (h : W p l e R s m args below meth c H locs cells slots Qf (F0 m (mj_pc is) ls (.int (if u < v then v else u) :: rest))) : W p l e R s m args below meth c H locs cells slots Qf (F0 m pc ls (.int v :: .int u :: rest)) := by
  obtain ⟨hx, hb, hml, hown, hts, -⟩ := C
  simp only [mj_ckop, Bool.and_eq_true, List.contains_iff_mem] at ck
  obtain ⟨k1, k2⟩ := mj_df_ok ck.2
  rw [k2] at h
  exact va_mmax hx hb (by rw [hml]; exact hlr.2.1.symm) hown (hts _ (fX.1 _ ck.1)) (hts _ fX.2.2.1.1) (hts _ fX.2.1) (hts _ fX.2.2.2.1) h1 (by omega) hc hs k1 h
theorem mj_s71 (C : mj_Cx p s m args meth c D ca base mm) (fX : mj_fcX) (hlr : mj_LR (mj_cv base ext) lo ls (mj_ml mm)) (ck : mj_ckop mm pc 71 a b x is = true) (h1 : 1 ≤ R.frames) (h2 : (rest.map fun v => v.category).sum + 15 ≤ R.locals) (hc : cells ≤ R.cells) (hs : slots ≤ R.slots) {u v : Int32} (h : W p l e R s m args below meth c H locs cells slots Qf (F0 m (mj_pc is) ls (.int (if v < u then v else u) :: rest))) : W p l e R s m args below meth c H locs cells slots Qf (F0 m pc ls (.int v :: .int u :: rest)) := by
  obtain ⟨hx, hb, hml, hown, hts, -⟩ := C
  simp only [mj_ckop, Bool.and_eq_true, List.contains_iff_mem] at ck
  obtain ⟨k1, k2⟩ := mj_df_ok ck.2
  rw [k2] at h
  exact va_mmin hx hb (by rw [hml]; exact hlr.2.1.symm) hown (hts _ (fX.1 _ ck.1)) (hts _ fX.2.2.1.2.1) (hts _ fX.2.1) (hts _ fX.2.2.2.2.1) h1 (by omega) hc hs k1 h
theorem mj_s72 (C : mj_Cx p s m args meth c D ca base mm) (fX : mj_fcX) (hlr : mj_LR (mj_cv base ext) lo ls (mj_ml mm)) (ck : mj_ckop mm pc 72 a b x is = true) (h1 : 1 ≤ R.frames) (h2 : (rest.map fun v => v.category).sum + 15 ≤ R.locals) (hc : cells ≤ R.cells) (hs : slots ≤ R.slots) {u : Int32} (h : W p l e R s m args below meth c H locs cells slots Qf (F0 m (mj_pc is) ls (.int (if 0 ≤ u then u else 0 - u) :: rest))) : W p l e R s m args below meth c H locs cells slots Qf (F0 m pc ls (.int u :: rest)) := by
  obtain ⟨hx, hb, hml, hown, hts, -⟩ := C
  simp only [mj_ckop, Bool.and_eq_true, List.contains_iff_mem] at ck
  obtain ⟨k1, k2⟩ := mj_df_ok ck.2
  rw [k2] at h
  exact va_mabs hx hb (by rw [hml]; exact hlr.2.1.symm) hown (hts _ (fX.1 _ ck.1)) (hts _ fX.2.2.1.2.2.1) (hts _ fX.2.1) (hts _ fX.2.2.2.2.2.1) h1 (by omega) hc hs k1 h
theorem mj_s73 (C : mj_Cx p s m args meth c D ca base mm) (fX : mj_fcX) (hlr : mj_LR (mj_cv base ext) lo ls (mj_ml mm)) (ck : mj_ckop mm pc 73 a b x is = true) (h1 : 1 ≤ R.frames) (h2 : (rest.map fun v => v.category).sum + 15 ≤ R.locals) (hc : cells ≤ R.cells) (hs : slots ≤ R.slots) {u v : Int64} (h : W p l e R s m args below meth c H locs cells slots Qf (F0 m (mj_pc is) ls (.long (if v < u then u else v) :: rest))) : W p l e R s m args below meth c H locs cells slots Qf (F0 m pc ls (.long v :: .long u :: rest)) := by
  obtain ⟨hx, hb, hml, hown, hts, -⟩ := C
  simp only [mj_ckop, Bool.and_eq_true, List.contains_iff_mem] at ck
  obtain ⟨k1, k2⟩ := mj_df_ok ck.2
  rw [k2] at h
  exact va_mmax_long hx hb (by rw [hml]; exact hlr.2.1.symm) hown (hts _ (fX.1 _ ck.1)) (hts _ fX.2.2.1.2.2.2) (hts _ fX.2.1) (hts _ fX.2.2.2.2.2.2) h1 (by omega) hc hs k1 h
/-! the script -/
theorem mj_s67 (C : mj_Cx p s m args meth c D ca base mm) (hE : mj_X base ext s s.heap) (hS : va_S (mj_A base) s.heap H locs) (ck : mj_ckop mm pc 67 a b x is = true) {i : Int32} (hi : vp_in i (ext 999)) (h : W p l e R s m args below meth c H locs cells slots Qf (F0 m (mj_pc is) ls (.int (mj_sci ext i.toNatClampNeg) :: rest))) : W p l e R s m args below meth c H locs cells slots Qf (F0 m pc ls (.int i :: mj_cv base ext (.retAddr 5) :: rest)) := by
  obtain ⟨hx, hb, hml, hown, hts, -⟩ := C
  simp only [mj_ckop] at ck
  obtain ⟨k1, k2⟩ := mj_df_ok ck
  rw [k2] at h
  rw [mj_cv_x (by omega)]
  exact va_ti hx hb hE.2.2.2.2.2.2.2.2.2.1 hS hi rfl k1 h
theorem mj_s68 (C : mj_Cx p s m args meth c D ca base mm) (hE : mj_X base ext s s.heap) (hS : va_S (mj_A base) s.heap H locs) (ck : mj_ckop mm pc 68 a b x is = true) (h : W p l e R s m args below meth c H locs cells slots Qf (F0 m (mj_pc is) ls (.int (nI (ext 999)) :: rest))) : W p l e R s m args below meth c H locs cells slots Qf (F0 m pc ls (mj_cv base ext (.retAddr 5) :: rest)) := by
  obtain ⟨hx, hb, hml, hown, hts, -⟩ := C
  simp only [mj_ckop] at ck
  obtain ⟨k1, k2⟩ := mj_df_ok ck
  rw [k2] at h
  rw [mj_cv_x (by omega)]
  exact va_tlen hx hb hE.2.2.2.2.2.2.2.2.2.1 hS rfl k1 h
end S
