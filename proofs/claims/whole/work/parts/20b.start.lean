/-! the law's walk out of its run in the small machine -/
theorem st_K {A : Array Value} {s : State} (hts : ∀ w ∈ lw_tbl, w.before A s = true) : ∃ (D : va_G) (ca : Nat → ClassId), va_K D vwCl (mj_tys ca) s ∧ mj_cas ca s := by
  have hm : ∀ w ∈ mj_mw, w.before A s = true := fun w hw => hts w (List.mem_filter.mp hw).1
  have h : ∀ c : Nat, ∃ q : ClassId × (Nat → Nat), ∀ z, vwCl[c]? = some z → u_Kn s z.1 z.2.1 z.2.2 q.1 q.2 := by
    intro c
    cases hc : vwCl[c]? with
    | none => exact ⟨(0, fun _ => 0), fun z hz => by cases hz⟩
    | some z =>
      obtain ⟨C, T, N⟩ := z
      obtain ⟨h1, -, h3, -⟩ := mj_fcK_ok c C T N hc
      obtain ⟨cC, iS, hk⟩ := u_known (ws := mj_mw) hm h1 (hm _ h3)
      exact ⟨(cC, iS), fun z hz => by cases hz; exact hk⟩
  obtain ⟨f, hf⟩ := Classical.axiomOfChoice h
  obtain ⟨c0, k0, p0, a0, b0, d0⟩ := Cond.arrayClass_spec (hm _ mj_fcR_ok.1)
  obtain ⟨c1, k1, p1, a1, b1, d1⟩ := Cond.arrayClass_spec (hm _ mj_fcR_ok.2.1)
  obtain ⟨c2, k2, p2, a2, b2, d2⟩ := Cond.arrayClass_spec (hm _ mj_fcR_ok.2.2.1)
  obtain ⟨c3, k3, p3, a3, b3, d3⟩ := Cond.arrayClass_spec (hm _ mj_fcR_ok.2.2.2)
  refine ⟨(fun c => (f c).1, fun c => (f c).2), fun k => match k with
    | 0 => c0
    | 1 => c1
    | 2 => c2
    | _ => c3, ⟨fun c q hq => hf c q hq, fun k q hq => ?_⟩, ⟨a0, a1, a2, a3⟩⟩
  have hk : k < 4 := (List.getElem?_eq_some_iff.mp hq).1
  rcases (by omega : k = 0 ∨ k = 1 ∨ k = 2 ∨ k = 3) with rfl | rfl | rfl | rfl
  · cases hq; exact ⟨fun n z => ⟨fun k h => (by cases h), k0, b0, p0, d0⟩, a0⟩
  · cases hq; exact ⟨fun n z => ⟨fun k h => (by cases h), k1, b1, p1, d1⟩, a1⟩
  · cases hq; exact ⟨fun n z => ⟨fun k h => (by cases h), k2, b2, p2, d2⟩, a2⟩
  · cases hq; exact ⟨fun n z => ⟨fun k h => (by cases h), k3, b3, p3, d3⟩, a3⟩
/-- where the texts, the script lie; the script's numbers -/
def mj_ex (k0 k1 v0 v1 fm b L : Nat) (xs : Nat → Int32) : Nat → Nat := fun n =>
  if n = 0 then k0 else if n = 1 then k1 else if n = 2 then v0 else if n = 3 then v1 else if n = 4 then fm else if n = 5 then b else if n = 999 then L else (xs (n - 1000)).toUInt32.toNat
theorem mj_ex_sci {k0 k1 v0 v1 fm b L : Nat} {xs : Nat → Int32} (j : Nat) : mj_sci (mj_ex k0 k1 v0 v1 fm b L xs) j = xs j := by
  unfold mj_sci mj_ex
  rw [if_neg (by omega), if_neg (by omega), if_neg (by omega), if_neg (by omega), if_neg (by omega), if_neg (by omega), if_neg (by omega), show 1000 + j - 1000 = j by omega]
  apply Int32.toBitVec_inj.mp
  simp
def mj_Q1 : mj_Q := fun r _ => r = .inl (some (.int 1))
def mj_σ0 : mj_S := (0, fun _ _ => 0, fun _ _ => 0, fun _ _ => none)
/-- calls of the law: its script by two numbers of their own -/
def mj_sc (L : Nat) (xs : Nat → Int32) (d : Nat) : mj_F := fun m as σ Q => if m = 1000 then ∃ i, as = [.int i] ∧ vp_in i L ∧ Q (.inl (some (.int (xs i.toNatClampNeg)))) σ else if m = 1001 then Q (.inl (some (.int (nI L)))) σ else mj_ev d m as σ Q
theorem mj_sc_mono (L : Nat) (xs : Nat → Int32) (d : Nat) : mj_mono (mj_sc L xs d) := by
  intro m as σ Q Q' h k
  unfold mj_sc at k ⊢
  by_cases h1 : m = 1000
  · rw [if_pos h1] at k ⊢
    obtain ⟨i, e, h2, h3⟩ := k
    exact ⟨i, e, h2, h _ _ h3⟩
  · rw [if_neg h1] at k ⊢
    by_cases h2 : m = 1001
    · rw [if_pos h2] at k ⊢
      exact h _ _ k
    · rw [if_neg h2] at k ⊢
      exact mj_ev_mono d m as σ Q Q' h k
def lw_At2 (p : Program) (s : State) (m : MethodId) (meth : Method) (c : Code) (b L : Nat) (xs : Nat → Int32) : Prop :=
  p.tables.exec = Jvm.exec ∧ c.code = code ∧ meth.sig.returnType = ret ∧ c.maxLocals = 7 ∧ s.vm.findClass RL = some m.cls ∧ (∀ w ∈ lw_tbl, w.before #[Value.ref b] s = true) ∧ va_X b L xs s s.heap ∧ b < s.heap.size ∧ meth.locks = false ∧ (Jvm.Cond.and given_1 narrow_1).before #[Value.ref b] s = true ∧ meth.name = "law" ∧ c.exceptionTable.toList = [] ∧ (Cond.code x code maxLocals ret).before #[Value.ref b] s = true
set_option maxRecDepth 1000000 in
theorem st_X {A : Array Value} {s : State} {b L : Nat} {xs : Nat → Int32} (hL : L ≤ 3072) (hgv : (Jvm.Cond.and given_1 narrow_1).before A s = true) (hts : ∀ w ∈ lw_tbl, w.before A s = true) (hX : va_X b L xs s s.heap) : ∃ ext : Nat → Nat, ext 5 = b ∧ ext 999 = L ∧ (∀ j, mj_sci ext j = xs j) ∧ mj_X s.heap.size ext s s.heap := by
  obtain ⟨adK, adV, hS, hev⟩ := st_S hgv
  obtain ⟨fm, hF⟩ := st_F hgv hts
  refine ⟨mj_ex (adK 0) (adK 1) (adV 0) (adV 1) fm b L xs, rfl, rfl, mj_ex_sci, st_N hts, st_C hts, st_U hgv hts, st_V hgv hts, st_T hgv hts, ?_, ?_, st_Z hgv hts, hF, ?_, (st_P hgv).1, (st_P hgv).2, st_D hts⟩
  · refine ⟨fun i hi => ?_, fun i j hi hj e => ?_⟩
    · rcases (by omega : i = 0 ∨ i = 1) with rfl | rfl
      · exact hS.1 0 hi
      · exact hS.1 1 hi
    · refine hS.2 i j hi hj ?_
      rcases (by omega : i = 0 ∨ i = 1) with rfl | rfl <;> rcases (by omega : j = 0 ∨ j = 1) with rfl | rfl <;> exact e
  · intro q hq
    simp only [mj_pS, List.mem_cons, List.not_mem_nil, or_false] at hq
    rcases hq with rfl | rfl
    · exact ⟨_, vk_R.of (lw_t hts 992 (w := Cond.stringRef "SockFair$Reader" 74 ";()+-*/<=") rfl) (hev 0 (by omega))⟩
    · exact ⟨_, vk_R.of (lw_t hts 947 (w := Cond.stringRef "SockFair$Reader" 82 "plain   striped argyle  heeled  bound   alike   likes   or      and     not     colours sizes   holes   worn    pattern wool    charm   own     size    ") rfl) (hev 1 (by omega))⟩
  · obtain ⟨scr, h1, h2, h3, h4, h5⟩ := hX
    refine ⟨scr, h1, h2, h3, Nat.le_of_eq h4.symm, by rw [h4]; rfl, fun j hj => ?_, ?_⟩
    · show scr.slots[j]? = some (Value.int (mj_sci (mj_ex (adK 0) (adK 1) (adV 0) (adV 1) fm b L xs) j))
      rw [mj_ex_sci]
      exact h5 j hj
    · exact Nat.not_le.mpr (Array.getElem?_eq_some_iff.mp h1).1
