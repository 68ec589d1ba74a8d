/-! printed by wip/whole/genstart.py: what the Statement gives of the start -/
theorem lw_f {A : Array Value} {s : State} (h : (Jvm.Cond.and given_1 narrow_1).before A s = true) (i : Nat) {w : Cond} (e : (flatC (Jvm.Cond.and given_1 narrow_1))[i]? = some w) : w.before A s = true := flat_of_before _ h _ (List.mem_of_getElem? e)
theorem lw_t {A : Array Value} {s : State} (h : ∀ w ∈ lw_tbl, w.before A s = true) (i : Nat) {w : Cond} (e : lw_tbl[i]? = some w) : w.before A s = true := h _ (List.mem_of_getElem? e)
def mj_tm (i : Nat) : Term := Term.string "SockFair$Reader" (if i = 0 then 74 else 82)
def st_l74 : List Cond := (List.range 9).map (fun j => Cond.eq (.elem (.field (.string "SockFair$Reader" 74) "java/lang/String" "value" "[B") (.int (Int32.ofNat j))) (.int ((mj_tby.getD 0 []).getD j 0)))
set_option maxRecDepth 1000000 in
theorem st_e74 : st_l74 = (List.range' 234 9).filterMap (fun i => (flatC (Jvm.Cond.and given_1 narrow_1))[i]?) := rfl
def st_l82 : List Cond := (List.range 152).map (fun j => Cond.eq (.elem (.field (.string "SockFair$Reader" 82) "java/lang/String" "value" "[B") (.int (Int32.ofNat j))) (.int ((mj_tby.getD 1 []).getD j 0)))
set_option maxRecDepth 1000000 in
theorem st_e82 : st_l82 = (List.range' 77 152).filterMap (fun i => (flatC (Jvm.Cond.and given_1 narrow_1))[i]?) := rfl
theorem st_in {A : Array Value} {s : State} (h : (Jvm.Cond.and given_1 narrow_1).before A s = true) {l : List Cond} {ix : List Nat} (e : l = ix.filterMap (fun i => (flatC (Jvm.Cond.and given_1 narrow_1))[i]?)) : ∀ w ∈ l, w.before A s = true := by
  intro w hw
  rw [e] at hw
  obtain ⟨i, -, hi⟩ := List.mem_filterMap.mp hw
  exact lw_f h i hi
set_option maxRecDepth 1000000 in
theorem st_S {A : Array Value} {s : State} (h : (Jvm.Cond.and given_1 narrow_1).before A s = true) : ∃ adK adV : Nat → Nat, vk_S 2 mj_tln mj_tby adK adV (mj_A s.heap.size) s s.heap ∧ ∀ i : Nat, i < 2 → (mj_tm i).eval A s none [] s = some (.ref (adK i)) := by
  refine vk_Sof (tm := mj_tm) (fun i hi => ?_) (fun i hi => ?_) (fun i hi => ?_) (fun i hi => ?_) (fun i hi => ?_) (fun i hi j hj => ?_) (fun i j hi hj hij => ?_) (fun a ha h2 => ?_)
  · rcases (by omega : i = 0 ∨ i = 1) with rfl | rfl <;> decide
  · rcases (by omega : i = 0 ∨ i = 1) with rfl | rfl
    · exact lw_f h 230 rfl
    · exact lw_f h 73 rfl
  · rcases (by omega : i = 0 ∨ i = 1) with rfl | rfl
    · exact lw_f h 231 rfl
    · exact lw_f h 74 rfl
  · rcases (by omega : i = 0 ∨ i = 1) with rfl | rfl
    · exact lw_f h 232 rfl
    · exact lw_f h 75 rfl
  · rcases (by omega : i = 0 ∨ i = 1) with rfl | rfl
    · exact lw_f h 233 rfl
    · exact lw_f h 76 rfl
  · rcases (by omega : i = 0 ∨ i = 1) with rfl | rfl
    · exact st_in h st_e74 _ (List.mem_map.mpr ⟨j, List.mem_range.mpr hj, rfl⟩)
    · exact st_in h st_e82 _ (List.mem_map.mpr ⟨j, List.mem_range.mpr hj, rfl⟩)
  · rcases (by omega : (i = 0 ∧ j = 1) ∨ (i = 1 ∧ j = 0)) with ⟨rfl, rfl⟩ | ⟨rfl, rfl⟩
    · exact Or.inr (lw_f h 244 rfl)
    · exact Or.inl (lw_f h 244 rfl)
  · exact absurd ha (Nat.not_lt.mpr h2)
theorem st_R {A : Array Value} {s : State} {own tx : String} {k : Nat} (h1 : (Cond.stringRef own k tx).before A s = true) (h2 : (Cond.exactly (.string own k) "java/lang/String").before A s = true) : ∃ tx sa, vk_R own k tx sa s := by
  obtain ⟨a, c, cA, kA, q1, -⟩ := Cond.exactly_spec (args := A) (first := s) (o := none) (s := s) (idx := []) h2
  exact ⟨tx, a, vk_R.of h1 q1⟩
set_option maxRecDepth 1000000 in
theorem st_T {A : Array Value} {s : State} (h : (Jvm.Cond.and given_1 narrow_1).before A s = true) (hts : ∀ w ∈ lw_tbl, w.before A s = true) : ∀ q ∈ mj_pT, ∃ text sa, vk_R (mj_cn q.1) q.2.2.1 text sa s := by
  intro q hq
  simp only [mj_pT, List.mem_cons, List.not_mem_nil, or_false] at hq
  rcases hq with rfl | rfl | rfl | rfl | rfl | rfl | rfl | rfl | rfl
  · exact st_R (tx := "no such count") (lw_t hts 1153 rfl) (lw_f h 245 rfl)
  · exact st_R (tx := "no such thing of a person") (lw_t hts 1174 rfl) (lw_f h 287 rfl)
  · exact st_R (tx := "no such person") (lw_t hts 1171 rfl) (lw_f h 265 rfl)
  · exact st_R (tx := "no such what") (lw_t hts 1329 rfl) (lw_f h 361 rfl)
  · exact st_R (tx := "the tape has not so many bytes") (lw_t hts 902 rfl) (lw_f h 39 rfl)
  · exact st_R (tx := "not so many socks are in a basket") (lw_t hts 1434 rfl) (lw_f h 384 rfl)
  · exact st_R (tx := "a game is of two") (lw_t hts 1448 rfl) (lw_f h 429 rfl)
  · exact st_R (tx := "not so many generations") (lw_t hts 1464 rfl) (lw_f h 458 rfl)
  · exact st_R (tx := "not so many fairs are foreseen") (lw_t hts 1238 rfl) (lw_f h 321 rfl)
set_option maxRecDepth 1000000 in
theorem st_N {A : Array Value} {s : State} (hts : ∀ w ∈ lw_tbl, w.before A s = true) : ∀ q ∈ mj_pN, va_Nw (.methodLinkNest (mj_cn q.1) q.2.2 (mj_my q.2.1) "SockFair") s := by
  intro q hq
  simp only [mj_pN, List.mem_cons, List.not_mem_nil, or_false] at hq
  rcases hq with rfl | rfl | rfl | rfl
  · exact va_Nw.of rfl (lw_t hts 1489 rfl)
  · exact va_Nw.of rfl (lw_t hts 1490 rfl)
  · exact va_Nw.of rfl (lw_t hts 670 rfl)
  · exact va_Nw.of rfl (lw_t hts 677 rfl)
set_option maxRecDepth 1000000 in
theorem st_C {A : Array Value} {s : State} (hts : ∀ w ∈ lw_tbl, w.before A s = true) : ∀ k, va_Nw (.castable (mj_xn k) (mj_xn k)) s := by
  intro k
  cases k with
  | zero => exact va_Nw.of rfl (lw_t hts 1146 rfl)
  | succ k => exact va_Nw.of rfl (lw_t hts 864 rfl)
set_option maxRecDepth 1000000 in
theorem st_U {A : Array Value} {s : State} (h : (Jvm.Cond.and given_1 narrow_1).before A s = true) (hts : ∀ w ∈ lw_tbl, w.before A s = true) : vx_Zq Bundle.tN "UNASSIGNED_STACK" Bundle.steD (mj_A s.heap.size) s s.heap := vx_Zqof (lw_t hts 889 rfl) (lw_t hts 128 rfl) (lw_f h 4 rfl) (fun a ha h2 => absurd ha (Nat.not_lt.mpr h2))
set_option maxRecDepth 1000000 in
theorem st_V {A : Array Value} {s : State} (h : (Jvm.Cond.and given_1 narrow_1).before A s = true) (hts : ∀ w ∈ lw_tbl, w.before A s = true) : vx_Zq Bundle.tN "SUPPRESSED_SENTINEL" Bundle.listD (mj_A s.heap.size) s s.heap := vx_Zqof (lw_t hts 891 rfl) (lw_t hts 128 rfl) (lw_f h 5 rfl) (fun a ha h2 => absurd ha (Nat.not_lt.mpr h2))
set_option maxRecDepth 1000000 in
theorem st_Z {A : Array Value} {s : State} (h : (Jvm.Cond.and given_1 narrow_1).before A s = true) (hts : ∀ w ∈ lw_tbl, w.before A s = true) : va_Z "java/lang/String" "COMPACT_STRINGS" "Z" (.int 1) (mj_A s.heap.size) s s.heap := va_Zof (lw_t hts 957 rfl) (lw_t hts 132 rfl) (va_eqt (lw_f h 6 rfl)) (fun a ha h2 => absurd ha (Nat.not_lt.mpr h2))
set_option maxRecDepth 1000000 in
theorem st_F {A : Array Value} {s : State} (h : (Jvm.Cond.and given_1 narrow_1).before A s = true) (hts : ∀ w ∈ lw_tbl, w.before A s = true) : ∃ n, va_Z "jdk/internal/util/Preconditions" "SIOOBE_FORMATTER" "Ljava/util/function/BiFunction;" (mj_nv n) (mj_A s.heap.size) s s.heap := by
  rcases va_Zqof (A := mj_A s.heap.size) (lw_t hts 965 (w := Cond.laysStatic "jdk/internal/util/Preconditions" "SIOOBE_FORMATTER" "Ljava/util/function/BiFunction;") rfl) (lw_t hts 134 rfl) (lw_f h 7 rfl) (fun a ha h2 => absurd ha (Nat.not_lt.mpr h2)) with q | ⟨t, q⟩
  · exact ⟨0, q⟩
  · exact ⟨t + 1, q⟩
set_option maxRecDepth 1000000 in
theorem st_P {A : Array Value} {s : State} (h : (Jvm.Cond.and given_1 narrow_1).before A s = true) : va_Nc (mj_xn 0) (mj_xn 1) s ∧ va_Nc (mj_xn 1) (mj_xn 0) s := ⟨va_Nc.of (lw_f h 24 rfl), va_Nc.of (lw_f h 38 rfl)⟩
set_option maxRecDepth 1000000 in
theorem st_D {A : Array Value} {s : State} (hts : ∀ w ∈ lw_tbl, w.before A s = true) : ∀ y ∈ mj_dc, va_Nw (.declares (Bundle.initS y)) s := by
  intro y hy
  simp only [mj_dc, List.mem_cons, List.not_mem_nil, or_false] at hy
  rcases hy with rfl | rfl | rfl
  · exact va_Nw.of rfl (lw_t hts 866 rfl)
  · exact va_Nw.of rfl (lw_t hts 868 rfl)
  · exact va_Nw.of rfl (lw_t hts 870 rfl)
