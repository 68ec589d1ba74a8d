/-! the law: each call on both sides -/
theorem rgl (x : Int32) {l k : Nat} (hl : l ≤ k) (hk : k < 2 ^ 31) : (∃ a, l ≤ a ∧ a ≤ k ∧ x = nI a) ∨ (x < nI l ∨ nI k < x) := by
  rcases rg x hk with ⟨a, ha, rfl⟩ | h | h
  · by_cases e : l ≤ a
    · exact Or.inl ⟨a, e, ha, rfl⟩
    · exact Or.inr (Or.inl (nI_lt (by omega) (by omega)))
  · refine Or.inr (Or.inl ?_)
    rw [Int32.lt_iff_toInt_lt, nI_int (by decide)] at h
    rw [Int32.lt_iff_toInt_lt, nI_int (by omega)]
    omega
  · exact Or.inr (Or.inr h)
theorem ro (z : Int32) {n : Nat} (hn : n ≤ 10) : (∃ o : Option Nat, (∀ q, o = some q → q < n) ∧ z = mI o) ∨ (¬ z = -(nI 1) ∧ (z < 0 ∨ nI n ≤ z)) := by
  by_cases e : z = -(nI 1)
  · exact Or.inl ⟨none, fun q h => (by cases h), e⟩
  · rcases rp z hn with ⟨a, ha, h⟩ | h
    · exact Or.inl ⟨some a, fun q h => (by cases h; exact ha), h⟩
    · exact Or.inr ⟨e, h⟩
section L
variable {I : mj_I} {L : mj_L} {P : mj_P} {A : AS} {t : Nat}
theorem p_296 {x1 : Int32} (hC : CS A I) (hM : MS A I L) (hP : PS t P) : mj_ev 100 296 [.ref 0, .int x1, .ref 106] (107, I, L, P) (LQ 220 [.int x1]) := by
  have hn10 := hC.cb.n10
  refine u_296 ?_
  rcases rg x1 (k := 10) (by decide) with ⟨a, ha, rfl⟩ | hx
  · exact c_105 hP hC ha (pW hM hP (fun h k => s_220 hP h ha (k.tell h)))
  · exact c_105F hC hx (pT hM hP (fun h k => s_220F hx k))
theorem p_307 {x1 : Int32} (hC : CS A I) (hM : MS A I L) (hP : PS t P) : mj_ev 100 307 [.ref 0, .int x1, .ref 106] (107, I, L, P) (LQ 235 [.int x1]) := by
  have hn10 := hC.cb.n10
  refine u_307 ?_
  rcases rg x1 (k := 30) (by decide) with ⟨a, ha, rfl⟩ | hx
  · exact c_118 hP hC ha (pW hM hP (fun h k => s_235 hP h ha (k.tell h)))
  · exact c_118F hP hC hx (pT hM hP (fun h k => s_235F hx k))
theorem p_308 {x1 : Int32} (hC : CS A I) (hM : MS A I L) (hP : PS t P) : mj_ev 100 308 [.ref 0, .int x1, .ref 106] (107, I, L, P) (LQ 236 [.int x1]) := by
  have hn10 := hC.cb.n10
  refine u_308 ?_
  rcases rg x1 (k := 30) (by decide) with ⟨a, ha, rfl⟩ | hx
  · exact c_119 hP hC ha (pW hM hP (fun h k => s_236 hP h ha (k.tell h)))
  · exact c_119F hP hC hx (pT hM hP (fun h k => s_236F hx k))
theorem p_315 {x1 : Int32} (hC : CS A I) (hM : MS A I L) (hP : PS t P) : mj_ev 100 315 [.ref 0, .int x1, .ref 106] (107, I, L, P) (LQ 266 [.int x1]) := by
  have hn10 := hC.cb.n10
  refine u_315 ?_
  rcases rg x1 (k := 2) (by decide) with ⟨a, ha, rfl⟩ | hx
  · exact c_135 hP hC ha (pW hM hP (fun h k => s_266 hP h ha (k.tell h)))
  · exact c_135F hP hC hx (pT hM hP (fun h k => s_266F hx k))
theorem p_316 {x1 : Int32} (hC : CS A I) (hM : MS A I L) (hP : PS t P) : mj_ev 100 316 [.ref 0, .int x1, .ref 106] (107, I, L, P) (LQ 267 [.int x1]) := by
  have hn10 := hC.cb.n10
  refine u_316 ?_
  rcases rg x1 (k := 1) (by decide) with ⟨a, ha, rfl⟩ | hx
  · exact c_136 hP hC ha (pW hM hP (fun h k => s_267 hP h ha (k.tell h)))
  · exact c_136F hP hC hx (pT hM hP (fun h k => s_267F hx k))
theorem p_322 {x1 : Int32} (hC : CS A I) (hM : MS A I L) (hP : PS t P) : mj_ev 100 322 [.ref 0, .int x1, .ref 106] (107, I, L, P) (LQ 249 [.int x1]) := by
  have hn10 := hC.cb.n10
  refine u_322 ?_
  rcases rg x1 (k := 1) (by decide) with ⟨a, ha, rfl⟩ | hx
  · exact c_128 hP hC ha (pW hM hP (fun h k => s_249 hP h ha (k.tell h)))
  · exact c_128F hP hC hx (pT hM hP (fun h k => s_249F hx k))
theorem p_305 {x1 : Int32} (hC : CS A I) (hM : MS A I L) (hP : PS t P) : mj_ev 100 305 [.ref 0, .int x1, .ref 106] (107, I, L, P) (LQ 233 [.int x1]) := by
  have hn10 := hC.cb.n10
  refine u_305 ?_
  rcases rp x1 hn10 with ⟨a, ha, rfl⟩ | hx
  · exact c_116 hP hC ha (pW hM hP (fun h k => s_233 hP h ha (k.tell h)))
  · exact c_116F1 hP hC hx (pT hM hP (fun h k => s_233F h hx k))
theorem p_306 {x1 : Int32} (hC : CS A I) (hM : MS A I L) (hP : PS t P) : mj_ev 100 306 [.ref 0, .int x1, .ref 106] (107, I, L, P) (LQ 234 [.int x1]) := by
  have hn10 := hC.cb.n10
  refine u_306 ?_
  rcases rp x1 hn10 with ⟨a, ha, rfl⟩ | hx
  · exact c_117 hP hC ha (pW hM hP (fun h k => s_234 hP h ha (k.tell h)))
  · exact c_117F1 hP hC hx (pT hM hP (fun h k => s_234F h hx k))
theorem p_311 {x1 : Int32} (hC : CS A I) (hM : MS A I L) (hP : PS t P) : mj_ev 100 311 [.ref 0, .int x1, .ref 106] (107, I, L, P) (LQ 257 [.int x1]) := by
  have hn10 := hC.cb.n10
  refine u_311 ?_
  rcases rp x1 hn10 with ⟨a, ha, rfl⟩ | hx
  · exact c_127 hP hC ha (pW hM hP (fun h k => s_257 hP h ha (k.tell h)))
  · exact c_127F1 hP hC hx (pT hM hP (fun h k => s_257F h hx k))
theorem p_321 {x1 : Int32} (hC : CS A I) (hM : MS A I L) (hP : PS t P) : mj_ev 100 321 [.ref 0, .int x1, .ref 106] (107, I, L, P) (LQ 241 [.int x1]) := by
  have hn10 := hC.cb.n10
  refine u_321 ?_
  rcases rp x1 hn10 with ⟨a, ha, rfl⟩ | hx
  · exact c_120 hP hC ha (pW hM hP (fun h k => s_241 hP h ha (k.tell h)))
  · exact c_120F1 hP hC hx (pT hM hP (fun h k => s_241F h hx k))
theorem p_313 {x1 : Int32} (hC : CS A I) (hM : MS A I L) (hP : PS t P) : mj_ev 100 313 [.ref 0, .int x1, .ref 106] (107, I, L, P) (LQ 261 [.int x1]) := by
  have hn10 := hC.cb.n10
  refine u_313 ?_
  rcases rp x1 hn10 with ⟨a, ha, rfl⟩ | hx
  · exact c_131 hP hC ha (pW hM hP (fun h k => s_261 hP h ha k))
  · exact c_131F1 hP hC hx (pT hM hP (fun h k => s_261F h hx k))
theorem p_298 {x1 x2 : Int32} (hC : CS A I) (hM : MS A I L) (hP : PS t P) : mj_ev 100 298 [.ref 0, .int x1, .int x2, .ref 106] (107, I, L, P) (LQ 224 [.int x1, .int x2]) := by
  have hn10 := hC.cb.n10
  refine u_298 ?_
  rcases rp x1 hn10 with ⟨a, ha, rfl⟩ | hx
  · rcases rp x2 hn10 with ⟨b, hb, rfl⟩ | hy
    · exact c_107 hP hC ha hb (pW hM hP (fun h k => s_224 hP h ha hb (k.tell h)))
    · exact c_107F2 hP hC ha hy (pT hM hP (fun h k => s_224F2 h ha hy k))
  · exact c_107F1 hP hC hx (pT hM hP (fun h k => s_224F1 h hx k))
theorem p_299 {x1 x2 : Int32} (hC : CS A I) (hM : MS A I L) (hP : PS t P) : mj_ev 100 299 [.ref 0, .int x1, .int x2, .ref 106] (107, I, L, P) (LQ 225 [.int x1, .int x2]) := by
  have hn10 := hC.cb.n10
  refine u_299 ?_
  rcases rp x1 hn10 with ⟨a, ha, rfl⟩ | hx
  · rcases rp x2 hn10 with ⟨b, hb, rfl⟩ | hy
    · exact c_108 hP hC ha hb (pW hM hP (fun h k => s_225 hP h ha hb (k.tell h)))
    · exact c_108F2 hP hC ha hy (pT hM hP (fun h k => s_225F2 h ha hy k))
  · exact c_108F1 hP hC hx (pT hM hP (fun h k => s_225F1 h hx k))
theorem p_297 {x1 x2 : Int32} (hC : CS A I) (hM : MS A I L) (hP : PS t P) : mj_ev 100 297 [.ref 0, .int x1, .int x2, .ref 106] (107, I, L, P) (LQ 223 [.int x1, .int x2]) := by
  have hn10 := hC.cb.n10
  refine u_297 ?_
  rcases rp x1 hn10 with ⟨a, ha, rfl⟩ | hx
  · rcases rg x2 (k := 8) (by decide) with ⟨b, hb, rfl⟩ | hy
    · exact c_106 hP hC ha hb (pW hM hP (fun h k => s_223 hP h ha hb (k.tell h)))
    · exact c_106F2 hP hC ha hy (pT hM hP (fun h k => s_223F2 h ha hy k))
  · exact c_106F1 hP hC hx (pT hM hP (fun h k => s_223F1 h hx k))
theorem p_300 {x1 x2 : Int32} (hC : CS A I) (hM : MS A I L) (hP : PS t P) : mj_ev 100 300 [.ref 0, .int x1, .int x2, .ref 106] (107, I, L, P) (LQ 227 [.int x1, .int x2]) := by
  have hn10 := hC.cb.n10
  refine u_300 ?_
  rcases rp x1 hn10 with ⟨a, ha, rfl⟩ | hx
  · rcases rg x2 (k := 9) (by decide) with ⟨b, hb, rfl⟩ | hy
    · exact c_110 hP hC ha hb (pW hM hP (fun h k => s_227 hP h ha hb k))
    · exact c_110R hP hC ha hy (pW hM hP (fun h k => s_227F2 hP h ha hy k))
  · exact c_110F1 hP hC hx (pT hM hP (fun h k => s_227F1 h hx k))
theorem p_301 {x1 x2 : Int32} (hC : CS A I) (hM : MS A I L) (hP : PS t P) : mj_ev 100 301 [.ref 0, .int x1, .int x2, .ref 106] (107, I, L, P) (LQ 228 [.int x1, .int x2]) := by
  have hn10 := hC.cb.n10
  refine u_301 ?_
  rcases rp x1 hn10 with ⟨a, ha, rfl⟩ | hx
  · rcases rgl x2 (l := 1) (k := 9) (by decide) (by decide) with ⟨b, hb1, hb, rfl⟩ | hy
    · exact c_111 hP hC ha hb1 hb (pW hM hP (fun h k => s_228 hP h ha hb1 hb k))
    · exact c_111R hP hC ha hy (pW hM hP (fun h k => s_228F2 hP h ha hy k))
  · exact c_111F1 hP hC hx (pT hM hP (fun h k => s_228F1 h hx k))
theorem p_302 {x1 : Int32} (hC : CS A I) (hM : MS A I L) (hP : PS t P) : mj_ev 100 302 [.ref 0, .int x1, .ref 106] (107, I, L, P) (LQ 229 [.int x1]) := by
  have hn10 := hC.cb.n10
  refine u_302 ?_
  rcases rp x1 hn10 with ⟨a, ha, rfl⟩ | hx
  · cases hm : A.m a with
    | some q => exact c_112 hP hC ha hm (pW hM hP (fun h k => s_229 hP h ha hm k))
    | none => exact c_112R hP hC ha hm (pW hM hP (fun h k => s_229F2 hP h ha hm k))
  · exact c_112F1 hP hC hx (pT hM hP (fun h k => s_229F1 h hx k))
theorem p_303 {x1 x2 : Int32} (hC : CS A I) (hM : MS A I L) (hP : PS t P) : mj_ev 100 303 [.ref 0, .int x1, .int x2, .ref 106] (107, I, L, P) (LQb 230 [.int x1, .int x2]) := by
  have hn10 := hC.cb.n10
  refine u_303 ?_
  rcases rp x1 hn10 with ⟨a, ha, rfl⟩ | hx
  · rcases rp x2 hn10 with ⟨b, hb, rfl⟩ | hy
    · by_cases hr : a = b ∨ A.m a ≠ none ∨ A.m b ≠ none
      · exact c_113R hP hC ha hb hr (pWb (Or.inl rfl) hM hP (fun h k => s_230R hP h ha hb hr k))
      · have hab : a ≠ b := fun q => hr (Or.inl q)
        have hma : A.m a = none := Decidable.byContradiction (fun q => hr (Or.inr (Or.inl q)))
        have hmb : A.m b = none := Decidable.byContradiction (fun q => hr (Or.inr (Or.inr q)))
        exact c_113 hP hC ha hb hab hma hmb (pWb (Or.inr rfl) hM hP (fun h k => s_230 hP h ha hb hab hma hmb k))
    · exact c_113F2 hP hC ha hy (pTb hM hP (fun h k => s_230F h (Or.inr ⟨⟨a, ha, rfl⟩, hy⟩) k))
  · exact c_113F1 hP hC hx (pTb hM hP (fun h k => s_230F h (Or.inl hx) k))
theorem p_304 {x1 x2 : Int32} (hC : CS A I) (hM : MS A I L) (hP : PS t P) : mj_ev 100 304 [.ref 0, .int x1, .int x2, .ref 106] (107, I, L, P) (LQ 232 [.int x1, .int x2]) := by
  have hn10 := hC.cb.n10
  refine u_304 ?_
  rcases rp x1 hn10 with ⟨a, ha, rfl⟩ | hx
  · rcases rg x2 (k := 30) (by decide) with ⟨b, hb, rfl⟩ | hy
    · exact c_115 hP hC ha hb (pW2 hM hP (fun h k => s_232 hP h ha hb (k.tell h)))
    · exact c_115F2 hP hC ha hy (pT2 hM hP (fun h k => s_232F2 h ha hy k))
  · exact c_115F1 hP hC hx (pT1 hM hP (fun h k => s_232F1 h hx k))
theorem p_309 {x1 : Int32} (hC : CS A I) (hM : MS A I L) (hP : PS t P) : mj_ev 100 309 [.ref 0, .int x1, .ref 106] (107, I, L, P) (LQ 247 [.int x1]) := by
  have hn10 := hC.cb.n10
  refine u_309 ?_
  rcases rn x1 hn10 with rfl | ⟨a, ha, rfl⟩ | hx
  · exact c_124N hP hC (pW hM hP (fun h k => s_247N hP h (k.tell h)))
  · exact c_124 hP hC ha (pW hM hP (fun h k => s_247 hP h ha (k.tell h)))
  · exact c_124F hP hC hx (pT hM hP (fun h k => s_247F h hx k))
theorem p_310 {x1 : Int32} (hC : CS A I) (hM : MS A I L) (hP : PS t P) : mj_ev 100 310 [.ref 0, .int x1, .ref 106] (107, I, L, P) (LQ 256 [.int x1]) := by
  have hn10 := hC.cb.n10
  refine u_310 ?_
  rcases rn x1 hn10 with rfl | ⟨a, ha, rfl⟩ | hx
  · exact c_126N hP hC (pW hM hP (fun h k => s_256N hP h (k.tell h)))
  · exact c_126 hP hC ha (pW hM hP (fun h k => s_256 hP h ha (sRS_lt hn10) (k.tell h)))
  · exact c_126F hP hC hx (pT hM hP (fun h k => s_256F h hx k))
theorem p_312 {x1 x2 x3 : Int32} (hC : CS A I) (hM : MS A I L) (hP : PS t P) : mj_ev 100 312 [.ref 0, .int x1, .int x2, .int x3, .ref 106] (107, I, L, P) (LQ 259 [.int x1, .int x2, .int x3]) := by
  have hn10 := hC.cb.n10
  refine u_312 ?_
  rcases rp x1 hn10 with ⟨a, ha, rfl⟩ | hx
  · rcases rp x2 hn10 with ⟨b, hb, rfl⟩ | hy
    · rcases rg x3 (k := 1) (by decide) with ⟨x, h1, rfl⟩ | hz
      · exact c_129 hP hC ha hb h1 (pW hM hP (fun h k => s_259 hP h ha hb h1 (k.tell h)))
      · exact c_129F3 hP hC ha hb hz (pT hM hP (fun h k => s_259F h (Or.inr ⟨⟨a, ha, rfl⟩, Or.inr ⟨⟨b, hb, rfl⟩, hz⟩⟩) k))
    · exact c_129F2 hP hC ha hy (pT hM hP (fun h k => s_259F h (Or.inr ⟨⟨a, ha, rfl⟩, Or.inl hy⟩) k))
  · exact c_129F1 hP hC hx (pT hM hP (fun h k => s_259F h (Or.inl hx) k))
theorem p_314 {x1 x2 x3 : Int32} (hC : CS A I) (hM : MS A I L) (hP : PS t P) : mj_ev 100 314 [.ref 0, .int x1, .int x2, .int x3, .ref 106] (107, I, L, P) (LQ 262 [.int x1, .int x2, .int x3]) := by
  have hn10 := hC.cb.n10
  refine u_314 ?_
  rcases rp x1 hn10 with ⟨a, ha, rfl⟩ | hx
  · rcases ro x3 hn10 with ⟨o, ho, rfl⟩ | ⟨hz, hz2⟩
    · by_cases hr : A.se.length = 8 ∨ (x2 < nI 1 ∨ nI 20 < x2) ∨ o = some a
      · exact c_133R hP hC ha ho hr (pW hM hP (fun h k => s_262R hP h ha ho hr k))
      · rcases rgl x2 (l := 1) (k := 20) (by decide) (by decide) with ⟨N, h1, hN, rfl⟩ | hy
        · have h8 : A.se.length ≠ 8 := fun q => hr (Or.inl q)
          have hne : o ≠ some a := fun q => hr (Or.inr (Or.inr q))
          exact c_133 hP hC ha ho hne h8 h1 hN (pW hM hP (fun h k => s_262 hP h ha ho hne h8 h1 hN k))
        · exact absurd (Or.inr (Or.inl hy)) hr
    · exact c_133F3 hP hC ha hz hz2 (pT hM hP (fun h k => s_262F h (Or.inr ⟨⟨a, ha, rfl⟩, hz, hz2⟩) k))
  · exact c_133F1 hP hC hx (pT hM hP (fun h k => s_262F h (Or.inl hx) k))
theorem p_317 {x1 x2 : Int32} (hC : CS A I) (hM : MS A I L) (hP : PS t P) : mj_ev 100 317 [.ref 0, .int x1, .int x2, .ref 106] (107, I, L, P) (LQ 270 [.int x1, .int x2]) := by
  have hn10 := hC.cb.n10
  refine u_317 ?_
  rcases rg x2 (k := 2) (by decide) with ⟨b, hb, rfl⟩ | hy
  · rcases rgl x1 (l := 1) (k := 9) (by decide) (by decide) with ⟨a, ha1, ha, rfl⟩ | hx
    · exact c_137 hC ha1 ha hb (pW2 hM hP (fun h k => s_270 I0_th ha1 ha hb (k.tell h)))
    · exact c_137F2 hP hC hb hx (pT2 hM hP (fun h k => s_270F2 hb hx k))
  · exact c_137F1 hP hC hy (pT1 hM hP (fun h k => s_270F1 hy k))
theorem p_318 {x1 x2 x3 : Int32} (hC : CS A I) (hM : MS A I L) (hP : PS t P) : mj_ev 100 318 [.ref 0, .int x1, .int x2, .int x3, .ref 106] (107, I, L, P) (LQ 272 [.int x1, .int x2, .int x3]) := by
  have hn10 := hC.cb.n10
  refine u_318 ?_
  rcases rp x1 hn10 with ⟨a, ha, rfl⟩ | hx
  · rcases rp x2 hn10 with ⟨b, hb, rfl⟩ | hy
    · rcases rg x3 (k := 1) (by decide) with ⟨x, h1, rfl⟩ | hz
      · by_cases hab : a = b
        · subst hab
          exact c_140F4 hP hC ha h1 (pT2 hM hP (fun h k => s_272F2 h ha h1 k))
        · exact c_140 hP hC ha hb hab h1 (pW2 hM hP (fun h k => s_272 hP h ha hb hab h1 (k.tell h)))
      · exact c_140F3 hP hC ha hb hz (pT1 hM hP (fun h k => s_272F1 h (Or.inr ⟨⟨a, ha, rfl⟩, Or.inr ⟨⟨b, hb, rfl⟩, hz⟩⟩) k))
    · exact c_140F2 hP hC ha hy (pT1 hM hP (fun h k => s_272F1 h (Or.inr ⟨⟨a, ha, rfl⟩, Or.inl hy⟩) k))
  · exact c_140F1 hP hC hx (pT1 hM hP (fun h k => s_272F1 h (Or.inl hx) k))
theorem p_319 {x1 x2 x3 : Int32} (hC : CS A I) (hM : MS A I L) (hP : PS t P) : mj_ev 100 319 [.ref 0, .int x1, .int x2, .int x3, .ref 106] (107, I, L, P) (LQ 279 [.int x1, .int x2, .int x3]) := by
  have hn10 := hC.cb.n10
  refine u_319 ?_
  rcases rg x3 (k := 2) (by decide) with ⟨y, hy, rfl⟩ | hz
  · rcases rg x2 (k := 60) (by decide) with ⟨N, hN, rfl⟩ | hy2
    · exact c_144 hP hC hN hy (pW2 hM hP (fun h k => s_279 (fun _ => rfl) drw_and drw_lt hP h hN hy (k.tell h)))
    · exact c_144F2 hP hC hy hy2 (pT2 hM hP (fun h k => s_279F2 hy hy2 k))
  · exact c_144F1 hP hC hz (pT1 hM hP (fun h k => s_279F1 hz k))
theorem p_320 {x1 x2 : Int32} (hC : CS A I) (hM : MS A I L) (hP : PS t P) : mj_ev 100 320 [.ref 0, .int x1, .int x2, .ref 106] (107, I, L, P) (LQ 275 [.int x1, .int x2]) := by
  have hn10 := hC.cb.n10
  refine u_320 ?_
  rcases rp x1 hn10 with ⟨a, ha, rfl⟩ | hx
  · rcases rp x2 hn10 with ⟨b, hb, rfl⟩ | hy
    · exact c_145 hP hC ha hb (pW hM hP (fun h k => s_275 hP h ha hb (k.tell h)))
    · exact c_145F2 hP hC ha hy (pT hM hP (fun h k => s_275F h (Or.inr ⟨⟨a, ha, rfl⟩, hy⟩) k))
  · exact c_145F1 hP hC hx (pT hM hP (fun h k => s_275F h (Or.inl hx) k))
theorem p_295 {x1 : Int32} (hC : CS A I) (hM : MS A I L) (hP : PS t P) : mj_ev 100 295 [.ref 0, .int x1, .ref 106] (107, I, L, P) (LQ 195 [.int x1]) := by
  have htd : A.td ≤ 700 := hC.cb.2.2.2.2.1
  rcases rg x1 (k := A.td) (by omega) with ⟨N, hN, rfl⟩ | hx
  · refine w_295 hP hC hN (fun I' P' t' hP' hC' hI => ⟨rfl, ?_⟩)
    refine s_195 hP' (ms_u (hM.ext (fun c j hc _ => hI c j hc) rfl)) hN (fun I2 L2 hM2 g1 g2 h0 => ?_)
    exact ⟨⟨rfl, _, t', hC'.ext g1, hM2, hP'⟩, h0, fun _ => (g2 106 0 (Or.inr rfl)).trans upL_s⟩
  · exact w_295F hC hx (fun I' L' hC' h1 h2 => ⟨rfl, lq_no (v := nI 0) (by decide) rfl hM hP hC' h1 h2 (fun h k => s_195F h hx k)⟩)
theorem d_101 {x1 x2 x3 x4 x5 : Int32} (hC : CS A I) (hM : MS A I L) (hP : PS t P) : mj_ev 100 101 [.ref 0, .int x1, .int x2, .int x3, .int x4, .int x5] (107, I, L, P) (LD gvI 167 [.int x1, .int x2, .int x3, .int x4, .int x5]) := by
  by_cases htd : A.td ≤ 680
  · exact c_101 hP hC htd (pDi hM hP (fun h k => s_167 hP h htd k))
  · exact c_101F hC (by omega) (pDi hM hP (fun h k => s_167F h (by omega) (k.tell h)))
theorem d_104 (hC : CS A I) (hM : MS A I L) (hP : PS t P) : mj_ev 100 104 [.ref 0] (107, I, L, P) (LD gvI 196 []) := by
  exact c_104 hP hC (pDi hM hP (fun h k => s_196 h (k.tell h)))
theorem d_109 {x1 : Int32} (hC : CS A I) (hM : MS A I L) (hP : PS t P) : mj_ev 100 109 [.ref 0, .int x1] (107, I, L, P) (LD gvI 226 [.int x1]) := by
  by_cases hx : x1 < nI 1 ∨ nI 20 < x1 ∨ nI 999 < A.y + x1
  · exact c_109R hP hC hx (pDi hM hP (fun h k => s_226F hP h hx k))
  · rcases rgl x1 (l := 1) (k := 20) (by decide) (by decide) with ⟨N, h1, hN, rfl⟩ | hy | hy
    · have hy : ¬ nI 999 < A.y + nI N := fun q => hx (Or.inr (Or.inr q))
      exact c_109 hP hC h1 hN hy (pDi hM hP (fun h k => s_226 hP h h1 hN hy k))
    · exact absurd (Or.inl hy) hx
    · exact absurd (Or.inr (Or.inl hy)) hx
theorem d_114 (hC : CS A I) (hM : MS A I L) (hP : PS t P) : mj_ev 100 114 [.ref 0] (107, I, L, P) (LD gvI 199 []) := by
  cases hl : A.ac.getLast? with
  | some ro => exact c_114 hP hC hl (pDi hM hP (fun h k => s_199 hP h hl k))
  | none =>
    have hl := List.getLast?_eq_none_iff.mp hl
    exact c_114F hP hC hl (pDi hM hP (fun h k => s_199F h hl (k.tell h)))
theorem d_121 (hC : CS A I) (hM : MS A I L) (hP : PS t P) : mj_ev 100 121 [.ref 0] (107, I, L, P) (LD gvI 237 []) := by
  exact c_121 hP hC (pDi hM hP (fun h k => s_237 hP h (k.tell h)))
theorem d_122 (hC : CS A I) (hM : MS A I L) (hP : PS t P) : mj_ev 100 122 [.ref 0] (107, I, L, P) (LD gvI 238 []) := by
  exact c_122 hP hC (pDi hM hP (fun h k => s_238 hP h (k.tell h)))
theorem d_123 (hC : CS A I) (hM : MS A I L) (hP : PS t P) : mj_ev 100 123 [.ref 0] (107, I, L, P) (LD gvI 240 []) := by
  exact c_123 hP hC (pDi hM hP (fun h k => s_240 hP h (k.tell h)))
theorem d_125 (hC : CS A I) (hM : MS A I L) (hP : PS t P) : mj_ev 100 125 [.ref 0] (107, I, L, P) (LD gvL 248 []) := by
  exact c_125 hP hC (pDl hM hP (fun h k => s_248 hP h (k.tell h)))
theorem d_143 (hC : CS A I) (hM : MS A I L) (hP : PS t P) : mj_ev 100 143 [.ref 0] (107, I, L, P) (LD gvI 273 []) := by
  exact c_143 hP hC (pDi hM hP (fun h k => s_273 hP h (k.tell h)))
theorem d_146 (hC : CS A I) (hM : MS A I L) (hP : PS t P) : mj_ev 100 146 [.ref 0] (107, I, L, P) (LD gvI 276 []) := by
  exact c_146 hP hC (pDi hM hP (fun h k => s_276 hP h (k.tell h)))
theorem d_132 (hC : CS A I) (hM : MS A I L) (hP : PS t P) : mj_ev 100 132 [.ref 0] (107, I, L, P) (LD gvI 242 []) := by
  exact c_132 hP hC (pDi hM hP (fun h k => s_242 hP h (k.tell h)))
theorem d_134 (hC : CS A I) (hM : MS A I L) (hP : PS t P) : mj_ev 100 134 [.ref 0] (107, I, L, P) (LD gvN 263 []) := by
  exact c_134 hP hC (pDv hM hP (fun h k => s_263 h k))
theorem d_147 (hC : CS A I) (hM : MS A I L) (hP : PS t P) : mj_ev 100 147 [.ref 0] (107, I, L, P) (LD gvN 280 []) := by
  exact c_147 hP hC (pDv hM hP (fun h k => s_280 hP h k))
theorem d_148 (hC : CS A I) (hM : MS A I L) (hP : PS t P) : mj_ev 100 148 [.ref 0] (107, I, L, P) (LD gvI 281 []) := by
  cases hk : A.kp with
  | some i => exact c_148 hP hC hk (pDi hM hP (fun h k => s_281 hP h hk k))
  | none => exact c_148F hP hC hk (pDi hM hP (fun h k => s_281F h hk (k.tell h)))
end L
