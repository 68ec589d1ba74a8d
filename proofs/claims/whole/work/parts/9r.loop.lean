/-! the law's loop, and the law -/
theorem sw_all {R : Nat → Prop} : ∀ (cs : List (Int32 × Nat)) (d : Nat) (v : Int32), (∀ q ∈ cs, R q.2) → R d → R (mj_sw cs d v)
  | [], _, _, _, h => h
  | q :: cs, d, v, h, h2 => by
    unfold mj_sw
    split
    · exact h q List.mem_cons_self
    · exact sw_all cs d v (fun q hq => h q (List.mem_cons_of_mem _ hq)) h2
section L
variable {K p : Nat} {xs : Nat → Int32} {o5 o6 : Option Value} {I : mj_I} {L : mj_L} {P : mj_P} {bc bs : Nat}
theorem y_sw {v : Int32} (hV : LWV (107, I, L, P)) (hK : K ≤ 3072) (hp : p + 6 ≤ K) (hb : 8 ≤ bc) (hs : 100 ≤ bs) (k : KN K p xs bc bs) : mj_run (mj_sc K xs 100) k323 mj_Q1 (k323 (mj_sw (mj_swt 9) 2254 v)) [some (.retAddr 5), some (.ref 0), some (.ref 73), some (.ref 106), some (.int (nI p)), o5, o6] [] (107, I, L, P) bc bs := by
  refine sw_all (R := fun t => mj_run (mj_sc K xs 100) k323 mj_Q1 (k323 t) [some (.retAddr 5), some (.ref 0), some (.ref 73), some (.ref 106), some (.int (nI p)), o5, o6] [] (107, I, L, P) bc bs) mj_sw9 2254 v ?_ (k _ _ _ _ _ _ _ hV (by omega) (by omega))
  unfold mj_sw9
  refine List.forall_mem_cons.mpr ⟨y_224 hV hK hp hb hs k, ?_⟩
  refine List.forall_mem_cons.mpr ⟨y_297 hV hK hp hb hs k, ?_⟩
  refine List.forall_mem_cons.mpr ⟨y_353 hV hK hp hb hs k, ?_⟩
  refine List.forall_mem_cons.mpr ⟨y_366 hV hK hp hb hs k, ?_⟩
  refine List.forall_mem_cons.mpr ⟨y_422 hV hK hp hb hs k, ?_⟩
  refine List.forall_mem_cons.mpr ⟨y_490 hV hK hp hb hs k, ?_⟩
  refine List.forall_mem_cons.mpr ⟨y_558 hV hK hp hb hs k, ?_⟩
  refine List.forall_mem_cons.mpr ⟨y_626 hV hK hp hb hs k, ?_⟩
  refine List.forall_mem_cons.mpr ⟨y_651 hV hK hp hb hs k, ?_⟩
  refine List.forall_mem_cons.mpr ⟨y_719 hV hK hp hb hs k, ?_⟩
  refine List.forall_mem_cons.mpr ⟨y_787 hV hK hp hb hs k, ?_⟩
  refine List.forall_mem_cons.mpr ⟨y_843 hV hK hp hb hs k, ?_⟩
  refine List.forall_mem_cons.mpr ⟨y_918 hV hK hp hb hs k, ?_⟩
  refine List.forall_mem_cons.mpr ⟨y_931 hV hK hp hb hs k, ?_⟩
  refine List.forall_mem_cons.mpr ⟨y_999 hV hK hp hb hs k, ?_⟩
  refine List.forall_mem_cons.mpr ⟨y_1055 hV hK hp hb hs k, ?_⟩
  refine List.forall_mem_cons.mpr ⟨y_1111 hV hK hp hb hs k, ?_⟩
  refine List.forall_mem_cons.mpr ⟨y_1167 hV hK hp hb hs k, ?_⟩
  refine List.forall_mem_cons.mpr ⟨y_1223 hV hK hp hb hs k, ?_⟩
  refine List.forall_mem_cons.mpr ⟨y_1236 hV hK hp hb hs k, ?_⟩
  refine List.forall_mem_cons.mpr ⟨y_1249 hV hK hp hb hs k, ?_⟩
  refine List.forall_mem_cons.mpr ⟨y_1262 hV hK hp hb hs k, ?_⟩
  refine List.forall_mem_cons.mpr ⟨y_1318 hV hK hp hb hs k, ?_⟩
  refine List.forall_mem_cons.mpr ⟨y_1332 hV hK hp hb hs k, ?_⟩
  refine List.forall_mem_cons.mpr ⟨y_1388 hV hK hp hb hs k, ?_⟩
  refine List.forall_mem_cons.mpr ⟨y_1444 hV hK hp hb hs k, ?_⟩
  refine List.forall_mem_cons.mpr ⟨y_1524 hV hK hp hb hs k, ?_⟩
  refine List.forall_mem_cons.mpr ⟨y_1580 hV hK hp hb hs k, ?_⟩
  refine List.forall_mem_cons.mpr ⟨y_1660 hV hK hp hb hs k, ?_⟩
  refine List.forall_mem_cons.mpr ⟨y_1671 hV hK hp hb hs k, ?_⟩
  refine List.forall_mem_cons.mpr ⟨y_1727 hV hK hp hb hs k, ?_⟩
  refine List.forall_mem_cons.mpr ⟨y_1783 hV hK hp hb hs k, ?_⟩
  refine List.forall_mem_cons.mpr ⟨y_1851 hV hK hp hb hs k, ?_⟩
  refine List.forall_mem_cons.mpr ⟨y_1931 hV hK hp hb hs k, ?_⟩
  refine List.forall_mem_cons.mpr ⟨y_1944 hV hK hp hb hs k, ?_⟩
  refine List.forall_mem_cons.mpr ⟨y_2024 hV hK hp hb hs k, ?_⟩
  refine List.forall_mem_cons.mpr ⟨y_2092 hV hK hp hb hs k, ?_⟩
  refine List.forall_mem_cons.mpr ⟨y_2105 hV hK hp hb hs k, ?_⟩
  refine List.forall_mem_cons.mpr ⟨y_2161 hV hK hp hb hs k, ?_⟩
  refine List.forall_mem_cons.mpr ⟨y_2217 hV hK hp hb hs k, ?_⟩
  refine List.forall_mem_cons.mpr ⟨y_2230 hV hK hp hb hs k, ?_⟩
  refine List.forall_mem_cons.mpr ⟨y_2241 hV hK hp hb hs k, ?_⟩
  exact fun q h => by cases h
/-- from a place of the script to its end -/
theorem y_loop (hK : K ≤ 3072) : ∀ f p bc bs o5 o6 I L P, K ≤ p + f → p ≤ K → (p = 0 ∨ 6 ≤ K) → LWV (107, I, L, P) → 8 * f + 16 ≤ bc → 100 * f + 200 ≤ bs → mj_run (mj_sc K xs 100) k323 mj_Q1 (k323 23) [some (.retAddr 5), some (.ref 0), some (.ref 73), some (.ref 106), some (.int (nI p)), o5, o6] [] (107, I, L, P) bc bs := by
  intro f
  induction f with
  | zero =>
    intro p bc bs o5 o6 I L P h1 h2 h3 hV hb hs
    by_cases h6 : 6 ≤ K
    · refine q_3 rfl ?_
      refine q_63 rfl ?_
      refine q_len ?_
      refine q_0 ?_
      first | refine q_sub (by omega) ?_ | refine q_11 rfl ?_
      refine q_gtN (by omega) (by omega) (fun hh => ?_) (fun hh => absurd hh (by omega))
      refine q_0 ?_
      refine q_27 (by first | exact Or.inl rfl | exact Or.inr rfl | assumption | (split <;> first | exact Or.inl rfl | exact Or.inr rfl)) ?_
      exact rfl
    · have hp : p = 0 := by omega
      subst hp
      have hK0 : K = 0 := by omega
      subst hK0
      refine q_3 rfl ?_
      refine q_63 rfl ?_
      refine q_len ?_
      refine q_0 ?_
      first | refine q_sub (by omega) ?_ | refine q_11 rfl ?_
      refine q_gtI (fun hh => ?_) (fun hh => absurd (by decide) hh)
      refine q_0 ?_
      refine q_27 (by first | exact Or.inl rfl | exact Or.inr rfl | assumption | (split <;> first | exact Or.inl rfl | exact Or.inr rfl)) ?_
      exact rfl
  | succ f ih =>
    intro p bc bs o5 o6 I L P h1 h2 h3 hV hb hs
    by_cases h6 : p + 6 ≤ K
    · have hp := h6
      refine q_3 rfl ?_
      refine q_63 rfl ?_
      refine q_len ?_
      refine q_0 ?_
      first | refine q_sub (by omega) ?_ | refine q_11 rfl ?_
      refine q_gtN (by omega) (by omega) (fun hh => absurd hh (by omega)) (fun hh => ?_)
      refine q_63 rfl ?_
      refine q_3 rfl ?_
      refine q_rd (by omega) (by omega) ?_
      refine q_0 ?_
      refine q_11 rfl ?_
      refine q_24 ?_
      refine y_sw hV hK hp (by omega) (by omega) (fun o5 o6 I L P bc' bs' hV g1 g2 => ?_)
      refine q_inc rfl rfl rfl ?_
      refine q_23 ?_
      exact ih (p + 6) bc' bs' o5 o6 I L P (by omega) (by omega) (by omega) hV (by omega) (by omega)
    · by_cases h7 : 6 ≤ K
      · refine q_3 rfl ?_
        refine q_63 rfl ?_
        refine q_len ?_
        refine q_0 ?_
        first | refine q_sub (by omega) ?_ | refine q_11 rfl ?_
        refine q_gtN (by omega) (by omega) (fun hh => ?_) (fun hh => absurd hh (by omega))
        refine q_0 ?_
        refine q_27 (by first | exact Or.inl rfl | exact Or.inr rfl | assumption | (split <;> first | exact Or.inl rfl | exact Or.inr rfl)) ?_
        exact rfl
      · have hp : p = 0 := by omega
        subst hp
        rcases (show K = 0 ∨ K = 1 ∨ K = 2 ∨ K = 3 ∨ K = 4 ∨ K = 5 by omega) with rfl | rfl | rfl | rfl | rfl | rfl
        · refine q_3 rfl ?_
          refine q_63 rfl ?_
          refine q_len ?_
          refine q_0 ?_
          refine q_11 rfl ?_
          refine q_gtI (fun hh => ?_) (fun hh => absurd (by decide) hh)
          refine q_0 ?_
          refine q_27 (by first | exact Or.inl rfl | exact Or.inr rfl | assumption | (split <;> first | exact Or.inl rfl | exact Or.inr rfl)) ?_
          exact rfl
        · refine q_3 rfl ?_
          refine q_63 rfl ?_
          refine q_len ?_
          refine q_0 ?_
          refine q_11 rfl ?_
          refine q_gtI (fun hh => ?_) (fun hh => absurd (by decide) hh)
          refine q_0 ?_
          refine q_27 (by first | exact Or.inl rfl | exact Or.inr rfl | assumption | (split <;> first | exact Or.inl rfl | exact Or.inr rfl)) ?_
          exact rfl
        · refine q_3 rfl ?_
          refine q_63 rfl ?_
          refine q_len ?_
          refine q_0 ?_
          refine q_11 rfl ?_
          refine q_gtI (fun hh => ?_) (fun hh => absurd (by decide) hh)
          refine q_0 ?_
          refine q_27 (by first | exact Or.inl rfl | exact Or.inr rfl | assumption | (split <;> first | exact Or.inl rfl | exact Or.inr rfl)) ?_
          exact rfl
        · refine q_3 rfl ?_
          refine q_63 rfl ?_
          refine q_len ?_
          refine q_0 ?_
          refine q_11 rfl ?_
          refine q_gtI (fun hh => ?_) (fun hh => absurd (by decide) hh)
          refine q_0 ?_
          refine q_27 (by first | exact Or.inl rfl | exact Or.inr rfl | assumption | (split <;> first | exact Or.inl rfl | exact Or.inr rfl)) ?_
          exact rfl
        · refine q_3 rfl ?_
          refine q_63 rfl ?_
          refine q_len ?_
          refine q_0 ?_
          refine q_11 rfl ?_
          refine q_gtI (fun hh => ?_) (fun hh => absurd (by decide) hh)
          refine q_0 ?_
          refine q_27 (by first | exact Or.inl rfl | exact Or.inr rfl | assumption | (split <;> first | exact Or.inl rfl | exact Or.inr rfl)) ?_
          exact rfl
        · refine q_3 rfl ?_
          refine q_63 rfl ?_
          refine q_len ?_
          refine q_0 ?_
          refine q_11 rfl ?_
          refine q_gtI (fun hh => ?_) (fun hh => absurd (by decide) hh)
          refine q_0 ?_
          refine q_27 (by first | exact Or.inl rfl | exact Or.inr rfl | assumption | (split <;> first | exact Or.inl rfl | exact Or.inr rfl)) ?_
          exact rfl
end L
