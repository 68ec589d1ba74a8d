/-! the constructors, by reckoning: a run without throws and answers, instruction by instruction -/
def gi (F : Nat → List Value → mj_S → Option mj_S) (code : Nat → List mj_O) : Nat → List mj_O → mj_Lo → List Value → mj_S → Nat → Nat → Option mj_S
  | 0, _, _, _, _, _, _ => none
  | _ + 1, [], _, _, _, _, _ => none
  | f + 1, (_, op, a, b, _) :: is, lo, st, (n, I, L, P), bc, bs =>
    match op with
    | 0 => gi F code f is lo (.int (nI a) :: st) (n, I, L, P) bc bs
    | 1 => gi F code f is lo (.int (-(nI a)) :: st) (n, I, L, P) bc bs
    | 3 => match mj_get lo a with
      | some (.int v) => gi F code f is lo (.int v :: st) (n, I, L, P) bc bs
      | _ => none
    | 5 => match mj_get lo a with
      | some (.ref v) => gi F code f is lo (.ref v :: st) (n, I, L, P) bc bs
      | _ => none
    | 6 => match st with
      | .int v :: r => if Nat.blt a lo.length = true ∧ mj_nlo lo a = true then gi F code f is (mj_set lo a (some (.int v))) r (n, I, L, P) bc bs else none
      | _ => none
    | 8 => match st with
      | .ref v :: r => if Nat.blt a lo.length = true ∧ mj_nlo lo a = true then gi F code f is (mj_set lo a (some (.ref v))) r (n, I, L, P) bc bs else none
      | _ => none
    | 9 => match mj_get lo a with
      | some (.int v) => if mj_nlo lo a = true then gi F code f is (mj_set lo a (some (.int (v + nI b)))) st (n, I, L, P) bc bs else none
      | _ => none
    | 18 => match st with
      | .ref v :: r => gi F code f is lo (.ref v :: .ref v :: r) (n, I, L, P) bc bs
      | _ => none
    | 22 => match st with
      | .int v :: .int u :: r => if a = 3 then (if v ≤ u then gi F code f (code b) lo r (n, I, L, P) bc bs else gi F code f is lo r (n, I, L, P) bc bs) else none
      | _ => none
    | 23 => gi F code f (code b) lo st (n, I, L, P) bc bs
    | 25 => match st with
      | [] => some (n, I, L, P)
      | _ => none
    | 33 => match st with
      | .ref c :: r => if mj_sh c = 10 + a ∧ c < n then (match P c b with
        | some q => gi F code f is lo (.ref q :: r) (n, I, L, P) bc bs
        | none => none) else none
      | _ => none
    | 34 => match st with
      | .int v :: .ref c :: r => if mj_sh c = 10 + a ∧ c < n then gi F code f is lo r (n, mj_upI I c b v, L, P) bc bs else none
      | _ => none
    | 35 => match st with
      | .int v :: .ref c :: r => if mj_sh c = 10 + a ∧ c < n ∧ v = 0 then gi F code f is lo r (n, mj_upI I c b v, L, P) bc bs else none
      | _ => none
    | 37 => match st with
      | .ref v :: .ref c :: r => if mj_sh c = 10 + a ∧ c < n then gi F code f is lo r (n, I, L, mj_upP P c b (some v)) bc bs else none
      | _ => none
    | 42 => match st with
      | .int v :: .int w :: .ref c :: r => if mj_sh c = 1 ∧ c < n ∧ w = nI w.toBitVec.toNat ∧ w.toBitVec.toNat < mj_ln c ∧ mj_ln c < 2 ^ 31 then gi F code f is lo r (n, mj_upI I c w.toBitVec.toNat v, L, P) bc bs else none
      | _ => none
    | 47 => match st.drop (mj_mn a) with
      | .ref c :: r => if (st.take (mj_mn a)).length = mj_mn a ∧ mj_sh c = 10 + mj_mo a ∧ c < n ∧ Nat.ble (mj_cs r) 8 = true ∧ Nat.ble (mj_mc a) bc = true ∧ Nat.ble (mj_ms a) bs = true then (match F a (.ref c :: (st.take (mj_mn a)).reverse) (n, I, L, P) with
        | some σ => gi F code f is lo r σ (bc - mj_mc a) (bs - mj_ms a)
        | none => none) else none
      | _ => none
    | 49 => match st.drop (mj_mn a) with
      | .ref c :: r => if (st.take (mj_mn a)).length = mj_mn a ∧ Nat.ble (mj_cs r) 8 = true ∧ Nat.ble (mj_mc a) bc = true ∧ Nat.ble (mj_ms a) bs = true then (match F a (.ref c :: (st.take (mj_mn a)).reverse) (n, I, L, P) with
        | some σ => gi F code f is lo r σ (bc - mj_mc a) (bs - mj_ms a)
        | none => none) else none
      | _ => none
    | 51 => match st with
      | .ref _ :: r => if Nat.ble (mj_cs r) 8 = true then gi F code f is lo r (n, I, L, P) bc bs else none
      | _ => none
    | 52 => if mj_sh n = 10 + a ∧ Nat.ble 1 bc = true ∧ Nat.ble (mj_ln n) bs = true then gi F code f is lo (.ref n :: st) (n + 1, mj_seI I n (fun _ => 0), mj_seL L n (fun _ => 0), mj_seP P n (fun _ => none)) (bc - 1) (bs - mj_ln n) else none
    | 53 => match st with
      | .int v :: r => if v = nI (mj_ln n) ∧ mj_sh n = a ∧ Nat.ble 1 bc = true ∧ Nat.ble (mj_ln n) bs = true then gi F code f is lo (.ref n :: r) (n + 1, mj_seI I n (fun _ => 0), mj_seL L n (fun _ => 0), mj_seP P n (fun _ => none)) (bc - 1) (bs - mj_ln n) else none
      | _ => none
    | 70 => match st with
      | .int v :: .int u :: r => if Nat.ble (mj_cs r) 8 = true then gi F code f is lo (.int (if u < v then v else u) :: r) (n, I, L, P) bc bs else none
      | _ => none
    | _ => none
theorem gi_ok {F : Nat → List Value → mj_S → Option mj_S} {Φ : mj_F} {code : Nat → List mj_O} {Q : mj_Q} (hm : mj_mono Φ) (hF : ∀ m as σ σ', F m as σ = some σ' → ∀ Q : mj_Q, Q (.inl none) σ' → Φ m as σ Q) {σ' : mj_S} (k : Q (.inl none) σ') : ∀ f is lo st σ bc bs, gi F code f is lo st σ bc bs = some σ' → mj_run Φ code Q is lo st σ bc bs := by
  intro f
  induction f with
  | zero => intro is lo st σ bc bs h; cases h
  | succ f ih =>
    intro is lo st σ bc bs h
    match is, σ with
    | [], σ => cases h
    | (pc, op, a, b, x) :: is, (n, I, L, P) =>
      unfold gi at h
      split at h
      · exact q_0 (ih _ _ _ _ _ _ h)
      · exact q_1 (ih _ _ _ _ _ _ h)
      · split at h
        · rename_i e
          exact q_3 e (ih _ _ _ _ _ _ h)
        · cases h
      · split at h
        · rename_i e
          exact q_5 e (ih _ _ _ _ _ _ h)
        · cases h
      · split at h
        · split at h
          · rename_i e
            exact q_6 e.1 e.2 rfl (ih _ _ _ _ _ _ h)
          · cases h
        · cases h
      · split at h
        · split at h
          · rename_i e
            exact q_8 e.1 e.2 rfl (ih _ _ _ _ _ _ h)
          · cases h
        · cases h
      · split at h
        · rename_i e
          split at h
          · rename_i e2
            exact q_9 e e2 rfl (ih _ _ _ _ _ _ h)
          · cases h
        · cases h
      · split at h
        · exact q_18 rfl (ih _ _ _ _ _ _ h)
        · cases h
      · split at h
        · split at h
          · rename_i e
            subst e
            split at h
            · rename_i e2
              exact q_22 (fun _ => ih _ _ _ _ _ _ h) (fun q => absurd e2 q)
            · rename_i e2
              exact q_22 (fun q => absurd q e2) (fun _ => ih _ _ _ _ _ _ h)
          · cases h
        · cases h
      · exact q_23 (ih _ _ _ _ _ _ h)
      · split at h
        · cases h
          exact q_25 k
        · cases h
      · split at h
        · split at h
          · rename_i e
            split at h
            · rename_i e2
              exact q_33 e.1 e.2 e2 (ih _ _ _ _ _ _ h)
            · cases h
          · cases h
        · cases h
      · split at h
        · split at h
          · rename_i e
            exact q_34 e.1 e.2 (ih _ _ _ _ _ _ h)
          · cases h
        · cases h
      · split at h
        · split at h
          · rename_i e
            exact q_35 e.1 e.2.1 (Or.inl e.2.2) (ih _ _ _ _ _ _ h)
          · cases h
        · cases h
      · split at h
        · split at h
          · rename_i e
            exact q_37 e.1 e.2 (ih _ _ _ _ _ _ h)
          · cases h
        · cases h
      · split at h
        · split at h
          · rename_i e
            exact q_42 _ e.1 e.2.1 e.2.2.1 e.2.2.2.1 e.2.2.2.2 (ih _ _ _ _ _ _ h)
          · cases h
        · cases h
      · split at h
        · rename_i c r ed
          split at h
          · rename_i e
            split at h
            · rename_i σ1 e2
              refine q_47 hm (st.take (mj_mn a)).reverse (c := c) (rest := r) (by rw [List.reverse_reverse, ← ed, List.take_append_drop]) (by rw [List.length_reverse]; exact e.1) e.2.1 e.2.2.1 e.2.2.2.1 e.2.2.2.2.1 e.2.2.2.2.2 (hF _ _ _ _ e2 _ ?_)
              exact ih _ _ _ _ _ _ h
            · cases h
          · cases h
        · cases h
      · split at h
        · rename_i c r ed
          split at h
          · rename_i e
            split at h
            · rename_i σ1 e2
              refine q_49 hm (st.take (mj_mn a)).reverse (c := c) (rest := r) (by rw [List.reverse_reverse, ← ed, List.take_append_drop]) (by rw [List.length_reverse]; exact e.1) e.2.1 e.2.2.1 e.2.2.2 (hF _ _ _ _ e2 _ ?_)
              exact ih _ _ _ _ _ _ h
            · cases h
          · cases h
        · cases h
      · split at h
        · split at h
          · rename_i e
            exact q_51 e (ih _ _ _ _ _ _ h)
          · cases h
        · cases h
      · split at h
        · rename_i e
          exact q_52 e.1 e.2.1 e.2.2 (ih _ _ _ _ _ _ h)
        · cases h
      · split at h
        · split at h
          · rename_i e
            exact q_53 e.1 e.2.1 e.2.2.1 e.2.2.2 (ih _ _ _ _ _ _ h)
          · cases h
        · cases h
      · split at h
        · split at h
          · rename_i e
            exact q_70 e (ih _ _ _ _ _ _ h)
          · cases h
        · cases h
      · cases h
def gv : Nat → Nat → List Value → mj_S → Option mj_S
  | 0 => fun _ _ _ => none
  | d + 1 => fun m as σ => if Nat.ble (mj_ar as).length (mj_ml m) = true then gi (gv d) (mj_code m) 400 (mj_code m 0) (mj_in (mj_ml m) as) [] σ (mj_mc m) (mj_ms m) else none
theorem gv_ok : ∀ d m as σ σ', gv d m as σ = some σ' → ∀ Q : mj_Q, Q (.inl none) σ' → mj_ev d m as σ Q
  | 0, _, _, _, _, h, _, _ => by cases h
  | d + 1, m, as, σ, σ', h, Q, k => by
    unfold gv at h
    split at h
    · rename_i e
      exact ⟨e, gi_ok (mj_ev_mono d) (gv_ok d) k _ _ _ _ _ _ _ h⟩
    · cases h
