/-! ===== runs of the abstract machine ===== -/
section Run17
variable {pc : Nat} {L : iq_L} {S : List Value} {M : iq_M} {o : iq_S ⊕ (iq_R × iq_M)}
theorem iq_k_sw {x : Int32} {dflt lo : Int} {os : List Int} (h : iq_sw x pc dflt L S M lo os = some o) : iq_same M o := by
  obtain ⟨t, rfl, -⟩ := iq_sw_to h
  exact ⟨_, _, _, rfl⟩
set_option maxHeartbeats 4000000 in
theorem iq_k_ex {K : iq_K} (hK : iq_Km K) {tab : iq_T} {ow rt len : Nat} {hh : List (Nat × Nat × Nat × Nat)} {ini isL : Bool} (h0 : ∃ n, M.1[0]? = some (103, [n])) : ∀ {i : Instr}, iq_ex K tab ow hh rt ini isL pc len L S M i = some o → iq_mo M o := by
  intro i h
  cases i with
  | iconst n => exact iq_same_mo ⟨_, _, _, iq_pu_inl h⟩
  | bipush n => exact iq_same_mo ⟨_, _, _, iq_pu_inl h⟩
  | sipush n => exact iq_same_mo ⟨_, _, _, iq_pu_inl h⟩
  | lconst n => exact iq_same_mo ⟨_, _, _, iq_pu_inl h⟩
  | ldc n =>
    simp only [iq_ex] at h
    split at h
    · exact iq_same_mo ⟨_, _, _, iq_pu_inl h⟩
    · cases h
  | ldc_w n =>
    simp only [iq_ex] at h
    split at h
    · exact iq_same_mo ⟨_, _, _, iq_pu_inl h⟩
    · cases h
  | ldc2_w n =>
    simp only [iq_ex] at h
    split at h
    · exact iq_same_mo ⟨_, _, _, iq_pu_inl h⟩
    · cases h
  | iload n =>
    simp only [iq_ex] at h
    exact iq_same_mo (iq_k_ld h)
  | iload_n n =>
    simp only [iq_ex] at h
    exact iq_same_mo (iq_k_ld h)
  | lload n =>
    simp only [iq_ex] at h
    exact iq_same_mo (iq_k_ld h)
  | lload_n n =>
    simp only [iq_ex] at h
    exact iq_same_mo (iq_k_ld h)
  | aload n =>
    simp only [iq_ex] at h
    exact iq_same_mo (iq_k_ld h)
  | aload_n n =>
    simp only [iq_ex] at h
    exact iq_same_mo (iq_k_ld h)
  | istore n =>
    simp only [iq_ex] at h
    exact iq_same_mo (iq_k_st h)
  | istore_n n =>
    simp only [iq_ex] at h
    exact iq_same_mo (iq_k_st h)
  | lstore n =>
    simp only [iq_ex] at h
    exact iq_same_mo (iq_k_st h)
  | lstore_n n =>
    simp only [iq_ex] at h
    exact iq_same_mo (iq_k_st h)
  | astore n =>
    simp only [iq_ex] at h
    exact iq_same_mo (iq_k_st h)
  | astore_n n =>
    simp only [iq_ex] at h
    exact iq_same_mo (iq_k_st h)
  | iinc a b =>
    simp only [iq_ex] at h
    split at h
    · exact iq_same_mo ⟨_, _, _, iq_pu_inl h⟩
    · cases h
  | iadd =>
    simp only [iq_ex] at h
    exact iq_same_mo (iq_k_b2 h)
  | isub =>
    simp only [iq_ex] at h
    exact iq_same_mo (iq_k_b2 h)
  | imul =>
    simp only [iq_ex] at h
    exact iq_same_mo (iq_k_b2 h)
  | iand =>
    simp only [iq_ex] at h
    exact iq_same_mo (iq_k_b2 h)
  | ior =>
    simp only [iq_ex] at h
    exact iq_same_mo (iq_k_b2 h)
  | ixor =>
    simp only [iq_ex] at h
    exact iq_same_mo (iq_k_b2 h)
  | ishl =>
    simp only [iq_ex] at h
    exact iq_same_mo (iq_k_b2 h)
  | ishr =>
    simp only [iq_ex] at h
    exact iq_same_mo (iq_k_b2 h)
  | iushr =>
    simp only [iq_ex] at h
    exact iq_same_mo (iq_k_b2 h)
  | ladd =>
    simp only [iq_ex] at h
    exact iq_same_mo (iq_k_l2 h)
  | lsub =>
    simp only [iq_ex] at h
    exact iq_same_mo (iq_k_l2 h)
  | lmul =>
    simp only [iq_ex] at h
    exact iq_same_mo (iq_k_l2 h)
  | lor =>
    simp only [iq_ex] at h
    exact iq_same_mo (iq_k_l2 h)
  | idiv =>
    simp only [iq_ex] at h
    repeat' (split at h)
    all_goals (first | (cases h; done) | (cases h; exact iq_same_mo ⟨_, _, _, rfl⟩))
  | irem =>
    simp only [iq_ex] at h
    repeat' (split at h)
    all_goals (first | (cases h; done) | (cases h; exact iq_same_mo ⟨_, _, _, rfl⟩))
  | lshl =>
    simp only [iq_ex] at h
    repeat' (split at h)
    all_goals (first | (cases h; done) | (cases h; exact iq_same_mo ⟨_, _, _, rfl⟩))
  | lcmp =>
    simp only [iq_ex] at h
    repeat' (split at h)
    all_goals (first | (cases h; done) | (cases h; exact iq_same_mo ⟨_, _, _, rfl⟩))
  | i2l =>
    simp only [iq_ex] at h
    repeat' (split at h)
    all_goals (first | (cases h; done) | (cases h; exact iq_same_mo ⟨_, _, _, rfl⟩))
  | i2c =>
    simp only [iq_ex] at h
    repeat' (split at h)
    all_goals (first | (cases h; done) | (cases h; exact iq_same_mo ⟨_, _, _, rfl⟩))
  | i2b =>
    simp only [iq_ex] at h
    repeat' (split at h)
    all_goals (first | (cases h; done) | (cases h; exact iq_same_mo ⟨_, _, _, rfl⟩))
  | dup =>
    simp only [iq_ex] at h
    repeat' (split at h)
    all_goals (first | (cases h; done) | (cases h; exact iq_same_mo ⟨_, _, _, rfl⟩))
  | dup2 =>
    simp only [iq_ex] at h
    repeat' (split at h)
    all_goals (first | (cases h; done) | (cases h; exact iq_same_mo ⟨_, _, _, rfl⟩))
  | pop =>
    simp only [iq_ex] at h
    repeat' (split at h)
    all_goals (first | (cases h; done) | (cases h; exact iq_same_mo ⟨_, _, _, rfl⟩))
  | goto off =>
    simp only [iq_ex] at h
    repeat' (split at h)
    all_goals (first | (cases h; done) | (cases h; exact iq_same_mo ⟨_, _, _, rfl⟩))
  | ifCond cd off =>
    simp only [iq_ex] at h
    repeat' (split at h)
    all_goals (first | (cases h; done) | exact iq_same_mo (iq_k_br h))
  | if_icmp cd off =>
    simp only [iq_ex] at h
    repeat' (split at h)
    all_goals (first | (cases h; done) | exact iq_same_mo (iq_k_br h))
  | tableswitch a b c d =>
    simp only [iq_ex] at h
    repeat' (split at h)
    all_goals (first | (cases h; done) | exact iq_same_mo (iq_k_sw h))
  | getfield n =>
    simp only [iq_ex] at h
    exact iq_same_mo (iq_k_gf h)
  | putfield n =>
    simp only [iq_ex] at h
    exact iq_k_pf h0 h
  | getstatic n =>
    simp only [iq_ex] at h
    repeat' (split at h)
    all_goals (first | (cases h; done) | (cases h; exact iq_same_mo ⟨_, _, _, rfl⟩))
  | iaload =>
    simp only [iq_ex] at h
    exact iq_same_mo (iq_k_al h)
  | laload =>
    simp only [iq_ex] at h
    exact iq_same_mo (iq_k_al h)
  | baload =>
    simp only [iq_ex] at h
    exact iq_same_mo (iq_k_al h)
  | iastore =>
    simp only [iq_ex] at h
    exact iq_k_as h0 h
  | lastore =>
    simp only [iq_ex] at h
    exact iq_k_as h0 h
  | bastore =>
    simp only [iq_ex] at h
    exact iq_k_as h0 h
  | arraylength =>
    simp only [iq_ex] at h
    exact iq_same_mo (iq_k_len h)
  | new n =>
    simp only [iq_ex] at h
    repeat' (split at h)
    all_goals (first | (cases h; done) | exact iq_k_th (by decide) h | exact iq_k_new h0 h)
  | newarray t =>
    simp only [iq_ex] at h
    repeat' (split at h)
    all_goals (first | (cases h; done) | exact iq_k_na h0 h)
  | invokevirtual n =>
    simp only [iq_ex] at h
    exact iq_k_call hK h0 h
  | invokestatic n =>
    simp only [iq_ex] at h
    exact iq_k_call hK h0 h
  | invokespecial n =>
    simp only [iq_ex] at h
    exact iq_k_call hK h0 h
  | ireturn =>
    simp only [iq_ex] at h
    exact iq_k_ret h
  | lreturn =>
    simp only [iq_ex] at h
    exact iq_k_ret h
  | return_ =>
    simp only [iq_ex] at h
    exact iq_k_ret h
  | _ => exact absurd h (by simp [iq_ex])
theorem iq_k_step {K : iq_K} (hK : iq_Km K) {mi : Nat} {σ : iq_S} (h0 : ∃ n, σ.2.2.2.1[0]? = some (103, [n])) (h : iq_step K mi σ = some o) : iq_mo σ.2.2.2 o := by
  unfold iq_step at h
  split at h
  · split at h
    · cases h
    · exact iq_k_ex hK h0 h
  · cases h
theorem iq_k_run {K : iq_K} (hK : iq_Km K) {mi : Nat} : ∀ {n : Nat} {σ : iq_S} {r : iq_R} {M' : iq_M}, (∃ n, σ.2.2.2.1[0]? = some (103, [n])) → iq_run K mi n σ = some (r, M') → iq_mono σ.2.2.2 M' ∧ ∀ k, r = .inr k → k < 2
  | 0, σ, r, M', _, h => by cases h
  | n + 1, σ, r, M', h0, h => by
    unfold iq_run at h
    split at h
    · rename_i σ' hst
      have h1 := (iq_k_step hK h0 hst).1 σ' rfl
      have h2 := iq_k_run hK (n := n) (σ := σ') (by rw [h1.2.2.1]; exact h0) h
      exact ⟨iq_mono_tr h1 h2.1, h2.2⟩
    · rename_i rr hst
      cases h
      exact (iq_k_step hK h0 hst).2 _ _ rfl
    · cases h
theorem iq_k_ev : ∀ (d n : Nat), iq_Km (iq_ev d n)
  | 0, n => fun cal as M r M' _ h => by cases h
  | d + 1, n => fun cal as M r M' h0 h => by
    unfold iq_ev at h
    split at h
    · exact iq_k_run (iq_k_ev d n) (σ := (0, iq_ent cal as, [], M)) h0 h
    · cases h
end Run17
section RunW
variable {p : Program} {l : Launch} {e : Env} {R : Room} {s : State} {m : MethodId} {args : Array Value} {below : List Frame} {meth : Method} {c : Code} {Q : State → Prop} {G : iq_G} {mi c0 s0 : Nat}
/-- a run of the abstract machine is a run of the machine -/
theorem iq_runW (C : iq_Cx G p s m args meth c R mi) (hSt : iq_St G s s.heap) (hdec : ∀ e ∈ iq_tab mi, decode (iq_cc mi) e.1 = .ok e.2) (htab : c.exceptionTable.toList = tableOf (iq_hh mi)) (hct : ∀ e ∈ iq_cls (iq_ow mi), e.1 ≠ 0) (hrt : iq_rtk (iq_rt mi) (iq_rty mi)) {d : Nat} {K : iq_K} (hK : iq_KOK l G d K) (hKm : iq_Km K) (hRd : 20 + d + 1 ≤ R.frames ∧ 300 + 40 * (d + 1) ≤ R.locals)
    (hnest : ∀ own idx' y, Cond.methodLinkNest own idx' y "OpenSaying" ∈ lw_tbl → Cond.methodLinkNest own idx' y "OpenSaying" ∈ iq_V) (hTH : iq_TH l G) {xs : Nat → Int32} (hX : iq_isL mi = true → ∃ N : Nat, va_X (iq_ad G 0) N xs s s.heap ∧ iq_ad G 0 < s.heap.size ∧ ¬ iq_A G (iq_ad G 0))
    (hKk : ∀ (cal : Nat) (as : List Value) (M : iq_M) (r : iq_R) (M' : iq_M), (∃ n, M.1[0]? = some (103, [n])) → K cal as M = some (r, M') → ∀ k, r = .inr k → k < 2) :
    ∀ (n : Nat) (σ : iq_S) (r : iq_R) (M' : iq_M), iq_run K mi n σ = some (r, M') → (∃ N, σ.2.2.2.1[0]? = some (103, [N]) ∧ (iq_isL mi = true → va_X (iq_ad G 0) N xs s s.heap)) → (iq_isL mi = true → σ.2.2.2.2.1 0 = xs) → iq_End p l e R s m args below meth c Q G mi c0 s0 r M' → M'.2.2.2.1 ≤ c0 + R.cells → M'.2.2.2.2.1 ≤ s0 + R.slots →
      iq_W p l e R s m args below meth c Q G (iq_ml mi) c0 s0 σ
  | 0, σ, r, M', h, _, _, _, _, _ => by cases h
  | n + 1, (pc, L, S, M), r, M', h, h0, hxs, hE, hrc, hrs => by
    obtain ⟨N, h0, hXN⟩ := h0
    have h0' : ∃ n, M.1[0]? = some (103, [n]) := ⟨N, h0⟩
    unfold iq_run at h
    cases hst : iq_step K mi (pc, L, S, M) with
    | none => rw [hst] at h; cases h
    | some o =>
      have hmo := iq_k_step hKm (σ := (pc, L, S, M)) h0' hst
      rw [hst] at h
      have hst2 := hst
      unfold iq_step at hst2
      split at hst2
      · rename_i i len hat
        have hd : decode (iq_cc mi) pc = .ok (i, len) := hdec (pc, i, len) (iq_at_mem hat)
        split at hst2
        · cases hst2
        · rename_i hlo
          refine iq_sound1 (o := o) C hSt hdec htab hct hrt hK hKk hRd hnest hTH hd hlo hst2 (fun σ hσ => ?_) (fun r1 M1 h1 => ?_) (fun σ hσ => ?_) (fun r1 M1 h1 => ?_) ?_ ?_
          · subst hσ
            have h1 := hmo.1 σ rfl
            exact iq_runW C hSt hdec htab hct hrt hK hKm hRd hnest hTH hX hKk n σ r M' h ⟨N, by rw [h1.2.2.1]; exact h0, hXN⟩ (fun hl => h1.2.2.2.2.2.trans (hxs hl)) hE hrc hrs
          · subst h1
            cases h
            exact hE
          · subst hσ
            have h1 := hmo.1 σ rfl
            have h2 := (iq_k_run hKm (σ := σ) (by rw [h1.2.2.1]; exact h0') h).1
            exact ⟨Nat.le_trans h2.1 hrc, Nat.le_trans h2.2.1 hrs⟩
          · subst h1
            cases h
            exact ⟨hrc, hrs⟩
          · intro i1 nn rr S' hl hS hM0 hin hd1 Kk H locs ls hR hL
            subst hS
            rw [h0] at hM0
            cases hM0
            obtain ⟨N', -, hbl, hbA⟩ := hX hl
            have e1 : iq_cv G (.ref 0) = .ref (iq_ad G 0) := by simp [iq_cv]
            simp only [List.map_cons, e1]
            have K2 := Kk H locs ls hR hL
            rw [show M.2.1 0 = xs from hxs hl] at K2
            exact va_sld C.1 C.2.1 (hXN hl) hbl hbA hR.2.2.2.2.2 (iq_vp hin) hd1 K2
          · intro nn rr S' hl hS hM0 hd1 Kk H locs ls hR hL
            subst hS
            rw [h0] at hM0
            cases hM0
            obtain ⟨N', -, hbl, hbA⟩ := hX hl
            have e1 : iq_cv G (.ref 0) = .ref (iq_ad G 0) := by simp [iq_cv]
            simp only [List.map_cons, e1]
            exact va_slen C.1 C.2.1 (hXN hl) hbl hbA hR.2.2.2.2.2 hd1 (Kk H locs ls hR hL)
      · cases hst2
end RunW
