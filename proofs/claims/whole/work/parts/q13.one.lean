/-! ===== one step of the abstract machine is steps of the machine ===== -/
/-- a return instruction that fits the method -/
def iq_rok (mi pc : Nat) : Option Value → Prop
  | some (.int x) => decode (iq_cc mi) pc = .ok (.ireturn, 1) ∧ ∃ ty, iq_rty mi = some ty ∧ narrow ty (.int x) = .int x
  | some (.long _) => decode (iq_cc mi) pc = .ok (.lreturn, 1) ∧ iq_rty mi = some .long
  | none => decode (iq_cc mi) pc = .ok (.return_, 1) ∧ iq_rty mi = none
  | _ => False
/-- what must hold where the method ends with r in the world M' -/
def iq_End (p : Program) (l : Launch) (e : Env) (R : Room) (s : State) (m : MethodId) (args : Array Value) (below : List Frame) (meth : Method) (c : Code) (Q : State → Prop) (G : iq_G) (mi c0 s0 : Nat) (r : iq_R) (M' : iq_M) : Prop :=
  (∀ v, r = .inl v → ∀ (H : Heap) (locs : List Loc) (ls : Array Slot) (pc : Nat), iq_Rel G s c0 s0 M' H locs → iq_rok mi pc v → W p l e R s m args below meth c H locs (M'.2.2.2.1 - c0) (M'.2.2.2.2.1 - s0) Q (F0 m pc ls (v.map (iq_cv G)).toList)) ∧
  (∀ k, r = .inr k → Q = vx_MQ below (iq_Qc G r M') (iq_XC G r M') args s (M'.2.2.2.1 - c0) (M'.2.2.2.2.1 - s0) (iq_A G))
/-- 'throw new E("..")', as a step -/
def iq_TH (l : Launch) (G : iq_G) : Prop := ∀ (p : Program) (e : Env) (R : Room) (s : State) (m : MethodId) (args : Array Value) (below : List Frame) (meth : Method) (c : Code) (mi c0 s0 pc idx kd : Nat) (M M' : iq_M) (H : Heap) (locs : List Loc) (ls : Array Slot),
  iq_Cx G p s m args meth c R mi → iq_St G s s.heap → (∀ e ∈ iq_tab mi, decode (iq_cc mi) e.1 = .ok e.2) → c.exceptionTable.toList = [] → decode (iq_cc mi) pc = .ok (.new idx, 3) → kd < 2 → iq_lk (iq_cls (iq_ow mi)) idx = some (50 + kd) → iq_th (iq_tab mi) (iq_ow mi) kd pc M = some (.inr (.inr kd, M')) →
  iq_Rel G s c0 s0 M H locs → ls.size = c.maxLocals → M'.2.2.2.1 ≤ c0 + R.cells → M'.2.2.2.2.1 ≤ s0 + R.slots →
  W p l e R s m args below meth c H locs (M.2.2.2.1 - c0) (M.2.2.2.2.1 - s0) (vx_MQ below (iq_Qc G (.inr kd) M') (iq_XC G (.inr kd) M') args s (M'.2.2.2.1 - c0) (M'.2.2.2.2.1 - s0) (iq_A G)) (F0 m pc ls [])
section One
variable {p : Program} {l : Launch} {e : Env} {R : Room} {s : State} {m : MethodId} {args : Array Value} {below : List Frame} {meth : Method} {c : Code} {H : Heap} {locs : List Loc} {cells slots : Nat} {Q : State → Prop} {G : iq_G} {mi c0 s0 pc : Nat} {L : iq_L} {S : List Value} {M : iq_M} {o : iq_S ⊕ (iq_R × iq_M)}
theorem iq_x_ret (hok : iq_rtk (iq_rt mi) (iq_rty mi)) {w : Nat} (hd0 : w = 0 → decode (iq_cc mi) pc = .ok (.ireturn, 1)) (hd1 : w = 1 → decode (iq_cc mi) pc = .ok (.lreturn, 1)) (hd2 : w = 2 → decode (iq_cc mi) pc = .ok (.return_, 1)) (ho : iq_ret (iq_rt mi) S M w = some o)
    (hE : ∀ r M', o = .inr (r, M') → iq_End p l e R s m args below meth c Q G mi c0 s0 r M') : iq_W p l e R s m args below meth c Q G (iq_ml mi) c0 s0 (pc, L, S, M) := by
  unfold iq_ret at ho
  generalize hrt : iq_rt mi = rt at ho hok
  split at ho
  · rename_i x
    have go : o = .inr (.inl (some (.int x)), M) → w = 0 → (∃ ty, iq_rty mi = some ty ∧ narrow ty (.int x) = .int x) → iq_W p l e R s m args below meth c Q G (iq_ml mi) c0 s0 (pc, L, [.int x], M) := fun h1 h2 h3 H locs ls hR hL =>
      (hE _ _ h1).1 _ rfl H locs ls pc hR ⟨hd0 h2, h3⟩
    split at ho
    · cases ho; exact go rfl rfl ⟨.int, hok, vp_nar_int x⟩
    · split at ho
      · rename_i hx
        cases ho
        exact go rfl rfl ⟨.boolean, hok, by rcases hx with rfl | rfl <;> rfl⟩
      · cases ho
    · split at ho
      · rename_i hx
        cases ho
        exact go rfl rfl ⟨.byte, hok, hx⟩
      · cases ho
    · split at ho
      · rename_i hx
        cases ho
        exact go rfl rfl ⟨.char, hok, hx⟩
      · cases ho
    · cases ho
  · rename_i x
    split at ho
    · cases ho
      exact fun H locs ls hR hL => (hE _ _ rfl).1 _ rfl H locs ls pc hR ⟨hd1 rfl, hok⟩
    · cases ho
  · split at ho
    · cases ho
      exact fun H locs ls hR hL => (hE _ _ rfl).1 _ rfl H locs ls pc hR ⟨hd2 rfl, hok⟩
    · cases ho
  · cases ho
/-- what comes back of a call -/
theorem iq_x_bk (C : iq_Cx G p s m args meth c R mi) (hSt : iq_St G s s.heap) (hdec : ∀ e ∈ iq_tab mi, decode (iq_cc mi) e.1 = .ok e.2) (htab : c.exceptionTable.toList = tableOf (iq_hh mi)) (hct : ∀ e ∈ iq_cls (iq_ow mi), e.1 ≠ 0) {rest : List Value} {r : iq_R} {M' : iq_M} {a : Array Value} {ls : Array Slot} (hkd : ∀ k, r = .inr k → k < 2)
    (hrun : vx_Run p l e R s m args below meth c H locs (M.2.2.2.1 - c0) (M.2.2.2.2.1 - s0) (M'.2.2.2.1 - M.2.2.2.1) (M'.2.2.2.2.1 - M.2.2.2.2.1) (F0 m pc ls (S.map (iq_cv G))) (rest.map (iq_cv G)) (iq_Qc G r M' a) (iq_XC G r M') (iq_A G))
    (hR : iq_Rel G s c0 s0 M H locs) (hL : iq_LR G ls (iq_ml mi) L) (hm : iq_mono M M') (ho : iq_bk (iq_tab mi) (iq_ow mi) (iq_hh mi) pc L rest (some (r, M')) = some o)
    (hc : ∀ σ, o = .inl σ → iq_W p l e R s m args below meth c Q G (iq_ml mi) c0 s0 σ) (hE : ∀ r M', o = .inr (r, M') → iq_End p l e R s m args below meth c Q G mi c0 s0 r M') :
    W p l e R s m args below meth c H locs (M.2.2.2.1 - c0) (M.2.2.2.2.1 - s0) Q (F0 m pc ls (S.map (iq_cv G))) := by
  have hm1 := hm.1
  have hm2 := hm.2.1
  have hc0 := hR.2.2.2.1
  have e1 : M.2.2.2.1 - c0 + (M'.2.2.2.1 - M.2.2.2.1) = M'.2.2.2.1 - c0 := by omega
  have e2 : M.2.2.2.2.1 - s0 + (M'.2.2.2.2.1 - M.2.2.2.2.1) = M'.2.2.2.2.1 - s0 := by omega
  refine iq_go hrun hR.2.2.2.2.2 (fun v hv H1 locs1 hP hS => ?_) (fun k hk H1 locs1 q ce hP hS hcell hv hcl => ?_)
  · rw [e1, e2]
    have hR1 := iq_Rel_call hR hm hP hS
    subst hv
    cases v with
    | none =>
      simp only [iq_bk] at ho
      cases ho
      exact hc _ rfl H1 locs1 ls hR1 hL
    | some v =>
      simp only [iq_bk] at ho
      cases ho
      exact hc _ rfl H1 locs1 ls hR1 hL
  · rw [e1, e2]
    have hR1 := iq_Rel_call hR hm hP hS
    have hk2 := hkd k hk
    subst hk
    simp only [iq_bk] at ho
    split at ho
    · split at ho
      · rename_i hh0
        cases ho
        have hQ := (hE _ _ rfl).2 k rfl
        rw [hQ]
        refine vx_out (E := iq_xn k) (fun x hx => ?_) C.2.2.2.2.2.1 hcell hv hcl (fun t ht _ => ⟨⟨k, rfl, rfl, by rw [ht]; exact hP⟩, ⟨by rw [ht]; exact hS.1, fun q h1 h2 => by rw [ht]; exact hS.2.1 q h1 h2⟩⟩) hS.2.2 (Nat.le_refl _) (Nat.le_refl _)
        rw [htab, hh0] at hx
        cases hx
      · cases ho
    · rename_i h hh
      have hG := C.2.2.2.2.2.2.2.2.2.1
      split at ho
      · rename_i i hi
        split at ho
        · rename_i hb
          have hil : i < iq_ml mi := by rw [← hL.1]; exact iq_blt hb
          cases ho
          refine iq_caught C hSt htab hk2 hh hcell hv hcl hct ?_
          have hd9 : decode (iq_cc mi) h = .ok (.astore i, 2) := hdec (h, .astore i, 2) (iq_at_mem hi)
          refine lv_astore C.1 C.2.1 hd9 hL.2 hil rfl fun ls' h' => ?_
          refine hc _ rfl H1 locs1 ls' hR1 ⟨by simp [iq_st1_len]; exact hL.1, h'.1, h'.2.1, fun q2 hq2 => ?_⟩
          obtain ⟨j, v, hj, rfl⟩ := iq_ps_mem.mp hq2
          by_cases hji : j = i
          · subst hji
            rw [List.getElem?_set_self (by rw [iq_st1_len, hL.1]; exact hil)] at hj
            cases hj
          · rw [List.getElem?_set_ne (Ne.symm hji)] at hj
            rcases iq_st1_get (by rw [hL.1]; exact hil) hj with ⟨h1, -⟩ | ⟨-, hLj, hcat⟩
            · exact absurd h1 hji
            · refine h'.2.2 _ (List.mem_cons_of_mem _ (List.mem_filter.mpr ⟨iq_ps_mem.mpr ⟨j, v, hLj, rfl⟩, ?_⟩))
              simp only [Bool.and_eq_true, Bool.not_eq_true', beq_eq_false_iff_ne, ne_eq, Bool.and_eq_false_iff, Nat.zero_add]
              refine ⟨hji, ?_⟩
              by_cases hj1 : j + 1 = i
              · exact Or.inr fun h2 => hcat hj1 (iq_cv_long hG h2)
              · exact Or.inl hj1
        · cases ho
      · rename_i i hi
        split at ho
        · rename_i hb
          have hil : i.val < iq_ml mi := by rw [← hL.1]; exact iq_blt hb
          cases ho
          refine iq_caught C hSt htab hk2 hh hcell hv hcl hct ?_
          have hd9 : decode (iq_cc mi) h = .ok (.astore_n i, 1) := hdec (h, .astore_n i, 1) (iq_at_mem hi)
          refine lv_astore_n C.1 C.2.1 hd9 rfl hL.2 hil rfl fun ls' h' => ?_
          refine hc _ rfl H1 locs1 ls' hR1 ⟨by simp [iq_st1_len]; exact hL.1, h'.1, h'.2.1, fun q2 hq2 => ?_⟩
          obtain ⟨j, v, hj, rfl⟩ := iq_ps_mem.mp hq2
          by_cases hji : j = i.val
          · subst hji
            rw [List.getElem?_set_self (by rw [iq_st1_len, hL.1]; exact hil)] at hj
            cases hj
          · rw [List.getElem?_set_ne (Ne.symm hji)] at hj
            rcases iq_st1_get (by rw [hL.1]; exact hil) hj with ⟨h1, -⟩ | ⟨-, hLj, hcat⟩
            · exact absurd h1 hji
            · refine h'.2.2 _ (List.mem_cons_of_mem _ (List.mem_filter.mpr ⟨iq_ps_mem.mpr ⟨j, v, hLj, rfl⟩, ?_⟩))
              simp only [Bool.and_eq_true, Bool.not_eq_true', beq_eq_false_iff_ne, ne_eq, Bool.and_eq_false_iff, Nat.zero_add]
              refine ⟨hji, ?_⟩
              by_cases hj1 : j + 1 = i.val
              · exact Or.inr fun h2 => hcat hj1 (iq_cv_long hG h2)
              · exact Or.inl hj1
        · cases ho
      · cases ho
end One
