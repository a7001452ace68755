/-! ===== calls of the abstract machine keep their contracts ===== -/
theorem iq_cat_ref {G : iq_G} (hG : G.2.2.2.2.2.category = 1) (k : Nat) : (iq_cv G (.ref k)).category = 1 := by
  by_cases hk : k = 7000
  · rw [show iq_cv G (.ref k) = G.2.2.2.2.2 by simp [iq_cv, hk]]
    exact hG
  · rw [show iq_cv G (.ref k) = .ref (iq_ad G k) by simp [iq_cv, hk]]
    rfl
theorem iq_lay_mem {G : iq_G} (hG : G.2.2.2.2.2.category = 1) : ∀ {as : List Value} {i j : Nat} {v : Value}, (iq_lay as)[j]? = some (some v) → (i + j, iq_cv G v) ∈ lv_args i (as.map (iq_cv G))
  | [], i, j, v, h => by simp [iq_lay] at h
  | a :: as, i, j, v, h => by
    have one : ∀ (w : Value), (iq_cv G w).category = 1 → (some w :: iq_lay as)[j]? = some (some v) → (i + j, iq_cv G v) ∈ lv_args i ((w :: as).map (iq_cv G)) := by
      intro w hw h
      simp only [List.map_cons, lv_args, hw]
      cases j with
      | zero => simp at h; subst h; exact List.mem_cons_self
      | succ j =>
        have h2 : (iq_lay as)[j]? = some (some v) := by simpa using h
        have := iq_lay_mem hG (i := i + 1) h2
        rw [show i + (j + 1) = i + 1 + j by omega]
        exact List.mem_cons_of_mem _ (by simpa using this)
    have two : ∀ (w : Value), (iq_cv G w).category = 2 → (some w :: none :: iq_lay as)[j]? = some (some v) → (i + j, iq_cv G v) ∈ lv_args i ((w :: as).map (iq_cv G)) := by
      intro w hw h
      simp only [List.map_cons, lv_args, hw]
      match j, h with
      | 0, h => simp at h; subst h; exact List.mem_cons_self
      | 1, h => simp at h
      | j + 2, h =>
        have h2 : (iq_lay as)[j]? = some (some v) := by simpa using h
        have := iq_lay_mem hG (i := i + 2) h2
        rw [show i + (j + 2) = i + 2 + j by omega]
        exact List.mem_cons_of_mem _ (by simpa using this)
    cases a with
    | int x => exact one _ rfl h
    | long x => exact two _ rfl h
    | float x => exact one _ rfl h
    | double x => exact two _ rfl h
    | null => exact one _ rfl h
    | ref k => exact one _ (iq_cat_ref hG k) h
    | retAddr x => exact one _ rfl h
theorem iq_lay_len {G : iq_G} (hG : G.2.2.2.2.2.category = 1) : ∀ (as : List Value), (lg_sl (as.map (iq_cv G))).length = (iq_lay as).length
  | [] => rfl
  | a :: as => by
    have ih := iq_lay_len hG as
    have one : ∀ (w : Value), (iq_cv G w).category = 1 → (lg_sl ((w :: as).map (iq_cv G))).length = (iq_lay as).length + 1 := by
      intro w hw
      rw [← ih]
      simp [lg_sl, hw]
    have two : ∀ (w : Value), (iq_cv G w).category = 2 → (lg_sl ((w :: as).map (iq_cv G))).length = (iq_lay as).length + 2 := by
      intro w hw
      rw [← ih]
      simp [lg_sl, hw]
    cases a with
    | int x => exact one _ rfl
    | long x => exact two _ rfl
    | float x => exact one _ rfl
    | double x => exact two _ rfl
    | null => exact one _ rfl
    | ref k => exact one _ (iq_cat_ref hG k)
    | retAddr x => exact one _ rfl
theorem iq_entry {G : iq_G} (hG : G.2.2.2.2.2.category = 1) {mi : Nat} {as : List Value} (h : (iq_lay as).length ≤ iq_ml mi) : iq_LR G ((lg_sl (as.map (iq_cv G)) ++ List.replicate (iq_ml mi - (lg_sl (as.map (iq_cv G))).length) Slot.unset).toArray) (iq_ml mi) (iq_ent mi as) := by
  have hl := lv_entry (as.map (iq_cv G)) (n := iq_ml mi) (by rw [iq_lay_len hG]; exact h)
  refine iq_LR_sub (by simp [iq_ent]; omega) hl fun j v hj => ?_
  unfold iq_ent at hj
  by_cases hjl : j < (iq_lay as).length
  · rw [List.getElem?_append_left hjl] at hj
    have := iq_lay_mem hG (i := 0) hj
    simpa using this
  · rw [List.getElem?_append_right (by omega)] at hj
    have := List.mem_of_getElem? hj
    simp at this
/-- where a method ends -/
theorem iq_ends {p : Program} {l : Launch} {e : Env} {R : Room} {s : State} {m : MethodId} {args : Array Value} {below : List Frame} {meth : Method} {c : Code} {G : iq_G} {mi c0 s0 : Nat} (C : iq_Cx G p s m args meth c R mi) (r : iq_R) (M' : iq_M) :
    iq_End p l e R s m args below meth c (vx_MQ below (iq_Qc G r M') (iq_XC G r M') args s (M'.2.2.2.1 - c0) (M'.2.2.2.2.1 - s0) (iq_A G)) G mi c0 s0 r M' := by
  refine ⟨fun v hv H locs ls pc hR hrok => ?_, fun k hk => rfl⟩
  subst hv
  have hlocks : meth.locks = false := C.2.2.2.2.2.1
  have hret := C.2.2.2.2.2.2.1
  have hq : ∀ t : State, t.heap = H → s.WarmedH t.vm → iq_Qc G (.inl v) M' args s (.returned (v.map (iq_cv G))) t := fun t ht _ => ⟨⟨v, rfl, rfl, by rw [ht]; exact hR.1⟩, ⟨by rw [ht]; exact hR.2.2.2.2.2.1, fun q h1 h2 => by rw [ht]; exact hR.2.2.2.2.2.2.1 q h1 h2⟩⟩
  refine vx_ret ?_
  match v, hrok, hq with
  | some (.int x), ⟨hd, ty, hty, hn⟩, hq => exact W.zret C.1 C.2.1 (hret.trans hty) hn hq hR.2.2.2.2.2.2.2 hd hlocks
  | some (.long x), ⟨hd, hty⟩, hq => exact W.lret C.1 C.2.1 (hret.trans hty) hq hR.2.2.2.2.2.2.2 hd hlocks
  | none, ⟨hd, hty⟩, hq => exact W.vret C.1 C.2.1 (hret.trans hty) hq hR.2.2.2.2.2.2.2 hd hlocks
theorem iq_ev_ok {l : Launch} {G : iq_G} (hG : G.2.2.2.2.2.category = 1) (hTH : iq_TH l G) (hdecA : ∀ mi, mi < 357 → ∀ e ∈ iq_tab mi, decode (iq_cc mi) e.1 = .ok e.2) (hct : ∀ ow, ∀ e ∈ iq_cls ow, e.1 ≠ 0)
    (hnest : ∀ own idx' y, Cond.methodLinkNest own idx' y "OpenSaying" ∈ lw_tbl → Cond.methodLinkNest own idx' y "OpenSaying" ∈ iq_V) : ∀ (d n : Nat), iq_KOK l G d (iq_ev d n)
  | 0, n => fun cal as M r M' _ _ h => by cases h
  | d + 1, n => fun cal as M r M' hcal h0 h => by
    have hIH := iq_ev_ok hG hTH hdecA hct hnest d n
    have hmono := iq_k_ev (d + 1) n cal as M r M' h0 h
    refine ⟨?_, hmono.1⟩
    obtain ⟨k1, k2, k3, k4, k5, k6, k7, k8, k9⟩ := iq_c_ok cal hcal
    unfold iq_ev at h
    split at h
    · rename_i hlay
      have hlay := Nat.le_of_ble_eq_true hlay
      obtain ⟨hm1, hm2, -⟩ := hmono.1
      have body : ∀ (p : Program) (e : Env) (s : State) (m : MethodId) (args : Array Value) (below : List Frame) (meth : Method) (c : Code) (s₁ : State), BodyLoose p l (iq_y cal) (headSpec (iq_ws cal) (iq_rm (d + 1) M M')) (iq_cc cal) (iq_ml cal) (iq_rty cal) e s m args below meth c s₁ → c.maxLocals = iq_ml cal → c.exceptionTable.toList = tableOf (iq_hh cal) → iq_Pc G as M args s →
          W p l e (headSpec (iq_ws cal) (iq_rm (d + 1) M M')).room s m args below meth c s.heap [] 0 0 (vx_MQ below (iq_Qc G r M') (iq_XC G r M') args s (M'.2.2.2.1 - M.2.2.2.1) (M'.2.2.2.2.1 - M.2.2.2.2.1) (iq_A G)) (entryFrame m args (iq_ml cal)) := by
        intro p e s m args below meth c s₁ B hml htab hP
        obtain ⟨hargs, p1, p2, p3, p4, p5, p6, p7, p8⟩ := hP
        have hts := atoms_spec (ws := iq_ws cal) B.pre
        have C : iq_Cx G p s m args meth c (headSpec (iq_ws cal) (iq_rm (d + 1) M M')).room cal := ⟨B.exec, B.bytes, hml, by rw [← k1]; exact findClass_of_methodNamed B.named, fun w hw => hts w (List.mem_cons_of_mem _ hw), B.notSynchronized, B.returns, fun hi => by rw [(name_of_methodNamed B.named B.method).1]; exact k5 hi, p6, hG, ⟨by show 20 ≤ 20 + (d + 1); omega, p7⟩, by show 300 ≤ 300 + 40 * (d + 1); omega, p5⟩
        have hW : iq_W p l e (headSpec (iq_ws cal) (iq_rm (d + 1) M M')).room s m args below meth c _ G (iq_ml cal) M.2.2.2.1 M.2.2.2.2.1 (0, iq_ent cal as, [], M) :=
          iq_runW (xs := fun _ => 0) C p8 (hdecA cal hcal) htab (hct _) k4 hIH (iq_k_ev d n) ⟨by show 20 + d + 1 ≤ 20 + (d + 1); omega, by show 300 + 40 * (d + 1) ≤ 300 + 40 * (d + 1); omega⟩ hnest hTH (fun hl => by rw [k8] at hl; cases hl) (fun cal as M r M' h0 hk => (iq_k_ev d n cal as M r M' h0 hk).2) n _ r M' h
            (by obtain ⟨N, hN⟩ := h0; exact ⟨N, hN, fun hl => by rw [k8] at hl; cases hl⟩) (fun hl => by rw [k8] at hl; cases hl) (iq_ends C r M') (by show _ ≤ _ + (M'.2.2.2.1 - M.2.2.2.1); omega) (by show _ ≤ _ + (M'.2.2.2.2.1 - M.2.2.2.2.1); omega)
        have hRel : iq_Rel G s M.2.2.2.1 M.2.2.2.2.1 M s.heap [] := ⟨p1, p2, p3, ⟨Nat.le_refl _, Nat.le_refl _⟩, fun hg => by rw [p4 hg]; omega, va_S.rf⟩
        have W0 := hW s.heap [] _ hRel (iq_entry hG hlay)
        simp only [Nat.sub_self] at W0
        subst hargs
        rw [lg_entry_eq]
        exact W0
      unfold iq_CM
      cases hh : iq_hh cal with
      | nil =>
        have hcd : iq_cdw cal = .code (iq_y cal) (iq_cc cal) (iq_ml cal) (iq_rty cal) := by unfold iq_cdw; rw [hh]
        exact vx_ofW (ws' := iq_U) (cc := iq_cc cal) (maxL := iq_ml cal) (ret := iq_rty cal) k2 (by unfold iq_ws; rw [hcd]) (fun p e s m args below meth c s₁ B hml hno hP => body p e s m args below meth c s₁ B hml (by
          rw [hh]
          cases ht : c.exceptionTable.toList with
          | nil => rfl
          | cons a t => exact (hno a (by rw [ht]; exact List.mem_cons_self)).elim) hP)
      | cons q0 qs =>
        have hcd : iq_cdw cal = .codeWith (iq_y cal) (iq_cc cal) (iq_ml cal) (iq_rty cal) (q0 :: qs) := by unfold iq_cdw; rw [hh]
        exact vx_ofWH (ws' := iq_U) (cc := iq_cc cal) (maxL := iq_ml cal) (ret := iq_rty cal) (hh := q0 :: qs) k2 (by unfold iq_ws; rw [hcd]) (fun p e s m args below meth c s₁ B hml hP => body p e s m args below meth c s₁ B hml (by
          rw [hh]
          exact vx_table (x := iq_y cal) B (atoms_spec (ws := iq_ws cal) B.pre _ (by unfold iq_ws; rw [hcd]; exact List.mem_cons_self))) hP)
    · cases h
