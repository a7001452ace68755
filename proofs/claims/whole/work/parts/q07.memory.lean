/-! ===== the steps of the abstract machine: fields and arrays ===== -/
theorem iq_lk_mem {α : Type} : ∀ {t : List (Nat × α)} {k : Nat} {a : α}, iq_lk t k = some a → (k, a) ∈ t
  | [], _, _, h => by simp [iq_lk] at h
  | e :: t, k, a, h => by
    unfold iq_lk at h
    split at h
    · rename_i hb
      have := Nat.eq_of_beq_eq_true hb
      cases h
      subst this
      exact List.mem_cons_self
    · exact List.mem_cons_of_mem _ (iq_lk_mem h)
/-- what the tables say of a class -/
theorem iq_cl_ok {ci : Nat} {C : String} {T : u_T} {N : Nat} (h : vwCl[ci]? = some (C, T, N)) : ci < 11 ∧ (∀ w ∈ u_ws C T N, w ∈ iq_U) ∧ (C = iq_nm ci ∧ ∀ k, k < N → (T k).1 = iq_nm ci) ∧ ∃ ty : Nat → FieldType, (∀ k, k < N → parseFieldDescriptor (T k).2.2.1 = some (ty k)) ∧ (∀ a, a < N → ∀ b, b < N → a ≠ b → (T a).2.1 ≠ (T b).2.1) := by
  match ci, h with
  | 0, h => cases h; exact ⟨by decide, iq_lay_0, ⟨rfl, by decide +kernel⟩, tyX0, tyX0_ok, nmX0⟩
  | 1, h => cases h; exact ⟨by decide, iq_lay_1, ⟨rfl, by decide +kernel⟩, tyX1, tyX1_ok, nmX1⟩
  | 2, h => cases h; exact ⟨by decide, iq_lay_2, ⟨rfl, by decide +kernel⟩, tyX2, tyX2_ok, nmX2⟩
  | 3, h => cases h; exact ⟨by decide, iq_lay_3, ⟨rfl, by decide +kernel⟩, tyX3, tyX3_ok, nmX3⟩
  | 4, h => cases h; exact ⟨by decide, iq_lay_4, ⟨rfl, by decide +kernel⟩, tyX4, tyX4_ok, nmX4⟩
  | 5, h => cases h; exact ⟨by decide, iq_lay_5, ⟨rfl, by decide +kernel⟩, tyX5, tyX5_ok, nmX5⟩
  | 6, h => cases h; exact ⟨by decide, iq_lay_6, ⟨rfl, by decide +kernel⟩, tyX6, tyX6_ok, nmX6⟩
  | 7, h => cases h; exact ⟨by decide, iq_lay_7, ⟨rfl, by decide +kernel⟩, tyX7, tyX7_ok, nmX7⟩
  | 8, h => cases h; exact ⟨by decide, iq_lay_8, ⟨rfl, by decide +kernel⟩, tyX8, tyX8_ok, nmX8⟩
  | 9, h => cases h; exact ⟨by decide, iq_lay_9, ⟨rfl, by decide +kernel⟩, tyX9, tyX9_ok, nmX9⟩
  | 10, h => cases h; exact ⟨by decide, iq_lay_10, ⟨rfl, by decide +kernel⟩, tyX10, tyX10_ok, nmX10⟩
  | n + 11, h => simp [vwCl] at h
theorem iq_cv_id {G : iq_G} {k : Nat} (h0 : 0 < k) (h : k < 5000) : iq_cv G (.ref k) = .ref (iq_bs G + (k - 1)) := by
  have h1 : k ≠ 7000 := by omega
  have h2 : k ≠ 0 := by omega
  simp [iq_cv, iq_ad, h1, h2, h]
theorem iq_en_obj {G : iq_G} {M : iq_M} {k ci : Nat} {fs : List Nat} (h : ci < 11) : iq_en G M k (ci, fs) = .inr (ci, iq_fs G M k 0 fs) := by
  have h1 : ci ≠ 100 := by omega
  have h2 : ci ≠ 101 := by omega
  have h3 : ci ≠ 102 := by omega
  simp [iq_en, h1, h2, h3]
theorem iq_pos {M : iq_M} (h0 : ∃ n, M.1[0]? = some (103, [n])) {k t : Nat} {fs : List Nat} (h : M.1[k]? = some (t, fs)) (ht : t ≠ 103) : 0 < k := by
  rcases Nat.eq_zero_or_pos k with rfl | hp
  · obtain ⟨n, hn⟩ := h0
    rw [hn] at h
    cases h
    exact absurd rfl ht
  · exact hp
/-- a world that differs in one cell alone -/
theorem iq_Rel_put {G : iq_G} {s : State} {c0 s0 : Nat} {M M' : iq_M} {H H1 : Heap} {locs locs1 : List Loc} {k : Nat} {v : va_E} (hR : iq_Rel G s c0 s0 M H locs) (hk : 0 < k) (hl : M'.1.length = M.1.length) (h0 : M'.1[0]? = M.1[0]?) (hkc : M'.2.2.2 = M.2.2.2)
    (ho : ∀ j, j ≠ k → iq_en G M' j (M'.1.getD j (0, [])) = iq_en G M j (M.1.getD j (0, []))) (he : iq_en G M' k (M'.1.getD k (0, [])) = v)
    (hP : va_P G.1 vwCl ((iq_wl G M).set (k - 1) (iq_bs G + (k - 1), v)) H1) (hS : va_S (iq_A G) s.heap H1 locs1) : iq_Rel G s c0 s0 M' H1 locs1 := by
  rw [iq_wl_set hl hk ho he] at hP
  refine ⟨hP, by rw [h0]; exact hR.2.1, by rw [hl]; exact hR.2.2.1, by rw [hkc]; exact hR.2.2.2.1, by rw [hkc, hl]; exact hR.2.2.2.2.1, hS⟩
theorem iq_upI_other {f : Nat → Nat → Int32} {k i j : Nat} {v : Int32} (h : j ≠ k) : iq_upI f k i v j = f j := by
  funext a; simp [iq_upI, h]
theorem iq_upI_self {f : Nat → Nat → Int32} {k i : Nat} {v : Int32} : iq_upI f k i v k = upd (f k) i v := by
  funext a; simp [iq_upI, upd]
theorem iq_upJ_other {f : Nat → Nat → Int64} {k i j : Nat} {v : Int64} (h : j ≠ k) : iq_upJ f k i v j = f j := by
  funext a; simp [iq_upJ, h]
theorem iq_upJ_self {f : Nat → Nat → Int64} {k i : Nat} {v : Int64} : iq_upJ f k i v k = vp_updL (f k) i v := by
  funext a; simp [iq_upJ, vp_updL]
/-- the entry of a cell speaks of its own numbers alone -/
theorem iq_fs_same {G : iq_G} {M M' : iq_M} {k : Nat} (h1 : M'.2.1 k = M.2.1 k) (h2 : M'.2.2.1 k = M.2.2.1 k) : ∀ (ds : List Nat) (i : Nat), iq_fs G M' k i ds = iq_fs G M k i ds
  | [], _ => rfl
  | d :: ds, i => by
    rw [iq_fs, iq_fs, iq_fs_same h1 h2 ds (i + 1)]
    congr 1
    match d with
    | 0 => rfl
    | 1 => simp [iq_fv, h1]
    | 2 => simp [iq_fv, h2]
    | r + 3 => rfl
theorem iq_en_same {G : iq_G} {M M' : iq_M} {k : Nat} (h1 : M'.2.1 k = M.2.1 k) (h2 : M'.2.2.1 k = M.2.2.1 k) (e : Nat × List Nat) : iq_en G M' k e = iq_en G M k e := by
  unfold iq_en
  rw [h1, h2, iq_fs_same h1 h2]
section Mem
variable {p : Program} {l : Launch} {e : Env} {R : Room} {s : State} {m : MethodId} {args : Array Value} {below : List Frame} {meth : Method} {c : Code} {Q : State → Prop} {G : iq_G} {mi c0 s0 pc : Nat} {L : iq_L} {S : List Value} {M : iq_M} {o : iq_S ⊕ (iq_R × iq_M)}
theorem iq_x_gf (C : iq_Cx G p s m args meth c R mi) {idx : Nat} (hd : decode (iq_cc mi) pc = .ok (.getfield idx, 3)) (ho : iq_gf (iq_ow mi) idx (pc + 3) L S M = some o) (hc : ∀ σ, o = .inl σ → iq_W p l e R s m args below meth c Q G (iq_ml mi) c0 s0 σ)
    (hstr : ∀ k f ty S', S = .ref k :: S' → iq_lk (iq_fds (iq_ow mi)) idx = some (20, f, ty) → 5000 ≤ k → k < 5033 → iq_W p l e R s m args below meth c Q G (iq_ml mi) c0 s0 (pc + 3, L, (if f = 0 then .ref (k + 1000) else .int 0) :: S', M) → iq_W p l e R s m args below meth c Q G (iq_ml mi) c0 s0 (pc, L, S, M)) :
    iq_W p l e R s m args below meth c Q G (iq_ml mi) c0 s0 (pc, L, S, M) := by
  unfold iq_gf at ho
  split at ho
  · rename_i k S'
    split at ho
    · rename_i ci f ty hlk
      split at ho
      · split at ho
        · rename_i h5 h6
          refine hstr k f ty S' rfl hlk (Nat.le_of_ble_eq_true h5) (iq_blt h6) ?_
          split at ho
          · cases ho; exact hc _ rfl
          · rename_i hf
            cases ho
            rw [if_neg (by intro h; exact hf h)]
            exact hc _ rfl
        · cases ho
      · rename_i ci' hci
        split at ho
        · rename_i t fs hM
          split at ho
          · rename_i hb
            have ht := Nat.eq_of_beq_eq_true hb
            subst ht
            rcases iq_fds_ok _ _ (iq_lk_mem hlk) with h20 | ⟨CC, TT, N, hcl, hf, hw, hty⟩
            · exact absurd h20 (by simpa using hci)
            · obtain ⟨hci11, hin, hdc, ty0, hty0, hnm⟩ := iq_cl_ok hcl
              simp only at hcl hf hw hty hci11
              intro H locs ls hR hL
              have hk : 0 < k := iq_pos hR.2.1 hM (by omega)
              have hkl : k < M.1.length := (List.getElem?_eq_some_iff.mp hM).1
              have hk5 : k < 5000 := Nat.lt_of_lt_of_le hkl hR.2.2.1
              simp only [List.map_cons, iq_cv_id hk hk5]
              have he := iq_wl_get (G := G) hM hk
              rw [iq_en_obj hci11] at he
              have go : ∀ v, fs[f]? ≠ none → (iq_fs G M k 0 fs)[f]? = some v → W p l e R s m args below meth c H locs (M.2.2.2.1 - c0) (M.2.2.2.2.1 - s0) Q (F0 m (pc + 3) ls (v :: S'.map (iq_cv G))) → W p l e R s m args below meth c H locs (M.2.2.2.1 - c0) (M.2.2.2.2.1 - s0) Q (F0 m pc ls (.ref (iq_bs G + (k - 1)) :: S'.map (iq_cv G))) := fun v _ hv kk =>
                va_get C.1 C.2.1 C.2.2.2.2.1 hin C.2.2.2.1 C.2.2.2.2.2.2.2.2.1 hR.1 (k - 1) he hcl f hf (C.2.2.2.2.1 _ hw) (fun x h => h) hv hd kk
              split at ho
              · rename_i hfs
                cases ho
                exact go _ (by rw [hfs]; simp) (iq_fs_get hfs) (by simpa [iq_fv, iq_cv] using hc _ rfl H locs ls hR hL)
              · rename_i hfs
                cases ho
                exact go _ (by rw [hfs]; simp) (iq_fs_get hfs) (by simpa [iq_fv, iq_cv] using hc _ rfl H locs ls hR hL)
              · rename_i r hfs
                cases ho
                exact go _ (by rw [hfs]; simp) (iq_fs_get hfs) (by simpa [iq_fv] using hc _ rfl H locs ls hR hL)
              · cases ho
          · cases ho
        · cases ho
    · cases ho
  · cases ho
theorem iq_getD {M : iq_M} {k : Nat} {e : Nat × List Nat} (h : M.1[k]? = some e) : M.1.getD k (0, []) = e := by simp [List.getD, h]
theorem iq_x_pf (C : iq_Cx G p s m args meth c R mi) {idx : Nat} (hd : decode (iq_cc mi) pc = .ok (.putfield idx, 3)) (ho : iq_pf (iq_ow mi) (iq_ini mi) idx (pc + 3) L S M = some o) (hc : ∀ σ, o = .inl σ → iq_W p l e R s m args below meth c Q G (iq_ml mi) c0 s0 σ) :
    iq_W p l e R s m args below meth c Q G (iq_ml mi) c0 s0 (pc, L, S, M) := by
  unfold iq_pf at ho
  split at ho
  · rename_i v k S'
    split at ho
    · rename_i ci f ty hlk
      split at ho
      · rename_i t fs hM hc11
        split at ho
        · rename_i hb
          have ht := Nat.eq_of_beq_eq_true hb
          subst ht
          intro H locs ls hR hL
          rcases iq_fds_ok _ _ (iq_lk_mem hlk) with h20 | ⟨CC, TT, N, hcl, hf, hw, hty⟩
          · exfalso
            have := iq_blt hc11
            simp only at h20
            omega
          · obtain ⟨hci11, hin, hdc, ty0, hty0, hnm⟩ := iq_cl_ok hcl
            simp only at hcl hf hw hty hci11
            have hk : 0 < k := iq_pos hR.2.1 hM (by omega)
            have hkl : k < M.1.length := (List.getElem?_eq_some_iff.mp hM).1
            have hk5 : k < 5000 := Nat.lt_of_lt_of_le hkl hR.2.2.1
            simp only [List.map_cons, iq_cv_id hk hk5]
            have he := iq_wl_get (G := G) hM hk
            rw [iq_en_obj hci11] at he
            have hg := iq_getD hM
            split at ho
            · rename_i x
              have go : (TT f).2.2.2 = false → ∀ tt, parseFieldDescriptor (TT f).2.2.1 = some tt → narrow tt (.int x) = .int x → fits tt (.int x) = true → fs[f]? = some 1 → o = .inl (pc + 3, L, S', (M.1, iq_upI M.2.1 k f x, M.2.2)) →
                  W p l e R s m args below meth c H locs (M.2.2.2.1 - c0) (M.2.2.2.2.1 - s0) Q (F0 m pc ls (iq_cv G (.int x) :: .ref (iq_bs G + (k - 1)) :: S'.map (iq_cv G))) := by
                intro hfin tt htt hn hfit hfs hoe
                have hfl : f < (iq_fs G M k 0 fs).length := by rw [iq_fs_len]; exact (List.getElem?_eq_some_iff.mp hfs).1
                refine va_put C.1 C.2.1 C.2.2.2.2.1 hin ty0 hty0 hnm C.2.2.2.1 C.2.2.2.2.2.2.2.2.1 hR.1 (iq_wl_D G M) hR.2.2.2.2.2 (k - 1) he hcl f hf (C.2.2.2.2.1 _ hw) (fun x h => h) hfin htt hn hfit hfl hd fun H1 locs1 hP1 hD1 hS1 => ?_
                refine hc _ hoe H1 locs1 ls (iq_Rel_put (M' := (M.1, iq_upI M.2.1 k f x, M.2.2)) hR hk rfl rfl rfl (fun j hj => iq_en_same (M := M) (M' := (M.1, iq_upI M.2.1 k f x, M.2.2)) (iq_upI_other hj) rfl _) ?_ hP1 hS1) hL
                show iq_en G _ k (M.1.getD k (0, [])) = _
                rw [hg, iq_en_obj hci11]
                congr 2
                refine (iq_fs_set (i := 0) 0 rfl (fun j d d' hj h1 h2 => ?_) (fun j d' hj h2 => ?_) rfl).symm
                · rw [h1] at h2
                  cases h2
                  match d with
                  | 0 => rfl
                  | 1 => simp only [iq_fv]; simp [iq_upI]; intro h; omega
                  | 2 => rfl
                  | r + 3 => rfl
                · have : j = f := by omega
                  subst this
                  rw [hfs] at h2
                  cases h2
                  simp [iq_fv, iq_upI, iq_cv]
              split at ho
              · split at ho
                · rename_i hfs
                  cases ho
                  exact go hty.2 .int (by rw [hty.1]; rfl) (vp_nar_int x) rfl hfs rfl
                · cases ho
              · split at ho
                · rename_i hfs
                  split at ho
                  · rename_i h01
                    cases ho
                    refine go hty.2 .boolean (by rw [hty.1]; rfl) ?_ ?_ hfs rfl
                    · rcases h01 with rfl | rfl <;> rfl
                    · rcases h01 with rfl | rfl <;> rfl
                  · cases ho
                · cases ho
              · cases ho
            · rename_i x
              split at ho
              · split at ho
                · rename_i hfs
                  cases ho
                  have hfl : f < (iq_fs G M k 0 fs).length := by rw [iq_fs_len]; exact (List.getElem?_eq_some_iff.mp hfs).1
                  refine va_put C.1 C.2.1 C.2.2.2.2.1 hin ty0 hty0 hnm C.2.2.2.1 C.2.2.2.2.2.2.2.2.1 hR.1 (iq_wl_D G M) hR.2.2.2.2.2 (k - 1) he hcl f hf (C.2.2.2.2.1 _ hw) (fun x h => h) hty.2 (ty := .long) (v := .long x) (by rw [hty.1]; rfl) rfl rfl hfl hd fun H1 locs1 hP1 hD1 hS1 => ?_
                  refine hc _ rfl H1 locs1 ls (iq_Rel_put (M' := (M.1, M.2.1, iq_upJ M.2.2.1 k f x, M.2.2.2)) hR hk rfl rfl rfl (fun j hj => iq_en_same (M := M) (M' := (M.1, M.2.1, iq_upJ M.2.2.1 k f x, M.2.2.2)) rfl (iq_upJ_other hj) _) ?_ hP1 hS1) hL
                  show iq_en G _ k (M.1.getD k (0, [])) = _
                  rw [hg, iq_en_obj hci11]
                  congr 2
                  refine (iq_fs_set (i := 0) 0 rfl (fun j d d' hj h1 h2 => ?_) (fun j d' hj h2 => ?_) rfl).symm
                  · rw [h1] at h2
                    cases h2
                    match d with
                    | 0 => rfl
                    | 1 => rfl
                    | 2 => simp only [iq_fv]; simp [iq_upJ]; intro h; omega
                    | r + 3 => rfl
                  · have : j = f := by omega
                    subst this
                    rw [hfs] at h2
                    cases h2
                    simp [iq_fv, iq_upJ, iq_cv]
                · cases ho
              · cases ho
            · rename_i r
              split at ho
              · rename_i hini hcio hr5
                split at ho
                · rename_i hfl0
                  cases ho
                  have hci : t = iq_ow mi := Nat.eq_of_beq_eq_true hcio
                  have hr : r < 5000 := iq_blt hr5
                  have hf0 : f < fs.length := iq_blt hfl0
                  have hfl : f < (iq_fs G M k 0 fs).length := by rw [iq_fs_len]; exact hf0
                  have hr7 : r ≠ 7000 := Nat.ne_of_lt (Nat.lt_trans hr (by decide))
                  have e1 : iq_cv G (.ref r) = .ref (iq_ad G r) := by simp [iq_cv, hr7]
                  rw [e1]
                  obtain ⟨hfin, tt, htt, htk⟩ := hty
                  refine va_putF C.1 C.2.1 C.2.2.2.2.1 hin ty0 hty0 hnm C.2.2.2.1 C.2.2.2.2.2.2.2.2.1 hR.1 (iq_wl_D G M) hR.2.2.2.2.2 (k - 1) he hcl f hf (C.2.2.2.2.1 _ hw) (fun x h => h) hfin (C.2.2.2.2.2.2.2.1 hini) (by rw [hdc.2 f hf, hci]) htt (by rcases htk with ⟨n, rfl⟩ | ⟨u, rfl⟩ <;> rfl) (by rcases htk with ⟨n, rfl⟩ | ⟨u, rfl⟩ <;> rfl) hfl hd fun H1 locs1 hP1 hD1 hS1 => ?_
                  refine hc _ rfl H1 locs1 ls (iq_Rel_put (M' := (M.1.set k (t, fs.set f (r + 3)), M.2)) hR hk (by simp) (by exact List.getElem?_set_ne (Nat.pos_iff_ne_zero.mp hk)) rfl (fun j hj => ?_) ?_ hP1 hS1) hL
                  · rw [iq_en_same (M := M) (M' := (M.1.set k (t, fs.set f (r + 3)), M.2)) rfl rfl]
                    simp only [List.getD]
                    rw [List.getElem?_set_ne (Ne.symm hj)]
                  · have hg2 : (M.1.set k (t, fs.set f (r + 3))).getD k (0, []) = (t, fs.set f (r + 3)) := by simp [List.getD, hkl]
                    show iq_en G _ k ((M.1.set k (t, fs.set f (r + 3))).getD k (0, [])) = _
                    rw [hg2, iq_en_obj hci11]
                    congr 2
                    refine (iq_fs_set (i := 0) 0 (by simp) (fun j d d' hj h1 h2 => ?_) (fun j d' hj h2 => ?_) rfl).symm
                    · rw [List.getElem?_set_ne (by omega), h1] at h2
                      cases h2
                      match d with
                      | 0 => rfl
                      | 1 => rfl
                      | 2 => rfl
                      | r + 3 => rfl
                    · have : j = f := by omega
                      subst this
                      rw [List.getElem?_set_self hf0] at h2
                      cases h2
                      simp only [iq_fv]
                      exact e1
                · cases ho
              · cases ho
            · cases ho
        · cases ho
      · cases ho
    · cases ho
  · cases ho
theorem iq_vp {i : Int32} {n : Nat} (h : iq_in i n) : vp_in i n := by
  intro hh
  rcases hh with h1 | h1
  · exact absurd h.1 (Int32.not_le.mpr h1)
  · exact absurd h.2 (Nat.not_lt.mpr h1)
theorem iq_x_al (C : iq_Cx G p s m args meth c R mi) {w : Nat} (hw : w = 100 ∨ w = 101 ∨ w = 102) (h100 : w = 100 → decode (iq_cc mi) pc = .ok (.iaload, 1)) (h101 : w = 101 → decode (iq_cc mi) pc = .ok (.laload, 1)) (h102 : w = 102 → decode (iq_cc mi) pc = .ok (.baload, 1)) (ho : iq_al w (iq_isL mi) (pc + 1) L S M = some o) (hc : ∀ σ, o = .inl σ → iq_W p l e R s m args below meth c Q G (iq_ml mi) c0 s0 σ)
    (hscr : ∀ i n r S', w = 100 → iq_isL mi = true → S = .int i :: .ref 0 :: S' → M.1[0]? = some (r, n) → iq_in i (n.headD 0) → iq_W p l e R s m args below meth c Q G (iq_ml mi) c0 s0 (pc + 1, L, .int (M.2.1 0 i.toNatClampNeg) :: S', M) → iq_W p l e R s m args below meth c Q G (iq_ml mi) c0 s0 (pc, L, S, M))
    (hbyt : ∀ i k t S', w = 102 → S = .int i :: .ref k :: S' → 6000 ≤ k → iq_tx (k - 6000) = some t → iq_in i t.length → iq_W p l e R s m args below meth c Q G (iq_ml mi) c0 s0 (pc + 1, L, .int (t.getD i.toNatClampNeg 0) :: S', M) → iq_W p l e R s m args below meth c Q G (iq_ml mi) c0 s0 (pc, L, S, M)) :
    iq_W p l e R s m args below meth c Q G (iq_ml mi) c0 s0 (pc, L, S, M) := by
  unfold iq_al at ho
  split at ho
  · rename_i i k S'
    split at ho
    · split at ho
      · rename_i hl
        split at ho
        · rename_i r n ns hM
          split at ho
          · rename_i hin
            cases ho
            exact hscr i _ r S' rfl hl rfl hM hin (hc _ rfl)
          · cases ho
        · cases ho
      · cases ho
    · rename_i hk0
      split at ho
      · rename_i hk5
        have hk5 := iq_blt hk5
        split at ho
        · rename_i t n ns hM
          split at ho
          · rename_i hb
            have ht := Nat.eq_of_beq_eq_true hb
            subst ht
            intro H locs ls hR hL
            have hk : 0 < k := Nat.pos_of_ne_zero hk0
            simp only [List.map_cons, iq_cv_id hk hk5]
            have he := iq_wl_get (G := G) hM hk
            split at ho
            · split at ho
              · rename_i hin
                cases ho
                exact va_lald C.1 C.2.1 C.2.2.2.2.2.2.2.2.1 hR.1 (k - 1) 1 he rfl (iq_vp hin) (h101 rfl) (hc _ rfl H locs ls hR hL)
              · cases ho
            · rename_i hne
              split at ho
              · rename_i hin
                cases ho
                rcases hw with rfl | rfl | rfl
                · exact va_iald C.1 C.2.1 C.2.2.2.2.2.2.2.2.1 hR.1 (k - 1) 0 he rfl (iq_vp hin) (h100 rfl) (hc _ rfl H locs ls hR hL)
                · exact absurd rfl hne
                · exact va_zald C.1 C.2.1 C.2.2.2.2.2.2.2.2.1 hR.1 (k - 1) 2 he rfl (iq_vp hin) (h102 rfl) (hc _ rfl H locs ls hR hL)
              · cases ho
          · cases ho
        · cases ho
      · split at ho
        · rename_i h6
          split at ho
          · rename_i t ht
            split at ho
            · rename_i hin
              cases ho
              exact hbyt i k t S' rfl rfl (Nat.le_of_ble_eq_true h6) ht hin (hc _ rfl)
            · cases ho
          · cases ho
        · cases ho
  · cases ho
theorem iq_x_as (C : iq_Cx G p s m args meth c R mi) {w : Nat} (h100 : w = 100 → decode (iq_cc mi) pc = .ok (.iastore, 1)) (h101 : w = 101 → decode (iq_cc mi) pc = .ok (.lastore, 1)) (h102 : w = 102 → decode (iq_cc mi) pc = .ok (.bastore, 1)) (ho : iq_as w (pc + 1) L S M = some o) (hc : ∀ σ, o = .inl σ → iq_W p l e R s m args below meth c Q G (iq_ml mi) c0 s0 σ) :
    iq_W p l e R s m args below meth c Q G (iq_ml mi) c0 s0 (pc, L, S, M) := by
  unfold iq_as at ho
  split at ho
  · rename_i x i k S'
    split at ho
    · rename_i t n ns hM
      split at ho
      · rename_i hb
        have ht := Nat.eq_of_beq_eq_true hb
        subst ht
        intro H locs ls hR hL
        have hkl : k < M.1.length := (List.getElem?_eq_some_iff.mp hM).1
        have hk5 : k < 5000 := Nat.lt_of_lt_of_le hkl hR.2.2.1
        have hg := iq_getD hM
        split at ho
        · split at ho
          · rename_i hin
            cases ho
            have hk : 0 < k := iq_pos hR.2.1 hM (by decide)
            simp only [List.map_cons, iq_cv_id hk hk5]
            have he := iq_wl_get (G := G) hM hk
            refine va_iast C.1 C.2.1 C.2.2.2.2.2.2.2.2.1 hR.1 (iq_wl_D G M) hR.2.2.2.2.2 (k - 1) 0 he rfl (iq_vp hin) (h100 rfl) fun H1 locs1 hP1 hD1 hS1 => ?_
            refine hc _ rfl H1 locs1 ls (iq_Rel_put (M' := (M.1, iq_upI M.2.1 k i.toNatClampNeg x, M.2.2)) hR hk rfl rfl rfl (fun j hj => iq_en_same (M := M) (M' := (M.1, iq_upI M.2.1 k i.toNatClampNeg x, M.2.2)) (iq_upI_other hj) rfl _) ?_ hP1 hS1) hL
            show iq_en G _ k (M.1.getD k (0, [])) = _
            rw [hg]
            simp [iq_en, iq_upI_self]
          · cases ho
        · split at ho
          · rename_i hin
            cases ho
            have hk : 0 < k := iq_pos hR.2.1 hM (by decide)
            simp only [List.map_cons, iq_cv_id hk hk5]
            have he := iq_wl_get (G := G) hM hk
            refine va_zast C.1 C.2.1 C.2.2.2.2.2.2.2.2.1 hR.1 (iq_wl_D G M) hR.2.2.2.2.2 (k - 1) 2 he rfl (iq_vp hin.1) (h102 rfl) fun H1 locs1 hP1 hD1 hS1 => ?_
            have hx : vp_nar .boolean x = x := by rcases hin.2 with rfl | rfl <;> rfl
            rw [hx] at hP1
            refine hc _ rfl H1 locs1 ls (iq_Rel_put (M' := (M.1, iq_upI M.2.1 k i.toNatClampNeg x, M.2.2)) hR hk rfl rfl rfl (fun j hj => iq_en_same (M := M) (M' := (M.1, iq_upI M.2.1 k i.toNatClampNeg x, M.2.2)) (iq_upI_other hj) rfl _) ?_ hP1 hS1) hL
            show iq_en G _ k (M.1.getD k (0, [])) = _
            rw [hg]
            simp [iq_en, iq_upI_self]
          · cases ho
        · cases ho
      · cases ho
    · cases ho
  · rename_i x i k S'
    split at ho
    · rename_i t n ns hM
      split at ho
      · rename_i hb
        have ht := Nat.eq_of_beq_eq_true hb
        subst ht
        intro H locs ls hR hL
        have hkl : k < M.1.length := (List.getElem?_eq_some_iff.mp hM).1
        have hk5 : k < 5000 := Nat.lt_of_lt_of_le hkl hR.2.2.1
        have hg := iq_getD hM
        split at ho
        · split at ho
          · rename_i hin
            cases ho
            have hk : 0 < k := iq_pos hR.2.1 hM (by decide)
            simp only [List.map_cons, iq_cv_id hk hk5]
            have he := iq_wl_get (G := G) hM hk
            refine va_last C.1 C.2.1 C.2.2.2.2.2.2.2.2.1 hR.1 (iq_wl_D G M) hR.2.2.2.2.2 (k - 1) 1 he rfl (iq_vp hin) (h101 rfl) fun H1 locs1 hP1 hD1 hS1 => ?_
            refine hc _ rfl H1 locs1 ls (iq_Rel_put (M' := (M.1, M.2.1, iq_upJ M.2.2.1 k i.toNatClampNeg x, M.2.2.2)) hR hk rfl rfl rfl (fun j hj => iq_en_same (M := M) (M' := (M.1, M.2.1, iq_upJ M.2.2.1 k i.toNatClampNeg x, M.2.2.2)) rfl (iq_upJ_other hj) _) ?_ hP1 hS1) hL
            show iq_en G _ k (M.1.getD k (0, [])) = _
            rw [hg]
            simp [iq_en, iq_upJ_self]
          · cases ho
        · cases ho
      · cases ho
    · cases ho
  · cases ho
set_option maxRecDepth 100000 in
theorem iq_x_len (C : iq_Cx G p s m args meth c R mi) (hd : decode (iq_cc mi) pc = .ok (.arraylength, 1)) (ho : iq_len (iq_isL mi) (pc + 1) L S M = some o) (hc : ∀ σ, o = .inl σ → iq_W p l e R s m args below meth c Q G (iq_ml mi) c0 s0 σ)
    (hscr : ∀ n r S', iq_isL mi = true → S = .ref 0 :: S' → M.1[0]? = some (r, n) → iq_W p l e R s m args below meth c Q G (iq_ml mi) c0 s0 (pc + 1, L, .int (Int32.ofNat (n.headD 0)) :: S', M) → iq_W p l e R s m args below meth c Q G (iq_ml mi) c0 s0 (pc, L, S, M))
    (hbyt : ∀ k t S', S = .ref k :: S' → 6000 ≤ k → iq_tx (k - 6000) = some t → iq_W p l e R s m args below meth c Q G (iq_ml mi) c0 s0 (pc + 1, L, .int (Int32.ofNat t.length) :: S', M) → iq_W p l e R s m args below meth c Q G (iq_ml mi) c0 s0 (pc, L, S, M)) :
    iq_W p l e R s m args below meth c Q G (iq_ml mi) c0 s0 (pc, L, S, M) := by
  unfold iq_len at ho
  split at ho
  · rename_i k S'
    split at ho
    · split at ho
      · rename_i hl
        split at ho
        · rename_i r n ns hM
          cases ho
          exact hscr _ r S' hl rfl hM (hc _ rfl)
        · cases ho
      · cases ho
    · rename_i hk0
      split at ho
      · rename_i hk5
        have hk5 := iq_blt hk5
        split at ho
        · rename_i t n ns hM
          split at ho
          · cases ho
            intro H locs ls hR hL
            have hk : 0 < k := Nat.pos_of_ne_zero hk0
            simp only [List.map_cons, iq_cv_id hk hk5]
            exact va_alen C.1 C.2.1 C.2.2.2.2.2.2.2.2.1 hR.1 (k - 1) 0 (iq_wl_get (G := G) hM hk) rfl rfl hd (hc _ rfl H locs ls hR hL)
          · cases ho
            intro H locs ls hR hL
            have hk : 0 < k := Nat.pos_of_ne_zero hk0
            simp only [List.map_cons, iq_cv_id hk hk5]
            exact va_alen C.1 C.2.1 C.2.2.2.2.2.2.2.2.1 hR.1 (k - 1) 1 (iq_wl_get (G := G) hM hk) rfl rfl hd (hc _ rfl H locs ls hR hL)
          · cases ho
            intro H locs ls hR hL
            have hk : 0 < k := Nat.pos_of_ne_zero hk0
            simp only [List.map_cons, iq_cv_id hk hk5]
            exact va_alen C.1 C.2.1 C.2.2.2.2.2.2.2.2.1 hR.1 (k - 1) 2 (iq_wl_get (G := G) hM hk) rfl rfl hd (hc _ rfl H locs ls hR hL)
          · cases ho
        · cases ho
      · split at ho
        · rename_i h6
          split at ho
          · rename_i t ht
            cases ho
            exact hbyt k t S' rfl (Nat.le_of_ble_eq_true h6) ht (hc _ rfl)
          · cases ho
        · cases ho
  · cases ho
end Mem
