/-! ===== constants, strings, statics, the ends of methods ===== -/
theorem iq_tx_lt {j : Nat} {t : List Int32} (h : iq_tx j = some t) : j < 33 := by
  rcases Nat.lt_or_ge j 33 with q | q
  · exact q
  · obtain ⟨k, rfl⟩ : ∃ k, j = k + 33 := ⟨j - 33, by omega⟩
    have : iq_tx (k + 33) = none := rfl
    rw [this] at h
    cases h
theorem iq_txs_get {j : Nat} {t : List Int32} (h : iq_tx j = some t) : iq_txs.getD j [] = t ∧ iq_lens.getD j 0 = t.length := by
  have hj := iq_tx_lt h
  have h1 : iq_txs[j]? = some t := by
    simp only [iq_txs, List.getElem?_map, List.getElem?_range hj, Option.map_some, h, Option.getD_some]
  exact ⟨by simp [List.getD, h1], by simp [List.getD, iq_lens, List.getElem?_map, h1]⟩
theorem iq_ad_byt {G : iq_G} {k : Nat} (h1 : 6000 ≤ k) : iq_ad G k = G.2.2.2.2.1 (k - 6000) := by
  have e1 : k ≠ 0 := by omega
  have e2 : ¬ k < 5000 := by omega
  have e3 : ¬ k < 6000 := by omega
  simp [iq_ad, e1, e2, e3]
section Str
variable {p : Program} {l : Launch} {e : Env} {R : Room} {s : State} {m : MethodId} {args : Array Value} {below : List Frame} {meth : Method} {c : Code} {H : Heap} {locs : List Loc} {cells slots : Nat} {Q : State → Prop} {G : iq_G} {mi c0 s0 pc : Nat} {L : iq_L} {S : List Value} {M : iq_M} {o : iq_S ⊕ (iq_R × iq_M)}
theorem iq_x_gfS (C : iq_Cx G p s m args meth c R mi) (hSt : iq_St G s s.heap) {idx : Nat} (hd : decode (iq_cc mi) pc = .ok (.getfield idx, 3)) :
    ∀ (k f ty : Nat) (S' : List Value), S = .ref k :: S' → iq_lk (iq_fds (iq_ow mi)) idx = some (20, f, ty) → 5000 ≤ k → k < 5033 → iq_W p l e R s m args below meth c Q G (iq_ml mi) c0 s0 (pc + 3, L, (if f = 0 then .ref (k + 1000) else .int 0) :: S', M) → iq_W p l e R s m args below meth c Q G (iq_ml mi) c0 s0 (pc, L, S, M) := by
  intro k f ty S' hS hlk h5 h6 K H locs ls hR hL
  subst hS
  have hmem := iq_lk_mem hlk
  have how := iq_f20 hmem
  have hown := C.2.2.2.1
  rw [how] at hown
  rw [how, iq_fdsS] at hmem
  have hk7 : k ≠ 7000 := by omega
  have e1 : iq_cv G (.ref k) = .ref (G.2.2.2.1 (k - 5000)) := by rw [← iq_ad_str h5 h6]; simp [iq_cv, hk7]
  have hb := hSt.1.1 (k - 5000) (by omega)
  simp only [List.map_cons, e1]
  simp only [List.mem_cons, Prod.mk.injEq, List.not_mem_nil, or_false] at hmem
  rcases hmem with ⟨rfl, -, rfl, rfl⟩ | ⟨rfl, -, rfl, rfl⟩
  · exact vk_getf C.1 C.2.1 hb.2.1 hR.2.2.2.2.2 hown (C.2.2.2.2.1 _ iq_w_str1) (fun x h => h) hd (by simpa [iq_cv] using K H locs ls hR hL)
  · have e2 : iq_cv G (.ref (k + 1000)) = .ref (G.2.2.2.2.1 (k - 5000)) := by
      have h7 : k + 1000 ≠ 7000 := by omega
      have h8 := iq_ad_byt (G := G) (k := k + 1000) (by omega)
      rw [show k + 1000 - 6000 = k - 5000 by omega] at h8
      rw [← h8]
      simp [iq_cv, h7]
    refine vk_getf C.1 C.2.1 hb.2.2.1 hR.2.2.2.2.2 hown (C.2.2.2.2.1 _ iq_w_str0) (fun x h => h) hd ?_
    have K2 := K H locs ls hR hL
    simp only [if_pos, List.map_cons, e2] at K2
    exact K2
theorem iq_x_alB (C : iq_Cx G p s m args meth c R mi) (hSt : iq_St G s s.heap) (hd : decode (iq_cc mi) pc = .ok (.baload, 1)) :
    ∀ (i : Int32) (k : Nat) (t : List Int32) (S' : List Value), S = .int i :: .ref k :: S' → 6000 ≤ k → iq_tx (k - 6000) = some t → iq_in i t.length → iq_W p l e R s m args below meth c Q G (iq_ml mi) c0 s0 (pc + 1, L, .int (t.getD i.toNatClampNeg 0) :: S', M) → iq_W p l e R s m args below meth c Q G (iq_ml mi) c0 s0 (pc, L, S, M) := by
  intro i k t S' hS h6 ht hin K H locs ls hR hL
  subst hS
  have hj := iq_tx_lt ht
  obtain ⟨g1, g2⟩ := iq_txs_get ht
  have hk7 : k ≠ 7000 := by omega
  have e1 : iq_cv G (.ref k) = .ref (G.2.2.2.2.1 (k - 6000)) := by rw [← iq_ad_byt h6]; simp [iq_cv, hk7]
  have hb := (hSt.1.1 (k - 6000) hj).2.2.2
  rw [g1, g2] at hb
  simp only [List.map_cons, e1]
  exact va_tb C.1 C.2.1 hb hR.2.2.2.2.2 (iq_vp hin) rfl hd (K H locs ls hR hL)
theorem iq_x_lenB (C : iq_Cx G p s m args meth c R mi) (hSt : iq_St G s s.heap) (hd : decode (iq_cc mi) pc = .ok (.arraylength, 1)) :
    ∀ (k : Nat) (t : List Int32) (S' : List Value), S = .ref k :: S' → 6000 ≤ k → iq_tx (k - 6000) = some t → iq_W p l e R s m args below meth c Q G (iq_ml mi) c0 s0 (pc + 1, L, .int (Int32.ofNat t.length) :: S', M) → iq_W p l e R s m args below meth c Q G (iq_ml mi) c0 s0 (pc, L, S, M) := by
  intro k t S' hS h6 ht K H locs ls hR hL
  subst hS
  have hj := iq_tx_lt ht
  obtain ⟨g1, g2⟩ := iq_txs_get ht
  have hk7 : k ≠ 7000 := by omega
  have e1 : iq_cv G (.ref k) = .ref (G.2.2.2.2.1 (k - 6000)) := by rw [← iq_ad_byt h6]; simp [iq_cv, hk7]
  have hb := (hSt.1.1 (k - 6000) hj).2.2.2
  rw [g1, g2] at hb
  simp only [List.map_cons, e1]
  exact va_tlen C.1 C.2.1 hb hR.2.2.2.2.2 rfl hd (K H locs ls hR hL)
/-- a text by the wide form of ldc -/
theorem iq_ldcw {cc : ByteArray} {ls : Array Slot} {rest : List Value} (hexec : p.tables.exec = Jvm.exec) (hb : c.code = cc) {own tx : String} {index q : Nat} (hown : s.vm.findClass own = some m.cls) (hZ : vk_R own index tx q s) (hdg : decode cc pc = .ok (.ldc_w index, 3))
    (k : W p l e R s m args below meth c H locs cells slots Q (F0 m (pc + 3) ls (.ref q :: rest))) : W p l e R s m args below meth c H locs cells slots Q (F0 m pc ls rest) := by
  intro T hT X
  obtain ⟨t, a1, b1⟩ := k T hT X
  refine ⟨t, ?_, b1⟩
  obtain ⟨kk, cf, i, a', hk, hcf, hcp, -, hr, hev'⟩ := Cond.stringRef_spec (args := #[]) hown hZ.1
  cases hZ.2.symm.trans hev'
  obtain ⟨k', hk', he⟩ := X.warmed.alike.2.2 _ _ hk
  have hr' : k'.resolved[index]? = some (some (.string q)) := by
    rcases X.warmed.entry hk hk' index with h | ⟨h, -⟩
    · rw [h]; exact hr
    · rw [hr] at h; cases h
  jvm_step X.here [X.here.top, hexec, hb, hdg, ldc_w.wp_string (e := e) (s := T) (f := F0 m pc ls rest) X.here.top hk' (by rw [he]; exact hcf) hcp hr']
  exact a1
theorem iq_x_ldc (C : iq_Cx G p s m args meth c R mi) (hSt : iq_St G s s.heap) {idx : Nat} {v : Value} (hd : decode (iq_cc mi) pc = .ok (.ldc idx, 2)) (hlk : iq_lk (iq_cns (iq_ow mi)) idx = some v) (K : iq_W p l e R s m args below meth c Q G (iq_ml mi) c0 s0 (pc + 2, L, v :: S, M)) : iq_W p l e R s m args below meth c Q G (iq_ml mi) c0 s0 (pc, L, S, M) := by
  intro H locs ls hR hL
  have hk := iq_cns_ok _ _ (iq_lk_mem hlk)
  have go : ∀ k : Nat, v = .ref k → 5000 ≤ k → k < 5033 → ∀ tx, (iq_ow mi, idx, tx, k - 5000) ∈ iq_srs → W p l e R s m args below meth c H locs (M.2.2.2.1 - c0) (M.2.2.2.2.1 - s0) Q (F0 m pc ls (S.map (iq_cv G))) := by
    intro k hv h5 h6 tx hm
    subst hv
    have hk7 : k ≠ 7000 := by omega
    have e1 : iq_cv G (.ref k) = .ref (G.2.2.2.1 (k - 5000)) := by rw [← iq_ad_str h5 h6]; simp [iq_cv, hk7]
    have K2 := K H locs ls hR hL
    simp only [List.map_cons, e1] at K2
    clear e1 h5 h6 hk7
    generalize k - 5000 = j at hm K2
    have hr : vk_R (iq_nm (iq_ow mi)) idx tx (G.2.2.2.1 j) s := hSt.2.1 (iq_ow mi, idx, tx, j) hm
    exact va_ldcS C.1 C.2.1 C.2.2.2.1 hr hd K2
  unfold iq_cnk at hk
  split at hk
  · rename_i x hv
    simp only at hv
    subst hv
    exact lv_ldc C.1 C.2.1 C.2.2.2.1 (C.2.2.2.2.1 _ hk) hd (K H locs ls hR hL)
  · rename_i k hv
    obtain ⟨h5, h6, tx, hm⟩ := hk
    exact go k hv h5 h6 tx hm
  · exact hk.elim
theorem iq_x_ldcw (C : iq_Cx G p s m args meth c R mi) (hSt : iq_St G s s.heap) {idx : Nat} {v : Value} (hd : decode (iq_cc mi) pc = .ok (.ldc_w idx, 3)) (hlk : iq_lk (iq_cns (iq_ow mi)) idx = some v) (K : iq_W p l e R s m args below meth c Q G (iq_ml mi) c0 s0 (pc + 3, L, v :: S, M)) : iq_W p l e R s m args below meth c Q G (iq_ml mi) c0 s0 (pc, L, S, M) := by
  intro H locs ls hR hL
  have hk := iq_cns_ok _ _ (iq_lk_mem hlk)
  have go : ∀ k : Nat, v = .ref k → 5000 ≤ k → k < 5033 → ∀ tx, (iq_ow mi, idx, tx, k - 5000) ∈ iq_srs → W p l e R s m args below meth c H locs (M.2.2.2.1 - c0) (M.2.2.2.2.1 - s0) Q (F0 m pc ls (S.map (iq_cv G))) := by
    intro k hv h5 h6 tx hm
    subst hv
    have hk7 : k ≠ 7000 := by omega
    have e1 : iq_cv G (.ref k) = .ref (G.2.2.2.1 (k - 5000)) := by rw [← iq_ad_str h5 h6]; simp [iq_cv, hk7]
    have K2 := K H locs ls hR hL
    simp only [List.map_cons, e1] at K2
    clear e1 h5 h6 hk7
    generalize k - 5000 = j at hm K2
    have hr : vk_R (iq_nm (iq_ow mi)) idx tx (G.2.2.2.1 j) s := hSt.2.1 (iq_ow mi, idx, tx, j) hm
    exact iq_ldcw C.1 C.2.1 C.2.2.2.1 hr hd K2
  unfold iq_cnk at hk
  split at hk
  · rename_i x hv
    simp only at hv
    subst hv
    exact lv_ldcw C.1 C.2.1 C.2.2.2.1 (C.2.2.2.2.1 _ hk) hd (K H locs ls hR hL)
  · rename_i k hv
    obtain ⟨h5, h6, tx, hm⟩ := hk
    exact go k hv h5 h6 tx hm
  · exact hk.elim
theorem iq_x_ldc2 (C : iq_Cx G p s m args meth c R mi) {idx : Nat} {v : Int64} (hd : decode (iq_cc mi) pc = .ok (.ldc2_w idx, 3)) (hlk : iq_lk (iq_cnl (iq_ow mi)) idx = some v) (K : iq_W p l e R s m args below meth c Q G (iq_ml mi) c0 s0 (pc + 3, L, .long v :: S, M)) : iq_W p l e R s m args below meth c Q G (iq_ml mi) c0 s0 (pc, L, S, M) :=
  fun H locs ls hR hL => lv_ldc2 C.1 C.2.1 C.2.2.2.1 (C.2.2.2.2.1 _ (iq_cnl_ok _ _ (iq_lk_mem hlk))) hd (K H locs ls hR hL)
theorem iq_x_gets (C : iq_Cx G p s m args meth c R mi) (hSt : iq_St G s s.heap) {idx : Nat} {v : Value} (hd : decode (iq_cc mi) pc = .ok (.getstatic idx, 3)) (hlk : iq_lk (iq_sts (iq_ow mi)) idx = some v) (K : iq_W p l e R s m args below meth c Q G (iq_ml mi) c0 s0 (pc + 3, L, v :: S, M)) : iq_W p l e R s m args below meth c Q G (iq_ml mi) c0 s0 (pc, L, S, M) := by
  intro H locs ls hR hL
  have hm := iq_lk_mem hlk
  have hown := C.2.2.2.1
  generalize hw : iq_ow mi = ow at hm hown
  unfold iq_sts at hm
  split at hm
  · simp only [List.mem_cons, Prod.mk.injEq, List.not_mem_nil, or_false] at hm
    rcases hm with ⟨rfl, rfl⟩ | ⟨rfl, rfl⟩
    · exact va_gets C.1 C.2.1 hSt.2.2.1 hR.2.2.2.2.2 hown (C.2.2.2.2.1 _ iq_w_COMPACT_STRINGS) (fun x h => h) hd (K H locs ls hR hL)
    · have K2 := K H locs ls hR hL
      simp only [List.map_cons, show iq_cv G (.ref 7000) = G.2.2.2.2.2 by simp [iq_cv]] at K2
      exact va_gets C.1 C.2.1 hSt.2.2.2.1 hR.2.2.2.2.2 hown (C.2.2.2.2.1 _ iq_w_SIOOBE_FORMATTER) (fun x h => h) hd K2
  · simp at hm
end Str
