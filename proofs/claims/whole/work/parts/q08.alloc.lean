/-! ===== the steps of the abstract machine: new cells, System.arraycopy, Math, Object.<init> ===== -/
section Alloc
variable {p : Program} {l : Launch} {e : Env} {R : Room} {s : State} {m : MethodId} {args : Array Value} {below : List Frame} {meth : Method} {c : Code} {H : Heap} {locs : List Loc} {cells slots : Nat} {Q : State → Prop} {G : iq_G} {mi c0 s0 pc : Nat} {L : iq_L} {S : List Value} {M : iq_M} {o : iq_S ⊕ (iq_R × iq_M)}
theorem iq_size {g : JFrame} (k : H.size ≤ s.heap.size + cells → W p l e R s m args below meth c H locs cells slots Q g) : W p l e R s m args below meth c H locs cells slots Q g :=
  fun T hT X => k (by rw [← hT]; exact X.heapSize) T hT X
/-- the heap ends behind the last cell at least -/
theorem iq_Rel_low {G : iq_G} {s : State} {c0 s0 : Nat} {M : iq_M} {H : Heap} {locs : List Loc} (hR : iq_Rel G s c0 s0 M H locs) (hb : iq_bs G ≤ s.heap.size) : iq_bs G + (M.1.length - 1) ≤ H.size := by
  have h0 : s.heap.size ≤ H.size := hR.2.2.2.2.2.1
  by_cases h2 : M.1.length ≤ 1
  · omega
  · have hl : M.1.length - 1 < M.1.length := by omega
    have h1 : M.1[M.1.length - 1]? = some M.1[M.1.length - 1] := List.getElem?_eq_getElem hl
    have := (hR.1 _ _ (iq_wl_get (G := G) h1 (by omega))).lt
    simp only at this
    omega
/-- as long as no garbage was made the heap ends just there -/
theorem iq_Rel_end {G : iq_G} {s : State} {c0 s0 : Nat} {M : iq_M} {H : Heap} {locs : List Loc} (hR : iq_Rel G s c0 s0 M H locs) (hb : iq_bs G ≤ s.heap.size) (hg : M.2.2.2.2.2 = false) (hz : H.size ≤ s.heap.size + (M.2.2.2.1 - c0)) : H.size = iq_bs G + (M.1.length - 1) := by
  have h1 := iq_Rel_low hR hb
  have h2 := hR.2.2.2.2.1 hg
  omega
theorem iq_zI_other {f : Nat → Nat → Int32} {k j : Nat} (h : j ≠ k) : iq_zI f k j = f j := by funext a; simp [iq_zI, h]
theorem iq_zJ_other {f : Nat → Nat → Int64} {k j : Nat} (h : j ≠ k) : iq_zJ f k j = f j := by funext a; simp [iq_zJ, h]
/-- the world with one cell more -/
theorem iq_Rel_app {G : iq_G} {s : State} {c0 s0 : Nat} {M M' : iq_M} {H H1 : Heap} {locs : List Loc} {en : Nat × List Nat} {n : Nat} (hR : iq_Rel G s c0 s0 M H locs) (hb : iq_bs G ≤ s.heap.size) (hM : M'.1 = M.1 ++ [en]) (hI : M'.2.1 = iq_zI M.2.1 M.1.length) (hJ : M'.2.2.1 = iq_zJ M.2.2.1 M.1.length) (hc : M'.2.2.2.1 = M.2.2.2.1 + 1) (hs : M'.2.2.2.2.1 = M.2.2.2.2.1 + n)
    (hl : M.1.length < 4999) (hg : M.2.2.2.2.2 = false) (hz : H.size = iq_bs G + (M.1.length - 1)) (hH : H1.size = H.size + 1) (hold : ∀ q, q < H.size → H1[q]? = H[q]?)
    (hnew : va_at G.1 vwCl (H.size, iq_en G M' M.1.length en) H1) : iq_Rel G s c0 s0 M' H1 locs := by
  obtain ⟨n0, h0⟩ := hR.2.1
  have h0l : 0 < M.1.length := (List.getElem?_eq_some_iff.mp h0).1
  have hw : iq_wl G M' = iq_wl G M ++ [(iq_bs G + (M.1.length - 1), iq_en G M' M.1.length en)] := by
    refine iq_wl_app hM h0l fun j hj => ?_
    rw [iq_en_same (M := M) (M' := M') (by rw [hI]; exact iq_zI_other (by omega)) (by rw [hJ]; exact iq_zJ_other (by omega)), hM]
    simp only [List.getD]
    rw [List.getElem?_append_left hj]
  refine ⟨?_, ⟨n0, by rw [hM, List.getElem?_append_left h0l]; exact h0⟩, by rw [hM]; simp; omega, ⟨by rw [hc]; have := hR.2.2.2.1.1; omega, by rw [hs]; have := hR.2.2.2.1.2; omega⟩, fun _ => ?_, ⟨by rw [hH]; have := hR.2.2.2.2.2.1; omega, fun q h1 h2 => ?_, hR.2.2.2.2.2.2.2⟩⟩
  · rw [hw, ← hz]
    intro k q hk
    by_cases hkl : k < (iq_wl G M).length
    · rw [List.getElem?_append_left hkl] at hk
      have hq := hR.1 k q hk
      exact hq.kept (hold _ hq.lt)
    · rw [List.getElem?_append_right (by omega)] at hk
      have hz1 : k - (iq_wl G M).length < 1 := (List.getElem?_eq_some_iff.mp hk).1
      rw [show k - (iq_wl G M).length = 0 by omega] at hk
      cases hk
      exact hnew
  · have h1 := hR.2.2.2.2.1 hg
    have h2 := hR.2.2.2.1.1
    rw [hc, hM]
    simp only [List.length_append, List.length_cons, List.length_nil]
    omega
  · rw [hold q (Nat.lt_of_lt_of_le h1 hR.2.2.2.2.2.1)]
    exact hR.2.2.2.2.2.2.1 q h1 h2
/-- what the tables say of the class that a 'new' makes -/
theorem iq_x_new (C : iq_Cx G p s m args meth c R mi) {idx ci : Nat} (hd : decode (iq_cc mi) pc = .ok (.new idx, 3)) (hlk : iq_lk (iq_cls (iq_ow mi)) idx = some ci) (ho : iq_new ci (pc + 3) L S M = some o) (hc : ∀ σ, o = .inl σ → iq_W p l e R s m args below meth c Q G (iq_ml mi) c0 s0 σ)
    (hcls : ∀ (CC : String) (TT : u_T) (N : Nat), vwCl[ci]? = some (CC, TT, N) → Cond.classLink (iq_nm (iq_ow mi)) idx CC ∈ iq_U ∧ Cond.instantiable CC N ∈ iq_U ∧ Cond.initialized CC ∈ iq_U) (hborn : ∀ fs, iq_born ci = some fs → ∃ (CC : String) (TT : u_T) (N : Nat) (ty : Nat → FieldType), vwCl[ci]? = some (CC, TT, N) ∧ fs.length = N ∧ (∀ k, k < N → parseFieldDescriptor (TT k).2.2.1 = some (ty k)) ∧ ∀ j, j < N → defaultValue (ty j) = vp_V (fs.map fun d => if d = 1 then Value.int 0 else if d = 2 then .long 0 else .null) j ∧ (fs.getD j 0 = 0 ∨ fs.getD j 0 = 1 ∨ fs.getD j 0 = 2))
    (hroom : ∀ σ, o = .inl σ → σ.2.2.2.2.2.2.1 ≤ c0 + R.cells ∧ σ.2.2.2.2.2.2.2.1 ≤ s0 + R.slots) : iq_W p l e R s m args below meth c Q G (iq_ml mi) c0 s0 (pc, L, S, M) := by
  unfold iq_new at ho
  split at ho
  · rename_i fs hb hg hlen
    have hlen := iq_blt hlen
    obtain ⟨CC, TT, N, ty, hcl, hN, hty, hdv⟩ := hborn fs hb
    obtain ⟨w1, w2, w3⟩ := hcls CC TT N hcl
    obtain ⟨hci11, hin, -, -⟩ := iq_cl_ok hcl
    cases ho
    obtain ⟨r1, r2⟩ := hroom _ rfl
    simp only at r1 r2
    intro H locs ls hR hL
    have hc0 := hR.2.2.2.1
    simp only at hc0 ⊢
    refine iq_size fun hz => ?_
    have hend := iq_Rel_end hR C.2.2.2.2.2.2.2.2.2.2.2.2 hg hz
    have hKn := C.2.2.2.2.2.2.2.2.1.1 ci _ hcl
    refine W.newcK C.1 C.2.1 C.2.2.2.1 (C.2.2.2.2.1 _ w1) (C.2.2.2.2.1 _ w2) (C.2.2.2.2.1 _ w3) rfl hd (by omega) (by omega) hKn.2.1 rfl fun H1 kC hkC e1 z1 o1 => ?_
    have K := hc _ rfl H1 locs ls (iq_Rel_app (en := (ci, fs)) (n := fs.length) hR C.2.2.2.2.2.2.2.2.2.2.2.2 rfl rfl rfl rfl rfl hlen hg hend z1 o1 ?_) hL
    · have h0l : 0 < M.1.length := by obtain ⟨n0, h0⟩ := hR.2.1; exact (List.getElem?_eq_some_iff.mp h0).1
      simp only [List.map_cons, iq_cv_id h0l (by omega : M.1.length < 5000)] at K
      rw [show M.2.2.2.1 + 1 - c0 = (M.2.2.2.1 - c0) + 1 by omega, show M.2.2.2.2.1 + fs.length - s0 = (M.2.2.2.2.1 - s0) + N by omega] at K
      rw [hend]
      exact K
    · rw [iq_en_obj hci11]
      refine ⟨_, hcl, (u_born ty C.2.2.2.2.1 hin hKn hkC e1 hty).to fun j hj => ?_⟩
      obtain ⟨d1, d2⟩ := hdv j hj
      rw [d1]
      have hjl : j < fs.length := by omega
      have hfj : fs[j]? = some fs[j] := List.getElem?_eq_getElem hjl
      have hgd : fs.getD j 0 = fs[j] := by simp [List.getD, hfj]
      unfold vp_V
      simp only [List.getD, List.getElem?_map, hfj, Option.map_some, Option.getD_some]
      rw [iq_fs_get hfj]
      rw [hgd] at d2
      rcases d2 with d2 | d2 | d2 <;> rw [d2] <;> simp [iq_fv, iq_zI, iq_zJ]
  · cases ho
theorem iq_n32 {n : Int32} (h : 0 ≤ n) : ¬ n < 0 := Int32.not_lt.mpr h
theorem iq_x_na (C : iq_Cx G p s m args meth c R mi) {t : ArrayType} {w : Nat} (hw : (t = .int ∧ w = 100) ∨ (t = .long ∧ w = 101) ∨ (t = .boolean ∧ w = 102)) (hd : decode (iq_cc mi) pc = .ok (.newarray t, 2)) (ho : iq_na w (pc + 2) L S M = some o) (hc : ∀ σ, o = .inl σ → iq_W p l e R s m args below meth c Q G (iq_ml mi) c0 s0 σ)
    (hroom : ∀ σ, o = .inl σ → σ.2.2.2.2.2.2.1 ≤ c0 + R.cells ∧ σ.2.2.2.2.2.2.2.1 ≤ s0 + R.slots) : iq_W p l e R s m args below meth c Q G (iq_ml mi) c0 s0 (pc, L, S, M) := by
  unfold iq_na at ho
  split at ho
  · rename_i n S' hg hlen
    have hlen := iq_blt hlen
    split at ho
    · rename_i hn
      cases ho
      obtain ⟨r1, r2⟩ := hroom _ rfl
      simp only at r1 r2
      intro H locs ls hR hL
      have hc0 := hR.2.2.2.1
      simp only at hc0 ⊢
      refine iq_size fun hz => ?_
      have hend := iq_Rel_end hR C.2.2.2.2.2.2.2.2.2.2.2.2 hg hz
      have h0l : 0 < M.1.length := by obtain ⟨n0, h0⟩ := hR.2.1; exact (List.getElem?_eq_some_iff.mp h0).1
      have hnn : n.toNatClampNeg ≤ 100000 := by
        have h1 := Int32.le_iff_toInt_le.mp hn.2
        have h2 : (100000 : Int32).toInt = 100000 := by decide
        have h3 : n.toNatClampNeg = n.toInt.toNat := rfl
        rw [h2] at h1
        rw [h3]
        generalize n.toInt = z at h1
        omega
      have go : ∀ (cA : ClassId) (H1 : Heap) (ty : FieldType), H1[H.size]? = some (arrV cA n.toNatClampNeg fun _ => defaultValue ty) → H1.size = H.size + 1 → (∀ q, q < H.size → H1[q]? = H[q]?) →
          va_at G.1 vwCl (H.size, iq_en G (M.1 ++ [(w, [n.toNatClampNeg])], iq_zI M.2.1 M.1.length, iq_zJ M.2.2.1 M.1.length, M.2.2.2.1 + 1, M.2.2.2.2.1 + n.toNatClampNeg, false) M.1.length (w, [n.toNatClampNeg])) H1 →
          W p l e R s m args below meth c H1 locs (M.2.2.2.1 - c0 + 1) (M.2.2.2.2.1 - s0 + n.toNatClampNeg) Q (F0 m (pc + 2) ls (.ref H.size :: S'.map (iq_cv G))) := by
        intro cA H1 ty e1 z1 o1 hat
        have K := hc _ rfl H1 locs ls (iq_Rel_app (en := (w, [n.toNatClampNeg])) (n := n.toNatClampNeg) hR C.2.2.2.2.2.2.2.2.2.2.2.2 rfl rfl rfl rfl rfl hlen hg hend z1 o1 hat) hL
        simp only [List.map_cons, iq_cv_id h0l (by omega : M.1.length < 5000)] at K
        rw [show M.2.2.2.1 + 1 - c0 = (M.2.2.2.1 - c0) + 1 by omega, show M.2.2.2.2.1 + n.toNatClampNeg - s0 = (M.2.2.2.2.1 - s0) + n.toNatClampNeg by omega] at K
        rw [hend]
        exact K
      have hFc := C.2.2.2.2.2.2.2.2.2.2.1.2
      rcases hw with ⟨rfl, rfl⟩ | ⟨rfl, rfl⟩ | ⟨rfl, rfl⟩
      · refine va_newaK (atype := .int) C.1 C.2.1 (C.2.2.2.2.1 _ iq_w_arI) rfl hd rfl (iq_n32 hn.1) rfl (by show _ * 4 ≤ _; omega) (by omega) (by omega) rfl fun H1 cA e1 z1 o1 hAr hNm => ?_
        have hcA : cA = G.2.1.1 := Option.some.inj (hNm.symm.trans (hFc (G.2.1.1, .int) (by simp [iq_tys])))
        subst hcA
        refine go _ H1 .int e1 z1 o1 ?_
        show H1[H.size]? = _
        rw [e1]
        have ez : iq_zI M.2.1 M.1.length M.1.length = fun _ => 0 := by funext j; simp [iq_zI]
        dsimp only
        rw [ez]
        rfl
      · refine va_newaK (atype := .long) C.1 C.2.1 (C.2.2.2.2.1 _ iq_w_arJ) rfl hd rfl (iq_n32 hn.1) rfl (by show _ * 8 ≤ _; omega) (by omega) (by omega) rfl fun H1 cA e1 z1 o1 hAr hNm => ?_
        have hcA : cA = G.2.1.2.1 := Option.some.inj (hNm.symm.trans (hFc (G.2.1.2.1, .long) (by simp [iq_tys])))
        subst hcA
        refine go _ H1 .long e1 z1 o1 ?_
        show H1[H.size]? = _
        rw [e1]
        have ez : iq_zJ M.2.2.1 M.1.length M.1.length = fun _ => 0 := by funext j; simp [iq_zJ]
        dsimp only
        rw [ez]
        rfl
      · refine va_newaK (atype := .boolean) C.1 C.2.1 (C.2.2.2.2.1 _ iq_w_arZ) rfl hd rfl (iq_n32 hn.1) rfl (by show _ * 1 ≤ _; omega) (by omega) (by omega) rfl fun H1 cA e1 z1 o1 hAr hNm => ?_
        have hcA : cA = G.2.1.2.2 := Option.some.inj (hNm.symm.trans (hFc (G.2.1.2.2, .boolean) (by simp [iq_tys])))
        subst hcA
        refine go _ H1 .boolean e1 z1 o1 ?_
        show H1[H.size]? = _
        rw [e1]
        have ez : iq_zI M.2.1 M.1.length M.1.length = fun _ => 0 := by funext j; simp [iq_zI]
        dsimp only
        rw [ez]
        rfl
    · cases ho
  · cases ho
theorem iq_sum_le {G : iq_G} (hG : G.2.2.2.2.2.category = 1) : ∀ (S : List Value), ((S.map (iq_cv G)).map fun v => v.category).sum ≤ 2 * S.length
  | [] => by simp
  | v :: S => by
    have h1 := iq_sum_le hG S
    have h2 : (iq_cv G v).category ≤ 2 := by rcases lv_cat (iq_cv G v) with h | h <;> omega
    simp only [List.map_cons, List.sum_cons, List.length_cons]
    omega
theorem iq_cpI_other {f : Nat → Nat → Int32} {a b sp dp n j : Nat} (h : j ≠ b) : iq_cpI f a b sp dp n j = f j := by simp [iq_cpI, h]
theorem iq_cpI_self {f : Nat → Nat → Int32} {a b sp dp n : Nat} : iq_cpI f a b sp dp n b = va_cpy (f a) (f b) sp dp n := by simp [iq_cpI]
theorem iq_cpJ_other {f : Nat → Nat → Int64} {a b sp dp n j : Nat} (h : j ≠ b) : iq_cpJ f a b sp dp n j = f j := by simp [iq_cpJ, h]
theorem iq_cpJ_self {f : Nat → Nat → Int64} {a b sp dp n : Nat} : iq_cpJ f a b sp dp n b = va_cpy (f a) (f b) sp dp n := by simp [iq_cpJ]
theorem iq_x_cp (C : iq_Cx G p s m args meth c R mi) {idx : Nat} (hw : Cond.methodLink (iq_nm (iq_ow mi)) idx arraycopyName ∈ iq_U) (hd : decode (iq_cc mi) pc = .ok (.invokestatic idx, 3)) (hl4 : (S.drop 5).length ≤ 4) (ho : iq_cp (pc + 3) L S M = some o) (hc : ∀ σ, o = .inl σ → iq_W p l e R s m args below meth c Q G (iq_ml mi) c0 s0 σ) :
    iq_W p l e R s m args below meth c Q G (iq_ml mi) c0 s0 (pc, L, S, M) := by
  have hG := C.2.2.2.2.2.2.2.2.2.1
  have hfr := C.2.2.2.2.2.2.2.2.2.2.1.1
  have hlo := C.2.2.2.2.2.2.2.2.2.2.2.1
  unfold iq_cp at ho
  split at ho
  · rename_i n dp b sp a S'
    have hS4 : S'.length ≤ 4 := by simpa using hl4
    have hsum := iq_sum_le hG S'
    have hnw : nativeFrameWords "java/lang/System" "arraycopy" 5 = 7 := by decide +kernel
    split at ho
    · rename_i ta na nas tb nb nbs hA hB
      split at ho
      · split at ho
        · rename_i hq
          cases ho
          intro H locs ls hR hL
          have ha : 0 < a := iq_pos hR.2.1 hA (by decide)
          have hb : 0 < b := iq_pos hR.2.1 hB (by decide)
          have ha5 : a < 5000 := Nat.lt_of_lt_of_le (List.getElem?_eq_some_iff.mp hA).1 hR.2.2.1
          have hb5 : b < 5000 := Nat.lt_of_lt_of_le (List.getElem?_eq_some_iff.mp hB).1 hR.2.2.1
          simp only [List.map_cons, iq_cv_id ha ha5, iq_cv_id hb hb5]
          refine va_copyi C.1 C.2.1 (by rw [C.2.2.1]; exact hL.2.1.symm) C.2.2.2.1 (C.2.2.2.2.1 _ hw) (C.2.2.2.2.1 _ iq_w_acN) (C.2.2.2.2.1 _ iq_w_acS) (C.2.2.2.2.1 _ iq_w_sys) C.2.2.2.2.2.2.2.2.1 hR.1 (iq_wl_D G M) hR.2.2.2.2.2 (a - 1) (b - 1) 0 0 (ty := .int) (iq_wl_get (G := G) hA ha) (iq_wl_get (G := G) hB hb) rfl rfl rfl (iq_n32 hq.1) (iq_n32 hq.2.1) (iq_n32 hq.2.2.1) hq.2.2.2.1 hq.2.2.2.2 (fun _ _ => rfl) (by omega) (by rw [hnw]; omega) hd fun H1 locs1 hP1 hD1 hS1 => ?_
          refine hc _ rfl H1 locs1 ls (iq_Rel_put (M' := (M.1, iq_cpI M.2.1 a b sp.toNatClampNeg dp.toNatClampNeg n.toNatClampNeg, M.2.2)) hR hb rfl rfl rfl (fun j hj => iq_en_same (M := M) (M' := (M.1, iq_cpI M.2.1 a b sp.toNatClampNeg dp.toNatClampNeg n.toNatClampNeg, M.2.2)) (iq_cpI_other hj) rfl _) ?_ hP1 hS1) hL
          show iq_en G _ b (M.1.getD b (0, [])) = _
          rw [iq_getD hB]
          simp [iq_en, iq_cpI_self]
        · cases ho
      · split at ho
        · rename_i hq
          cases ho
          intro H locs ls hR hL
          have ha : 0 < a := iq_pos hR.2.1 hA (by decide)
          have hb : 0 < b := iq_pos hR.2.1 hB (by decide)
          have ha5 : a < 5000 := Nat.lt_of_lt_of_le (List.getElem?_eq_some_iff.mp hA).1 hR.2.2.1
          have hb5 : b < 5000 := Nat.lt_of_lt_of_le (List.getElem?_eq_some_iff.mp hB).1 hR.2.2.1
          simp only [List.map_cons, iq_cv_id ha ha5, iq_cv_id hb hb5]
          refine va_copyl C.1 C.2.1 (by rw [C.2.2.1]; exact hL.2.1.symm) C.2.2.2.1 (C.2.2.2.2.1 _ hw) (C.2.2.2.2.1 _ iq_w_acN) (C.2.2.2.2.1 _ iq_w_acS) (C.2.2.2.2.1 _ iq_w_sys) C.2.2.2.2.2.2.2.2.1 hR.1 (iq_wl_D G M) hR.2.2.2.2.2 (a - 1) (b - 1) 1 1 (ty := .long) (iq_wl_get (G := G) hA ha) (iq_wl_get (G := G) hB hb) rfl rfl rfl (iq_n32 hq.1) (iq_n32 hq.2.1) (iq_n32 hq.2.2.1) hq.2.2.2.1 hq.2.2.2.2 (fun _ _ => rfl) (by omega) (by rw [hnw]; omega) hd fun H1 locs1 hP1 hD1 hS1 => ?_
          refine hc _ rfl H1 locs1 ls (iq_Rel_put (M' := (M.1, M.2.1, iq_cpJ M.2.2.1 a b sp.toNatClampNeg dp.toNatClampNeg n.toNatClampNeg, M.2.2.2)) hR hb rfl rfl rfl (fun j hj => iq_en_same (M := M) (M' := (M.1, M.2.1, iq_cpJ M.2.2.1 a b sp.toNatClampNeg dp.toNatClampNeg n.toNatClampNeg, M.2.2.2)) rfl (iq_cpJ_other hj) _) ?_ hP1 hS1) hL
          show iq_en G _ b (M.1.getD b (0, [])) = _
          rw [iq_getD hB]
          simp [iq_en, iq_cpJ_self]
        · cases ho
      · cases ho
    · cases ho
  · cases ho
end Alloc
