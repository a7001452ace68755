/-! ===== the throw, as the abstract machine has it ===== -/
theorem iq_fitN : Bundle.fit "java/util/NoSuchElementException" = true := by decide +kernel
theorem iq_fitI : Bundle.fit "java/lang/IllegalArgumentException" = true := by decide +kernel
theorem iq_ow0_ot : ∀ w ∈ iq_ow0, vx_ot w = true := by decide +kernel
theorem iq_ow1_ot : ∀ w ∈ iq_ow1, vx_ot w = true := by decide +kernel
theorem iq_V_on : ∀ w ∈ iq_V, w.onTables = true := by decide +kernel
theorem iq_wl_ks {G : iq_G} {a : List (Nat × List Nat)} {b : Nat → Nat → Int32} {c : Nat → Nat → Int64} {x y : Nat × Nat × Bool} : iq_wl G (a, b, c, x) = iq_wl G (a, b, c, y) := by
  unfold iq_wl
  refine List.map_congr_left fun j _ => ?_
  exact congrArg (Prod.mk _) (iq_en_same (M' := (a, b, c, x)) (M := (a, b, c, y)) rfl rfl _)
theorem iq_th_ok {l : Launch} (hl : l.stackTraces = false) (G : iq_G) : iq_TH l G := by
  intro p e R s m args below meth c mi c0 s0 pc idx kd M M' H locs ls C hSt hdec htab hd hkd hcl hth hR hsz hrc hrs
  have hM' := iq_th_inr hth
  simp only [Sum.inr.injEq, Prod.mk.injEq, true_and] at hM'
  subst hM'
  have hUw : ∀ w ∈ iq_U, w.before args s = true := C.2.2.2.2.1
  have hVw : ∀ w ∈ iq_V, w.before args s = true := fun w hw => va_Nw.use (iq_V_on w hw) (hSt.2.2.2.2.2.2.2 w hw)
  have hx : ∀ t : State, s.vm.Alike t.vm → H.size ≤ t.heap.size → (∀ q : Nat, q < H.size → t.heap[q]? = H[q]?) → iq_XC G (.inr kd) (M.1, M.2.1, M.2.2.1, M.2.2.2.1 + 1, M.2.2.2.2.1 + 6, true) (iq_xn kd) s t := by
    intro t _ h1 h2
    refine ⟨⟨kd, rfl, rfl, ?_⟩, ?_⟩
    · rw [show iq_wl G (M.1, M.2.1, M.2.2.1, M.2.2.2.1 + 1, M.2.2.2.2.1 + 6, true) = iq_wl G M from iq_wl_ks]
      exact va_P.kept (ws := iq_wl G M) hR.1 fun k q hq => h2 _ (hR.1 k q hq).lt
    · refine ⟨Nat.le_trans hR.2.2.2.2.2.1 h1, fun q hq hA => ?_⟩
      rw [h2 q (Nat.lt_of_lt_of_le hq hR.2.2.2.2.2.1)]
      exact hR.2.2.2.2.2.2.1 q hq hA
  have hcs : c0 ≤ M.2.2.2.1 ∧ s0 ≤ M.2.2.2.2.1 := hR.2.2.2.1
  have hfr := C.2.2.2.2.2.2.2.2.2.2.1.1
  have hlo := C.2.2.2.2.2.2.2.2.2.2.2.1
  have hout : ∀ q : Nat, ∀ x ∈ c.exceptionTable.toList, covers x q = false := fun q x hx => by rw [htab] at hx; cases hx
  have hlink : (Cond.classLink (iq_nm (iq_ow mi)) idx (iq_xn kd)).before args s = true := by
    have hk2 : kd = 0 ∨ kd = 1 := by omega
    rcases iq_cls_ok _ _ (iq_lk_mem hcl) with ⟨h1, h2⟩ | ⟨h1, h2⟩ | ⟨CC, TT, N, h1, -⟩
    · simp only at h1
      have : kd = 0 := by omega
      subst this
      exact hUw _ h2
    · simp only at h1
      have : kd = 1 := by omega
      subst this
      exact hUw _ h2
    · have := (iq_cl_ok h1).1
      simp only at this
      omega
  have hini : (Cond.initialized (iq_xn kd)).before args s = true := by
    have hk2 : kd = 0 ∨ kd = 1 := by omega
    rcases hk2 with rfl | rfl
    · exact hUw _ iq_w_iniN
    · exact hUw _ iq_w_iniI
  have str : ∀ is sj, iq_lk (iq_cns (iq_ow mi)) is = some (.ref sj) → ∃ tx j, vk_R (iq_nm (iq_ow mi)) is tx (G.2.2.2.1 j) s := by
    intro is sj h
    have hk := iq_cns_ok _ _ (iq_lk_mem h)
    unfold iq_cnk at hk
    obtain ⟨h5, h6, tx, hm⟩ := hk
    generalize sj - 5000 = j at hm
    exact ⟨tx, j, hSt.2.1 (iq_ow mi, is, tx, j) hm⟩
  have hown := C.2.2.2.1
  have fin : ∀ ic a b, iq_lk (iq_mds (iq_ow mi)) ic = some (a, b, 6) → iq_xk ic = kd → iq_ow mi = 9 ∧ ((kd = 0 ∧ ic = 157) ∨ (kd = 1 ∧ ic = 86)) := by
    intro ic a b h hk
    obtain ⟨h1, h2⟩ := iq_m6 (iq_lk_mem h)
    refine ⟨h1, ?_⟩
    rcases h2 with rfl | rfl
    · left
      exact ⟨hk.symm, rfl⟩
    · right
      exact ⟨hk.symm, rfl⟩
  have hat0 : ∀ w ∈ (iq_own "OpenSaying" 157 "java/util/NoSuchElementException" 13 iq_b13).filter vx_no, w.before args s = true ∧ vx_ot w = true := fun w hw => ⟨(iq_ow0_in w hw).elim (hUw w) (hVw w), iq_ow0_ot w hw⟩
  have hat1 : ∀ w ∈ (iq_own "OpenSaying" 86 "java/lang/IllegalArgumentException" 7 iq_b7).filter vx_no, w.before args s = true ∧ vx_ot w = true := fun w hw => ⟨(iq_ow1_in w hw).elim (hUw w) (hVw w), iq_ow1_ot w hw⟩
  simp only at hrc hrs
  unfold iq_th at hth
  split at hth
  · rename_i hdup
    have d3 := hdec _ (iq_at_mem hdup)
    split at hth
    · rename_i is hl4
      have d4 := hdec _ (iq_at_mem hl4)
      split at hth
      · rename_i ic sj hi6 ha9 hcn
        have d6 := hdec _ (iq_at_mem hi6)
        have d9 := hdec _ (iq_at_mem ha9)
        obtain ⟨tx, j, hstr⟩ := str is sj hcn
        split at hth
        · rename_i a b hmd
          split at hth
          · rename_i hb1 hb2
            obtain ⟨h9, hh⟩ := fin ic a b hmd (Nat.eq_of_beq_eq_true hb1)
            rw [h9] at hlink hown hstr
            rcases hh with ⟨rfl, rfl⟩ | ⟨rfl, rfl⟩
            · exact iq_throwS C.1 C.2.1 hl (own := "OpenSaying") (cls := "java/util/NoSuchElementException") hown iq_fitN (by decide +kernel) (by decide +kernel) (by decide +kernel) (by decide +kernel) hlink rfl hini rfl hstr hat0 hSt.2.2.2.2.1 hSt.2.2.2.2.2.1 hR.2.2.2.2.2 hsz hd d3 d4 d6 d9 (hout _) (by omega) (by omega) (by omega) (by omega) C.2.2.2.2.2.1 hx hR.2.2.2.2.2.2.2 (by simp only; omega) (by simp only; omega)
            · exact iq_throwS C.1 C.2.1 hl (own := "OpenSaying") (cls := "java/lang/IllegalArgumentException") hown iq_fitI (by decide +kernel) (by decide +kernel) (by decide +kernel) (by decide +kernel) hlink rfl hini rfl hstr hat1 hSt.2.2.2.2.1 hSt.2.2.2.2.2.1 hR.2.2.2.2.2 hsz hd d3 d4 d6 d9 (hout _) (by omega) (by omega) (by omega) (by omega) C.2.2.2.2.2.1 hx hR.2.2.2.2.2.2.2 (by simp only; omega) (by simp only; omega)
          · cases hth
        · cases hth
      · cases hth
    · rename_i is hl4
      have d4 := hdec _ (iq_at_mem hl4)
      split at hth
      · rename_i ic sj hi6 ha9 hcn
        have d6 := hdec _ (iq_at_mem hi6)
        have d9 := hdec _ (iq_at_mem ha9)
        obtain ⟨tx, j, hstr⟩ := str is sj hcn
        split at hth
        · rename_i a b hmd
          split at hth
          · rename_i hb1 hb2
            obtain ⟨h9, hh⟩ := fin ic a b hmd (Nat.eq_of_beq_eq_true hb1)
            rw [h9] at hlink hown hstr
            rcases hh with ⟨rfl, rfl⟩ | ⟨rfl, rfl⟩
            · exact iq_throwW C.1 C.2.1 hl (own := "OpenSaying") (cls := "java/util/NoSuchElementException") hown iq_fitN (by decide +kernel) (by decide +kernel) (by decide +kernel) (by decide +kernel) hlink rfl hini rfl hstr hat0 hSt.2.2.2.2.1 hSt.2.2.2.2.2.1 hR.2.2.2.2.2 hsz hd d3 d4 d6 d9 (hout _) (by omega) (by omega) (by omega) (by omega) C.2.2.2.2.2.1 hx hR.2.2.2.2.2.2.2 (by simp only; omega) (by simp only; omega)
            · exact iq_throwW C.1 C.2.1 hl (own := "OpenSaying") (cls := "java/lang/IllegalArgumentException") hown iq_fitI (by decide +kernel) (by decide +kernel) (by decide +kernel) (by decide +kernel) hlink rfl hini rfl hstr hat1 hSt.2.2.2.2.1 hSt.2.2.2.2.2.1 hR.2.2.2.2.2 hsz hd d3 d4 d6 d9 (hout _) (by omega) (by omega) (by omega) (by omega) C.2.2.2.2.2.1 hx hR.2.2.2.2.2.2.2 (by simp only; omega) (by simp only; omega)
          · cases hth
        · cases hth
      · cases hth
    · cases hth
  · cases hth
