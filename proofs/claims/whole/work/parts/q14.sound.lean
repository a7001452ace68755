/-! ===== every instruction ===== -/
section Sound
variable {p : Program} {l : Launch} {e : Env} {R : Room} {s : State} {m : MethodId} {args : Array Value} {below : List Frame} {meth : Method} {c : Code} {Q : State → Prop} {G : iq_G} {mi c0 s0 pc : Nat} {L : iq_L} {S : List Value} {M : iq_M} {o : iq_S ⊕ (iq_R × iq_M)}
theorem iq_x_iinc (C : iq_Cx G p s m args meth c R mi) {i : Nat} {n : Int} {x : Int32} (hd : decode (iq_cc mi) pc = .ok (.iinc i n, 3)) (hx : iq_get L i = some (.int x)) (hi : i < L.length) (K : iq_W p l e R s m args below meth c Q G (iq_ml mi) c0 s0 (pc + 3, iq_st1 L i (.int (x + Int32.ofInt n)), S, M)) : iq_W p l e R s m args below meth c Q G (iq_ml mi) c0 s0 (pc, L, S, M) := by
  intro H locs ls hR hL
  have h1 : L[i]? = some (some (.int x)) := by
    unfold iq_get at hx
    split at hx
    · rename_i w hw; rw [hw]; cases hx; rfl
    · cases hx
  have hm : (i, Value.int x) ∈ iq_ps G 0 L := iq_ps_mem.mpr ⟨i, .int x, h1, by simp [iq_cv]⟩
  obtain ⟨k, hk⟩ := List.getElem?_of_mem hm
  have hil : i < iq_ml mi := by rw [← hL.1]; exact hi
  exact lv_iinc C.1 C.2.1 hd hL.2 hk rfl hil rfl fun ls' h' => K H locs ls' hR (iq_LR_st1 (v := .int (x + Int32.ofInt n)) hL hil h' C.2.2.2.2.2.2.2.2.2.1)
theorem iq_x_call (C : iq_Cx G p s m args meth c R mi) (hSt : iq_St G s s.heap) (hdec : ∀ e ∈ iq_tab mi, decode (iq_cc mi) e.1 = .ok e.2) (htab : c.exceptionTable.toList = tableOf (iq_hh mi)) (hct : ∀ e ∈ iq_cls (iq_ow mi), e.1 ≠ 0) {d : Nat} {K : iq_K} (hK : iq_KOK l G d K) (hKk : ∀ (cal : Nat) (as : List Value) (M : iq_M) (r : iq_R) (M' : iq_M), (∃ n, M.1[0]? = some (103, [n])) → K cal as M = some (r, M') → ∀ k, r = .inr k → k < 2) (hRd : 20 + d + 1 ≤ R.frames ∧ 300 + 40 * (d + 1) ≤ R.locals)
    (hnest : ∀ own idx' y, Cond.methodLinkNest own idx' y "OpenSaying" ∈ lw_tbl → Cond.methodLinkNest own idx' y "OpenSaying" ∈ iq_V)
    {w idx : Nat} (hd0 : w = 0 → decode (iq_cc mi) pc = .ok (.invokevirtual idx, 3)) (hd1 : w = 1 → decode (iq_cc mi) pc = .ok (.invokestatic idx, 3)) (hd2 : w = 2 → decode (iq_cc mi) pc = .ok (.invokespecial idx, 3))
    (ho : iq_call K (iq_tab mi) (iq_ow mi) (iq_hh mi) w idx pc L S M = some o) (hc : ∀ σ, o = .inl σ → iq_W p l e R s m args below meth c Q G (iq_ml mi) c0 s0 σ) (hE : ∀ r M', o = .inr (r, M') → iq_End p l e R s m args below meth c Q G mi c0 s0 r M')
    (hroom : ∀ σ, o = .inl σ → σ.2.2.2.2.2.2.1 ≤ c0 + R.cells ∧ σ.2.2.2.2.2.2.2.1 ≤ s0 + R.slots) (hroomR : ∀ r M', o = .inr (r, M') → M'.2.2.2.1 ≤ c0 + R.cells ∧ M'.2.2.2.2.1 ≤ s0 + R.slots) :
    iq_W p l e R s m args below meth c Q G (iq_ml mi) c0 s0 (pc, L, S, M) := by
  have hG := C.2.2.2.2.2.2.2.2.2.1
  have hfr := C.2.2.2.2.2.2.2.2.2.2.1.1
  have hlo := C.2.2.2.2.2.2.2.2.2.2.2.1
  have hbk : ∀ {rest : List Value} {r : iq_R} {M' : iq_M}, iq_bk (iq_tab mi) (iq_ow mi) (iq_hh mi) pc L rest (some (r, M')) = some o → M'.2.2.2.1 ≤ c0 + R.cells ∧ M'.2.2.2.2.1 ≤ s0 + R.slots := by
    intro rest r M' h
    unfold iq_bk at h
    split at h
    · rename_i hq; cases hq
    · rename_i hq; cases hq; cases h; exact hroom _ rfl
    · rename_i hq; cases hq; cases h; exact hroom _ rfl
    · rename_i hq
      cases hq
      split at h
      · split at h
        · cases h; exact hroomR _ _ rfl
        · cases h
      · split at h
        · split at h
          · cases h; exact hroom _ rfl
          · cases h
        · split at h
          · cases h; exact hroom _ rfl
          · cases h
        · cases h
  unfold iq_call at ho
  split at ho
  · rename_i cal n kd hlk
    split at ho
    · split at ho
      · rename_i hrv h4 hh
        cases hres : K cal ((S.take (n + 1)).reverse) M with
        | none => rw [hres] at ho; simp [iq_bk] at ho
        | some rM =>
          obtain ⟨r, M'⟩ := rM
          rw [hres] at ho
          intro H locs ls hR hL
          refine iq_size fun hz => ?_
          have hrun := iq_runV (l := l) (e := e) (below := below) C hSt hK hRd hlk (hd0 rfl) hh hrv (Nat.le_of_ble_eq_true h4) hres hR hL hz (hbk ho)
          exact iq_x_bk C hSt hdec htab hct (hKk _ _ _ _ _ hR.2.1 hres) hrun hR hL (hK _ _ _ _ _ (by have := iq_mds_ok _ _ (iq_lk_mem hlk); exact this.1) hR.2.1 hres).2 ho hc hE
      · cases ho
    · split at ho
      · rename_i hn h4
        cases hres : K cal ((S.take n).reverse) M with
        | none => rw [hres] at ho; simp [iq_bk] at ho
        | some rM =>
          obtain ⟨r, M'⟩ := rM
          rw [hres] at ho
          intro H locs ls hR hL
          refine iq_size fun hz => ?_
          have hrun := iq_runS (l := l) (e := e) (below := below) C hSt hK hRd hlk (hd1 rfl) (Nat.le_of_ble_eq_true hn) (Nat.le_of_ble_eq_true h4) hres hR hL hz (hbk ho)
          exact iq_x_bk C hSt hdec htab hct (hKk _ _ _ _ _ hR.2.1 hres) hrun hR hL (hK _ _ _ _ _ (by have := iq_mds_ok _ _ (iq_lk_mem hlk); exact this.1) hR.2.1 hres).2 ho hc hE
      · cases ho
    · split at ho
      · rename_i hrv h4
        split at ho
        · rename_i M' hres
          cases ho
          intro H locs ls hR hL
          refine iq_size fun hz => ?_
          have hrun := iq_runI (l := l) (e := e) (below := below) C hSt hK hRd hlk (hd2 rfl) hrv (Nat.le_of_ble_eq_true h4) hres hR hL hz (hroom _ rfl) hnest
          exact iq_x_bk (o := .inl (pc + 3, L, S.drop (n + 1), M')) C hSt hdec htab hct (fun k hk => by cases hk) hrun hR hL (hK _ _ _ _ _ (by have := iq_mds_ok _ _ (iq_lk_mem hlk); exact this.1) hR.2.1 hres).2 rfl hc hE
        · cases ho
      · cases ho
    · have hw3 : Cond.methodLink (iq_nm (iq_ow mi)) idx arraycopyName ∈ iq_U := iq_mds_ok _ _ (iq_lk_mem hlk)
      split at ho
      · rename_i h4
        exact iq_x_cp C hw3 (hd1 rfl) (Nat.le_of_ble_eq_true h4) ho hc
      · cases ho
    · have hw4 : Cond.methodLink (iq_nm (iq_ow mi)) idx objectInit ∈ iq_U := iq_mds_ok _ _ (iq_lk_mem hlk)
      split at ho
      · rename_i k S'
        split at ho
        · rename_i h4 h7
          have h4 := Nat.le_of_ble_eq_true h4
          cases ho
          intro H locs ls hR hL
          have hne : k ≠ 7000 := Nat.ne_of_beq_eq_false h7
          have e1 : iq_cv G (.ref k) = .ref (iq_ad G k) := by simp [iq_cv, hne]
          have hsum := iq_sum_le hG S'
          simp only [List.map_cons, e1]
          exact W.objInit C.1 C.2.1 C.2.2.2.1 (C.2.2.2.2.1 _ hw4) (C.2.2.2.2.1 _ iq_w_objI) (C.2.2.2.2.1 _ iq_w_objC) (g := F0 m pc ls (.ref (iq_ad G k) :: S'.map (iq_cv G))) rfl (by rw [C.2.2.1]; exact hL.2.1) rfl (hd2 rfl) (by omega) (by show 2 * 0 + _ + 12 ≤ _; omega) (hc _ rfl H locs ls hR hL)
        · cases ho
      · cases ho
    · have hw7 : Cond.methodLink (iq_nm (iq_ow mi)) idx Lib.Math.max.name ∈ iq_U := iq_mds_ok _ _ (iq_lk_mem hlk)
      split at ho
      · rename_i y x S'
        split at ho
        · rename_i h4
          have h4 := Nat.le_of_ble_eq_true h4
          cases ho
          intro H locs ls hR hL
          have hsum := iq_sum_le hG S'
          have hq1 : M.2.2.2.1 - c0 ≤ R.cells := by have := (hroom _ rfl).1; simp only at this; omega
          have hq2 : M.2.2.2.2.1 - s0 ≤ R.slots := by have := (hroom _ rfl).2; simp only at this; omega
          exact va_mmax C.1 C.2.1 (by rw [C.2.2.1]; exact hL.2.1.symm) C.2.2.2.1 (C.2.2.2.2.1 _ hw7) (C.2.2.2.2.1 _ iq_w_maxS) (C.2.2.2.2.1 _ iq_w_math) (C.2.2.2.2.1 _ iq_w_maxC) (by omega) (by omega) hq1 hq2 (hd1 rfl) (hc _ rfl H locs ls hR hL)
        · cases ho
      · cases ho
    · have hw8 : Cond.methodLink (iq_nm (iq_ow mi)) idx Lib.Math.min.name ∈ iq_U := iq_mds_ok _ _ (iq_lk_mem hlk)
      split at ho
      · rename_i y x S'
        split at ho
        · rename_i h4
          have h4 := Nat.le_of_ble_eq_true h4
          cases ho
          intro H locs ls hR hL
          have hsum := iq_sum_le hG S'
          have hq1 : M.2.2.2.1 - c0 ≤ R.cells := by have := (hroom _ rfl).1; simp only at this; omega
          have hq2 : M.2.2.2.2.1 - s0 ≤ R.slots := by have := (hroom _ rfl).2; simp only at this; omega
          exact va_mmin C.1 C.2.1 (by rw [C.2.2.1]; exact hL.2.1.symm) C.2.2.2.1 (C.2.2.2.2.1 _ hw8) (C.2.2.2.2.1 _ iq_w_minS) (C.2.2.2.2.1 _ iq_w_math) (C.2.2.2.2.1 _ iq_w_minC) (by omega) (by omega) hq1 hq2 (hd1 rfl) (hc _ rfl H locs ls hR hL)
        · cases ho
      · cases ho
    · cases ho
  · cases ho
end Sound
