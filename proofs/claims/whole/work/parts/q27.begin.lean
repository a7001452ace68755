/-! ===== the law's run as a run of the abstract machine ===== -/
def iq_M0 (L : Nat) (xs : Nat → Int32) : iq_M := ([(103, [L])], fun k i => if k = 0 then xs i else 0, fun _ _ => 0, 0, 0, false)
theorem iq_arr {s : State} {args : Array Value} {ty : FieldType} (hp : ∀ C, ty ≠ .object C) (h : (Cond.arrayClass ty).before args s = true) : ∃ c : ClassId, s.vm.findClass ("[" ++ ty.toString) = some c ∧ ArrOfT s c ty ∧ va_RA s c ty := by
  obtain ⟨c, k, comp, h1, h2, h3⟩ := Cond.arrayClass_spec h
  refine ⟨c, h1, fun n z => ⟨fun k h => (by cases h), k, h2, comp, h3⟩, ?_⟩
  cases ty with
  | object C => exact absurd rfl (hp C)
  | _ => exact h1
theorem iq_start {p : Program} {e : Env} {s : State} {m : MethodId} {below : List Frame} {meth : Method} {c : Code} {l : Launch} (hl : l.stackTraces = false) {b L : Nat} {xs : Nat → Int32} (C0 : lw_At p s m meth c b L xs) (htab : c.exceptionTable.toList = [])
    {d n : Nat} (hd : d ≤ 2000) {M' : iq_M} (hrun : iq_run (iq_ev d n) 357 n (0, iq_ent 357 [.ref 0], [], iq_M0 L xs) = some (.inl (some (.int 1)), M')) (hmc : M'.2.2.2.1 ≤ 601024) (hms : M'.2.2.2.2.1 ≤ 7293034) :
    W p l e room_1 s m #[Value.ref b] below meth c s.heap [] 0 0 (lw_Z below #[Value.ref b] s) (entryFrame m ([Value.ref b] : List Value).toArray 8) := by
  obtain ⟨hx, hb, hr, hml, hown, hts, hX, hbl, hlocks, hgv⟩ := id C0
  have hA : ∀ a : Nat, a < s.heap.size → ¬ (fun q : Nat => s.heap.size ≤ q) a := fun a h => Nat.not_le.mpr h
  have hU : ∀ w ∈ iq_U, w.before #[Value.ref b] s = true := fun w hw => hts w (List.mem_filter.mp hw).1
  have hnr : ∀ w ∈ iq_nrw, w.before #[Value.ref b] s = true := fun w hw => flat_of_before _ hgv w (iq_nrw_in w hw)
  have hst : ∀ w ∈ iq_stw, w.before #[Value.ref b] s = true := fun w hw => hts w (iq_stw_in w hw)
  -- classes
  have kn : ∀ k : Nat, ∃ q : ClassId × (Nat → Nat), ∀ r : vw_C, vwCl[k]? = some r → u_Kn s r.1 r.2.1 r.2.2 q.1 q.2 := by
    intro k
    cases hk : vwCl[k]? with
    | none => exact ⟨(0, fun _ => 0), fun r h => by cases h⟩
    | some r =>
      obtain ⟨-, hin, -⟩ := iq_cl_ok (C := r.1) (T := r.2.1) (N := r.2.2) hk
      obtain ⟨cC, iS, hh⟩ := u_known (C := r.1) (T := r.2.1) (N := r.2.2) (n := r.2.2) hU hin (hts _ (iq_inst r (List.mem_of_getElem? hk)))
      exact ⟨(cC, iS), fun r' h => by cases h; exact hh⟩
  obtain ⟨D, hD⟩ := Classical.axiomOfChoice kn
  obtain ⟨cI, fI, aI⟩ := iq_arr (ty := .int) (fun C h => by cases h) (hU _ iq_w_arI)
  obtain ⟨cJ, fJ, aJ⟩ := iq_arr (ty := .long) (fun C h => by cases h) (hU _ iq_w_arJ)
  obtain ⟨cZ, fZ, aZ⟩ := iq_arr (ty := .boolean) (fun C h => by cases h) (hU _ iq_w_arZ)
  obtain ⟨adK, adV, hS, hev⟩ := iq_S1 hgv hA
  -- the formatter
  obtain ⟨fm, hfm, hcat⟩ : ∃ fm : Value, (Term.static "jdk/internal/util/Preconditions" "SIOOBE_FORMATTER" "Ljava/util/function/BiFunction;").eval #[Value.ref b] s none [] s = some fm ∧ fm.category = 1 := by
    have h := hnr (.isRef (.static "jdk/internal/util/Preconditions" "SIOOBE_FORMATTER" "Ljava/util/function/BiFunction;")) (by simp [iq_nrw])
    cases hv : (Term.static "jdk/internal/util/Preconditions" "SIOOBE_FORMATTER" "Ljava/util/function/BiFunction;").eval #[Value.ref b] s none [] s with
    | none => simp [Cond.before, Cond.holds, Cond.value, hv] at h
    | some v =>
      refine ⟨v, rfl, ?_⟩
      cases v with
      | null => rfl
      | ref t => rfl
      | _ => simp [Cond.before, Cond.holds, Cond.value, hv] at h
  obtain ⟨G, hGdef⟩ : ∃ G : iq_G, G = ((fun k => (D k).1, fun k => (D k).2), (cI, cJ, cZ), (b, s.heap.size), adK, adV, fm) := ⟨_, rfl⟩
  have hbs : iq_bs G = s.heap.size := by rw [hGdef]
  have hAG : iq_A G = fun q : Nat => s.heap.size ≤ q := by rw [hGdef]
  have had0 : iq_ad G 0 = b := by rw [hGdef]; rfl
  have htys : iq_tys G = [(cI, .int), (cJ, .long), (cZ, .boolean)] := by rw [hGdef]; rfl
  have hcatG : G.2.2.2.2.2.category = 1 := by rw [hGdef]; exact hcat
  have hK : va_K G.1 vwCl (iq_tys G) s := by
    rw [htys]
    refine ⟨fun k q hq => by rw [hGdef]; exact hD k q hq, fun k q hq => ?_⟩
    match k, hq with
    | 0, hq => cases hq; exact aI
    | 1, hq => cases hq; exact aJ
    | 2, hq => cases hq; exact aZ
    | k + 3, hq => simp at hq
  have hFc : iq_Fc G s := by
    intro q hq
    rw [htys] at hq
    simp only [List.mem_cons, List.not_mem_nil, or_false] at hq
    rcases hq with rfl | rfl | rfl
    · exact fI
    · exact fJ
    · exact fZ
  have hStt : iq_St G s s.heap := by
    unfold iq_St
    rw [hAG]
    refine ⟨by rw [hGdef]; exact hS, fun q hq => ?_, ?_, ?_, ?_, ?_, ?_, fun w hw => ?_⟩
    · obtain ⟨h1, h2⟩ := iq_srs_at q hq
      have h3 := hev _ h1
      rw [h2] at h3
      rw [hGdef]
      have h4 : (Cond.stringRef (iq_nm q.1) q.2.1 q.2.2.1).before #[Value.ref b] s = true := hts _ (iq_srw_in _ (List.mem_map.mpr ⟨q, hq, rfl⟩))
      exact vk_R.of h4 h3
    · exact va_Zof (hst _ (by simp [iq_stw])) (hst _ (by simp [iq_stw])) (va_eqt (hnr _ (by simp [iq_nrw]))) hA
    · rw [hGdef]
      exact va_Zof (hst _ (by simp [iq_stw])) (hst _ (by simp [iq_stw])) hfm hA
    · exact vx_Zqof (hst _ (by simp [iq_stw])) (hst _ (by simp [iq_stw])) (hnr _ (by simp [iq_nrw])) hA
    · exact vx_Zqof (hst _ (by simp [iq_stw])) (hst _ (by simp [iq_stw])) (hnr _ (by simp [iq_nrw])) hA
    · exact va_Nc.of (hnr _ (by simp [iq_nrw]))
    · exact va_Nw.of (iq_V_on w hw) (hts w (iq_V_in w hw))
  have C : iq_Cx G p s m #[Value.ref b] meth c room_1 357 := ⟨hx, hb, hml, hown, hU, hlocks, hr, (fun h => by cases h), hK, hcatG, ⟨by decide, hFc⟩, by decide, by rw [hbs]; exact Nat.le_refl _⟩
  have hTH := iq_th_ok hl G
  have hKOK := iq_ev_ok (l := l) hcatG hTH iq_hdecA iq_hct iq_hnest d n
  have hKm := iq_k_ev d n
  have hE : iq_End p l e room_1 s m #[Value.ref b] below meth c (lw_Z below #[Value.ref b] s) G 357 0 0 (.inl (some (.int 1))) M' := by
    refine ⟨fun v hv H locs ls pc hR hrok => ?_, fun k hk => by cases hk⟩
    cases hv
    have hd0 : decode code pc = .ok (.ireturn, 1) := hrok.1
    refine va_forget (fun q hq => ?_) ?_
    · have := hR.2.2.2.2.2.2.2 q hq
      rw [hAG] at this
      exact this
    · exact W.widen (k := 601024) (n := 7293034) (by omega) (by omega) (lw_ret hx hb hr hlocks hd0)
  have h0 : (iq_M0 L xs).1[0]? = some (103, [L]) := rfl
  have hXs : iq_isL 357 = true → va_X (iq_ad G 0) L xs s s.heap := fun _ => by rw [had0]; exact hX
  have hW := iq_runW (xs := xs) (c0 := 0) (s0 := 0) (Q := lw_Z below #[Value.ref b] s) (e := e) (below := below) C hStt iq_d357 (by rw [htab]; rfl) (iq_hct _) rfl hKOK hKm ⟨by show 20 + d + 1 ≤ 2048; omega, by show 300 + 40 * (d + 1) ≤ 84000; omega⟩ iq_hnest hTH
    (fun hl => ⟨L, hXs hl, by rw [had0]; exact hbl, by rw [had0, hAG]; exact Nat.not_le.mpr hbl⟩) (fun cal as M r M' h0 hk => (hKm cal as M r M' h0 hk).2) n _ _ M' hrun ⟨L, h0, hXs⟩ (fun _ => rfl) hE (by show M'.2.2.2.1 ≤ 0 + 601024; omega) (by show M'.2.2.2.2.1 ≤ 0 + 7293034; omega)
  have hRel : iq_Rel G s 0 0 (iq_M0 L xs) s.heap [] := ⟨fun k q hq => by simp [iq_wl, iq_M0] at hq, ⟨L, rfl⟩, by show (1 : Nat) ≤ 5000; omega, ⟨Nat.le_refl _, Nat.le_refl _⟩, fun _ => by rw [hbs]; rfl, va_S.rf⟩
  have W0 := hW s.heap [] _ hRel (iq_entry hcatG (mi := 357) (as := [.ref 0]) (by decide))
  have e1 : ([Value.ref 0].map (iq_cv G)) = [Value.ref b] := by
    show [iq_cv G (.ref 0)] = _
    rw [show iq_cv G (.ref 0) = .ref (iq_ad G 0) by simp [iq_cv], had0]
  rw [lg_entry_eq]
  rw [e1] at W0
  exact W0
