/-! ===== the contract of a call of the abstract machine; a call is a call of the machine ===== -/
def iq_xn (k : Nat) : String := if k = 0 then "java/util/NoSuchElementException" else "java/lang/IllegalArgumentException"
/-- what the method's words are: its own code first -/
def iq_ws (mi : Nat) : List Cond := iq_cdw mi :: iq_U
def iq_rm (d : Nat) (M M' : iq_M) : Room := { frames := 20 + d, cells := M'.2.2.2.1 - M.2.2.2.1, slots := M'.2.2.2.2.1 - M.2.2.2.2.1, locals := 300 + 40 * d }
/-- texts of the constants, by their number -/
def iq_txs : List (List Int32) := (List.range 33).map fun j => (iq_tx j).getD []
def iq_lens : List Nat := iq_txs.map List.length
/-- the tables' words that ride beside the others -/
def iq_V : List Cond := [.castable "java/util/NoSuchElementException" "java/util/NoSuchElementException", .castable "java/lang/IllegalArgumentException" "java/lang/IllegalArgumentException", .methodLinkNest "OpenSaying$Museum" 23 ⟨"OpenSaying$Rules", "<init>", "()V"⟩ "OpenSaying", .methodLinkNest "OpenSaying" 25 ⟨"OpenSaying$Gallery", "<init>", "()V"⟩ "OpenSaying", .methodLinkNest "OpenSaying$Gallery" 20 ⟨"OpenSaying$Acts", "<init>", "()V"⟩ "OpenSaying", .declares ⟨"java/lang/RuntimeException", "<init>", "(Ljava/lang/String;)V"⟩, .declares ⟨"java/lang/Exception", "<init>", "(Ljava/lang/String;)V"⟩, .declares ⟨"java/lang/Throwable", "<init>", "(Ljava/lang/String;)V"⟩]
/-- what stands below the base and never changes: constants, statics, words -/
def iq_St (G : iq_G) (U : State) (H : Heap) : Prop :=
  vk_S 33 iq_lens iq_txs G.2.2.2.1 G.2.2.2.2.1 (iq_A G) U H ∧ (∀ q ∈ iq_srs, vk_R (iq_nm q.1) q.2.1 q.2.2.1 (G.2.2.2.1 q.2.2.2) U) ∧
  va_Z "java/lang/String" "COMPACT_STRINGS" "Z" (.int 1) (iq_A G) U H ∧ va_Z "jdk/internal/util/Preconditions" "SIOOBE_FORMATTER" "Ljava/util/function/BiFunction;" G.2.2.2.2.2 (iq_A G) U H ∧
  vx_Zq Bundle.tN "UNASSIGNED_STACK" Bundle.steD (iq_A G) U H ∧ vx_Zq Bundle.tN "SUPPRESSED_SENTINEL" Bundle.listD (iq_A G) U H ∧ va_Nc "java/lang/IllegalArgumentException" "java/util/NoSuchElementException" U ∧ ∀ w ∈ iq_V, va_Nw w U
def iq_Pre (G : iq_G) (M : iq_M) (U : State) : Prop :=
  va_P G.1 vwCl (iq_wl G M) U.heap ∧ (∃ n, M.1[0]? = some (103, [n])) ∧ M.1.length ≤ 5000 ∧ (M.2.2.2.2.2 = false → U.heap.size = iq_bs G + (M.1.length - 1)) ∧ iq_bs G ≤ U.heap.size ∧ va_K G.1 vwCl (iq_tys G) U ∧ iq_Fc G U ∧ iq_St G U U.heap
def iq_Pc (G : iq_G) (as : List Value) (M : iq_M) : Array Value → State → Prop := va_Pc (as.map (iq_cv G)) (iq_Pre G M)
def iq_Qc (G : iq_G) (r : iq_R) (M' : iq_M) : Array Value → State → Outcome → State → Prop := fun _ st o t => (∃ v, r = .inl v ∧ o = .returned (v.map (iq_cv G)) ∧ va_P G.1 vwCl (iq_wl G M') t.heap) ∧ va_F (iq_A G) st t
def iq_XC (G : iq_G) (r : iq_R) (M' : iq_M) : String → State → State → Prop := fun E st t => (∃ k, r = .inr k ∧ E = iq_xn k ∧ va_P G.1 vwCl (iq_wl G M') t.heap) ∧ va_F (iq_A G) st t
def iq_CM (l : Launch) (G : iq_G) (d mi : Nat) (as : List Value) (M : iq_M) (r : iq_R) (M' : iq_M) : Prop :=
  vx_Met l (iq_y mi) (iq_ws mi) (iq_rm d M M') (iq_Pc G as M) (iq_Qc G r M') (iq_XC G r M') (M'.2.2.2.1 - M.2.2.2.1) (M'.2.2.2.2.1 - M.2.2.2.2.1) (iq_A G)
/-- what a run leaves of the numbers beside the world -/
def iq_mono (M M' : iq_M) : Prop := M.2.2.2.1 ≤ M'.2.2.2.1 ∧ M.2.2.2.2.1 ≤ M'.2.2.2.2.1 ∧ M'.1[0]? = M.1[0]? ∧ (M.1.length ≤ 5000 → M'.1.length ≤ 5000) ∧ (M'.2.2.2.2.2 = false → M.2.2.2.2.2 = false ∧ M'.2.2.2.1 + M.1.length = M.2.2.2.1 + M'.1.length) ∧ M'.2.1 0 = M.2.1 0
theorem iq_mono_rf (M : iq_M) : iq_mono M M := ⟨Nat.le_refl _, Nat.le_refl _, rfl, id, fun h => ⟨h, rfl⟩, rfl⟩
theorem iq_mono_tr {A B D : iq_M} (h1 : iq_mono A B) (h2 : iq_mono B D) : iq_mono A D := by
  obtain ⟨a1, a2, a3, a4, a5, a6⟩ := h1
  obtain ⟨b1, b2, b3, b4, b5, b6⟩ := h2
  refine ⟨Nat.le_trans a1 b1, Nat.le_trans a2 b2, b3.trans a3, fun h => b4 (a4 h), fun h => ?_, b6.trans a6⟩
  obtain ⟨c1, c2⟩ := b5 h
  obtain ⟨d1, d2⟩ := a5 c1
  exact ⟨d1, by omega⟩
/-- callees that keep their contracts -/
def iq_KOK (l : Launch) (G : iq_G) (d : Nat) (K : iq_K) : Prop := ∀ (cal : Nat) (as : List Value) (M : iq_M) (r : iq_R) (M' : iq_M), cal < 357 → (∃ n, M.1[0]? = some (103, [n])) → K cal as M = some (r, M') → iq_CM l G d cal as M r M' ∧ iq_mono M M'
theorem iq_blind (G : iq_G) (as : List Value) (M : iq_M) : FrameBlind (iq_Pc G as M) := by
  intro a U g mk h
  obtain ⟨h0, h1, h2, h3, h4, h5, h6, h7, h8⟩ := h
  refine ⟨h0, h1, h2, h3, h4, h5, va_K.moved (u := U) (U := U.calling g mk a) (Vm.Alike.refl U.vm) h6, h7, ?_⟩
  obtain ⟨s1, s2, s3, s4, s5, s6, sN, s7⟩ := h8
  exact ⟨vk_S.moved (u := U) (U := U.calling g mk a) (Vm.Alike.refl U.vm) s1, fun q hq => vk_R.same (u := U) (U := U.calling g mk a) rfl (s2 q hq), s3.moved (U := U.calling g mk a) (Vm.Alike.refl U.vm), s4.moved (U := U.calling g mk a) (Vm.Alike.refl U.vm), s5.moved (U := U.calling g mk a) (Vm.Alike.refl U.vm), s6.moved (U := U.calling g mk a) (Vm.Alike.refl U.vm), sN, fun w hw => va_Nw.same (by revert w; decide) (u := U) (U := U.calling g mk a) rfl (s7 w hw)⟩
/-- it rides from the method's start to a callee's start -/
theorem iq_St_ride {G : iq_G} {s U : State} {H : Heap} {locs : List Loc} (h : iq_St G s s.heap) (hW : s.WarmedH U.vm) (hU : U.heap = H) (hS : va_S (iq_A G) s.heap H locs) : iq_St G U U.heap := by
  obtain ⟨s1, s2, s3, s4, s5, s6, sN, s7⟩ := h
  have hk : ∀ a : Nat, a < s.heap.size → ¬ iq_A G a → U.heap[a]? = s.heap[a]? := fun a h1 h2 => by rw [hU]; exact hS.2.1 a h1 h2
  refine ⟨vk_S.moved hW.alike (s1.kept hk), fun q hq => vk_R.warm hW (s2 q hq), va_Z.moved hW.alike (s3.kept hk), va_Z.moved hW.alike (s4.kept hk), vx_Zq.moved hW.alike (s5.kept hk), vx_Zq.moved hW.alike (s6.kept hk), va_Nc.moved hW.alike sN, ?_⟩
  intro w hw
  have h7 := s7 w hw
  simp only [iq_V, List.mem_cons, List.not_mem_nil, or_false] at hw
  rcases hw with rfl | rfl | rfl | rfl | rfl | rfl | rfl | rfl
  · exact va_tabs rfl (rfl : (s.setVm U.vm).vm = U.vm) (Cond.before_shiftedCast (State.Shifted.of_warmed hW) _ rfl h7)
  · exact va_tabs rfl (rfl : (s.setVm U.vm).vm = U.vm) (Cond.before_shiftedCast (State.Shifted.of_warmed hW) _ rfl h7)
  · exact va_Nw.warmM hW h7
  · exact va_Nw.warmM hW h7
  · exact va_Nw.warmM hW h7
  · exact va_Nw.warmD hW h7
  · exact va_Nw.warmD hW h7
  · exact va_Nw.warmD hW h7
theorem iq_goodU : ∀ w ∈ iq_U, w ∈ iq_U ∧ ((w.onTables && w.keeps) = true ∨ ∃ ty, w = .arrayClass ty) := fun w h => ⟨h, good_of_word (List.mem_filter.mp h).2⟩
section Calls9
variable {p : Program} {l : Launch} {e : Env} {R : Room} {s : State} {m : MethodId} {args : Array Value} {below : List Frame} {meth : Method} {c : Code} {H : Heap} {locs : List Loc} {cells slots : Nat} {Q : State → Prop} {G : iq_G} {mi c0 s0 pc : Nat} {L : iq_L} {S : List Value} {M : iq_M} {o : iq_S ⊕ (iq_R × iq_M)}
/-- behind the call -/
theorem iq_go {mc ms : Nat} {ls : Array Slot} {st0 rest : List Value} {a : Array Value} {r : iq_R} {M' : iq_M} (hr : vx_Run p l e R s m args below meth c H locs cells slots mc ms (F0 m pc ls st0) rest (iq_Qc G r M' a) (iq_XC G r M') (iq_A G)) (hS : va_S (iq_A G) s.heap H locs)
    (kk : ∀ v, r = .inl v → ∀ (H1 : Heap) (locs1 : List Loc), va_P G.1 vwCl (iq_wl G M') H1 → va_S (iq_A G) s.heap H1 locs1 → W p l e R s m args below meth c H1 locs1 (cells + mc) (slots + ms) Q (F0 m (pc + 3) ls ((v.map (iq_cv G)).toList ++ rest)))
    (kx : ∀ k, r = .inr k → ∀ (H1 : Heap) (locs1 : List Loc) (q : Addr) (ce : Cell), va_P G.1 vwCl (iq_wl G M') H1 → va_S (iq_A G) s.heap H1 locs1 → H1[q]? = some ce → ce.vm = .none → s.vm.findClass (iq_xn k) = some ce.cls → vx_W p l e R s m args below meth c H1 locs1 (cells + mc) (slots + ms) Q (F0 m pc ls rest) q) :
    W p l e R s m args below meth c H locs cells slots Q (F0 m pc ls st0) := by
  intro T hT X
  rcases hr T hT X with ⟨v, st₀, t, T', L, h0, X', hL, e1, e2, ⟨⟨v', hv, hov, hP⟩, hF⟩, st⟩ | ⟨q, st₀, t, T', L, E, ce, h0, X', hL, e1, e2, ⟨⟨k, hk, hE, hP⟩, hF⟩, hce, hcv, hcl, st⟩
  · have hvv : v = v'.map (iq_cv G) := by injection hov
    subst hvv
    obtain ⟨k1, k2, k3⟩ := vx_keep h0 e1 hS (fun _ _ h => h) (fun _ h => h) hL hF
    obtain ⟨t2, a1, b1⟩ := kk v' hv T'.heap (locs ++ L) (by rw [e1]; exact hP) k3 T' rfl X'
    exact ⟨t2, st t2 a1, b1⟩
  · subst hE
    obtain ⟨k1, k2, k3⟩ := vx_keep h0 e1 hS (fun _ _ h => h) (fun _ h => h) hL hF
    obtain ⟨t2, a1, b1⟩ := kx k hk T'.heap (locs ++ L) q ce (by rw [e1]; exact hP) k3 (by rw [e1]; exact hce) hcv hcl T' rfl X'
    exact ⟨t2, st.trans a1, b1⟩
/-- the world behind a call -/
theorem iq_Rel_call {M' : iq_M} {H1 : Heap} {locs1 : List Loc} (hR : iq_Rel G s c0 s0 M H locs) (hm : iq_mono M M') (hP : va_P G.1 vwCl (iq_wl G M') H1) (hS : va_S (iq_A G) s.heap H1 locs1) : iq_Rel G s c0 s0 M' H1 locs1 := by
  obtain ⟨m1, m2, m3, m4, m5, m6⟩ := hm
  obtain ⟨r1, r2, r3, r4, r5, r6⟩ := hR
  refine ⟨hP, by rw [m3]; exact r2, m4 r3, ⟨Nat.le_trans r4.1 m1, Nat.le_trans r4.2 m2⟩, fun hg => ?_, hS⟩
  obtain ⟨g1, g2⟩ := m5 hg
  have h1 := r5 g1
  have h2 := r4.1
  obtain ⟨n0, h0⟩ := r2
  have h3 : 0 < M.1.length := (List.getElem?_eq_some_iff.mp h0).1
  have h4 : 0 < M'.1.length := by rw [h0] at m3; exact (List.getElem?_eq_some_iff.mp m3).1
  omega
/-- what a callee finds at its start -/
theorem iq_Pre_call (C : iq_Cx G p s m args meth c R mi) (hSt : iq_St G s s.heap) (hR : iq_Rel G s c0 s0 M H locs) (hz : H.size ≤ s.heap.size + (M.2.2.2.1 - c0)) {U : State} (hU : U.heap = H) (hW : s.WarmedH U.vm) : iq_Pre G M U := by
  refine ⟨by rw [hU]; exact hR.1, hR.2.1, hR.2.2.1, fun hg => by rw [hU]; exact iq_Rel_end hR C.2.2.2.2.2.2.2.2.2.2.2.2 hg hz, ?_, va_K.moved hW.alike C.2.2.2.2.2.2.2.2.1, fun q hq => ?_, iq_St_ride hSt hW hU hR.2.2.2.2.2⟩
  · rw [hU]
    exact Nat.le_trans C.2.2.2.2.2.2.2.2.2.2.2.2 hR.2.2.2.2.2.1
  · rw [hW.alike.findClass]
    exact C.2.2.2.2.2.2.2.2.2.2.1.2 q hq
theorem iq_take {S : List Value} {n : Nat} {k : Nat} {t : List Value} (h : S.drop n = .ref k :: t) : S = S.take n ++ .ref k :: t ∧ S.drop (n + 1) = t ∧ (S.take (n + 1)).reverse = .ref k :: (S.take n).reverse := by
  have hl : n < S.length := by
    rcases Nat.lt_or_ge n S.length with q | q
    · exact q
    · rw [List.drop_eq_nil_of_le q] at h; cases h
  have h1 : S = S.take n ++ .ref k :: t := by rw [← h]; exact (List.take_append_drop n S).symm
  have hlt : (S.take n).length = n := by simp; omega
  refine ⟨h1, ?_, ?_⟩
  · have := congrArg (List.drop 1) h
    rw [List.drop_drop] at this
    simpa using this
  · have h3 : S[n]? = some (.ref k) := by
      have h4 : (S.drop n)[0]? = some (.ref k) := by rw [h]; rfl
      rw [List.getElem?_drop] at h4
      simpa using h4
    have h2 : S.take (n + 1) = S.take n ++ [.ref k] := by
      rw [List.take_succ, h3]
      rfl
    rw [h2]
    simp
theorem iq_rv_obj {M : iq_M} {ci : Nat} {V : List Value} (hci : ci ≠ 14) (h : iq_rv M ci V = true) : ∃ (k : Nat) (t : List Value) (fs : List Nat), V = .ref k :: t ∧ 0 < k ∧ M.1[k]? = some (ci, fs) ∧ ci < 11 := by
  unfold iq_rv at h
  split at h
  · rename_i k t
    split at h
    · exact absurd rfl hci
    · split at h
      · rename_i t' fs h1 h2 h3
        have ht := Nat.eq_of_beq_eq_true h
        subst ht
        exact ⟨k, t, fs, rfl, Nat.pos_of_ne_zero (Nat.ne_of_beq_eq_false h1), h2, iq_blt h3⟩
      · cases h
  · cases h
theorem iq_rv_str {M : iq_M} {V : List Value} (h : iq_rv M 14 V = true) : ∃ (k : Nat) (t : List Value), V = .ref k :: t ∧ 5000 ≤ k ∧ k < 5033 := by
  unfold iq_rv at h
  split at h
  · rename_i k t
    simp only [Bool.and_eq_true] at h
    exact ⟨k, t, rfl, Nat.le_of_ble_eq_true h.1, iq_blt h.2⟩
  · cases h
theorem iq_cl_ex {ci : Nat} (h : ci < 11) : ∃ (CC : String) (TT : u_T) (N : Nat), vwCl[ci]? = some (CC, TT, N) := by
  have hl : ci < vwCl.length := h
  exact ⟨_, _, _, List.getElem?_eq_getElem hl⟩
theorem iq_ad_str {G : iq_G} {k : Nat} (h1 : 5000 ≤ k) (h2 : k < 5033) : iq_ad G k = G.2.2.2.1 (k - 5000) := by
  have e1 : k ≠ 0 := by omega
  have e2 : ¬ k < 5000 := by omega
  have e3 : k < 6000 := by omega
  simp [iq_ad, e1, e2, e3]
/-- what a call needs of the machine, a virtual one -/
theorem iq_runV (C : iq_Cx G p s m args meth c R mi) (hSt : iq_St G s s.heap) {d idx cal n : Nat} {K : iq_K} {r : iq_R} {M' : iq_M} {ls : Array Slot} (hK : iq_KOK l G d K) (hRd : 20 + d + 1 ≤ R.frames ∧ 300 + 40 * (d + 1) ≤ R.locals) (hlk : iq_lk (iq_mds (iq_ow mi)) idx = some (cal, n, 0)) (hd : decode (iq_cc mi) pc = .ok (.invokevirtual idx, 3))
    (hh : iq_hh cal = []) (hrv : iq_rv M (iq_ow cal) ((S.drop n).take 1) = true) (h4 : (S.drop (n + 1)).length ≤ 4) (hres : K cal ((S.take (n + 1)).reverse) M = some (r, M')) (hR : iq_Rel G s c0 s0 M H locs) (hL : iq_LR G ls (iq_ml mi) L) (hz : H.size ≤ s.heap.size + (M.2.2.2.1 - c0))
    (hroom : M'.2.2.2.1 ≤ c0 + R.cells ∧ M'.2.2.2.2.1 ≤ s0 + R.slots) :
    vx_Run p l e R s m args below meth c H locs (M.2.2.2.1 - c0) (M.2.2.2.2.1 - s0) (M'.2.2.2.1 - M.2.2.2.1) (M'.2.2.2.2.1 - M.2.2.2.2.1) (F0 m pc ls (S.map (iq_cv G))) ((S.drop (n + 1)).map (iq_cv G)) (iq_Qc G r M' (((S.take (n + 1)).reverse).map (iq_cv G)).toArray) (iq_XC G r M') (iq_A G) := by
  have hok := iq_mds_ok _ _ (iq_lk_mem hlk)
  simp only [iq_mok] at hok
  obtain ⟨hcal, w1, w2, w3, w4⟩ := hok
  obtain ⟨k1, k2, k3, k4, k5, k6, k7, k8, k9⟩ := iq_c_ok cal hcal
  obtain ⟨hM, hmono⟩ := hK cal _ M r M' hcal hR.2.1 hres
  have hcd : iq_cdw cal = .code (iq_y cal) (iq_cc cal) (iq_ml cal) (iq_rty cal) := by unfold iq_cdw; rw [hh]
  rw [hcd] at k7
  have hm1 := hmono.1
  have hm2 := hmono.2.1
  have hc0 := hR.2.2.2.1
  have hcw : CallW R s args (iq_nm (iq_ow mi)) (iq_nm (iq_ow cal)) idx (iq_y cal) (iq_cc cal) (iq_ml cal) (iq_rty cal) (iq_ws cal) (iq_rm d M M') (M'.2.2.2.1 - M.2.2.2.1) (M'.2.2.2.2.1 - M.2.2.2.2.1) n := by
    refine cwV (ws' := iq_U) n C.2.2.2.2.1 ?_ (by unfold iq_ws; rw [hcd]) rfl rfl ⟨k1, k3.1, k3.2, w4⟩ ⟨by show 20 + d + 1 ≤ _; exact hRd.1, by show 8 + (iq_ml cal + 11) + (300 + 40 * d) ≤ _; omega⟩
    intro w hw
    simp only [wsV, iq_ws, hcd, List.mem_append, List.mem_cons, List.not_mem_nil, or_false] at hw
    rcases hw with (rfl | rfl | rfl | rfl) | (rfl | hw)
    · exact iq_goodU _ w1
    · exact iq_goodU _ w2
    · exact iq_goodU _ w3
    · exact iq_goodU _ k6
    · exact iq_goodU _ k7
    · exact iq_goodU _ hw
  have hsum := iq_sum_le C.2.2.2.2.2.2.2.2.2.1 (S.drop (n + 1))
  obtain ⟨b, rest', hdr, hcell⟩ : ∃ (b : Nat) (t : List Value), S.drop n = .ref b :: t ∧ b ≠ 7000 ∧ ∃ cellB : Cell, H[iq_ad G b]? = some cellB ∧ cellB.vm.isStatics = false ∧ s.vm.findClass (iq_nm (iq_ow cal)) = some cellB.cls := by
    by_cases hs14 : iq_ow cal = 14
    · rw [hs14] at hrv ⊢
      obtain ⟨b, t, hb, hb1, hb2⟩ := iq_rv_str hrv
      refine ⟨b, (S.drop n).drop 1, ?_, Nat.ne_of_lt (Nat.lt_trans hb2 (by decide)), ?_⟩
      · cases hS : S.drop n with
        | nil => rw [hS] at hb; cases hb
        | cons x y => rw [hS] at hb; simp at hb; rw [hb.1]; rfl
      · rw [iq_ad_str hb1 hb2]
        exact vk_recv (i := b - 5000) hSt.1 (by have : (b : Nat) < 5033 := hb2; omega) hR.2.2.2.2.2
    · obtain ⟨b, t, fs, hb, hb0, hMb, hc11⟩ := iq_rv_obj hs14 hrv
      have hb5 : b < 5000 := Nat.lt_of_lt_of_le (List.getElem?_eq_some_iff.mp hMb).1 hR.2.2.1
      refine ⟨b, (S.drop n).drop 1, ?_, Nat.ne_of_lt (Nat.lt_trans hb5 (by decide)), ?_⟩
      · cases hS : S.drop n with
        | nil => rw [hS] at hb; cases hb
        | cons x y => rw [hS] at hb; simp at hb; rw [hb.1]; rfl
      · obtain ⟨CC, TT, N, hcl⟩ := iq_cl_ex hc11
        obtain ⟨-, -, hdc, -⟩ := iq_cl_ok hcl
        have he := iq_wl_get (G := G) hMb hb0
        rw [iq_en_obj hc11] at he
        have hrc := va_recv C.2.2.2.2.2.2.2.2.1 hR.1 hcl he
        have had : iq_ad G b = iq_bs G + (b - 1) := by
          have e1 := iq_cv_id (G := G) hb0 hb5
          have e2 : iq_cv G (.ref b) = .ref (iq_ad G b) := by simp [iq_cv, Nat.ne_of_lt (Nat.lt_trans hb5 (by decide : 5000 < 7000))]
          rw [e2] at e1
          injection e1
        rw [had, ← hdc.1]
        exact hrc
  obtain ⟨hb7, hcell⟩ := hcell
  obtain ⟨t1, t2, t3⟩ := iq_take hdr
  have hcvb : iq_cv G (.ref b) = .ref (iq_ad G b) := by simp [iq_cv, hb7]
  rw [t2] at h4 hsum ⊢
  have key := vx_runV (g := F0 m pc ls (S.map (iq_cv G))) (As := ((S.take n).reverse).map (iq_cv G)) (b := iq_ad G b) (rest := rest'.map (iq_cv G)) (l := l) (e := e) (below := below) (meth := meth) (locs := locs) (cells := M.2.2.2.1 - c0) (slots := M.2.2.2.2.1 - s0) (p := p) (m := m) (c := c) (cc := iq_cc mi) (nL := iq_ml mi) (Ts := iq_U) (H := H) ⟨C.1, C.2.1, C.2.2.1, C.2.2.2.1, C.2.2.2.2.1⟩ hM hcw ⟨iq_blind G _ M, hcell, fun U hU hW => ⟨?_, iq_Pre_call C hSt hR hz hU hW⟩⟩ rfl ?_ hL.2.1 ?_ ?_ hd ?_
  · rw [t3]
    simp only [List.map_cons, hcvb]
    exact key
  · rw [t3]
    simp only [List.map_cons, hcvb]
  · have hn : n < S.length := by
      rcases Nat.lt_or_ge n S.length with q | q
      · exact q
      · rw [List.drop_eq_nil_of_le q] at hdr; cases hdr
    simp
    omega
  · show S.map (iq_cv G) = _
    conv => lhs; rw [t1]
    rw [List.map_append, List.map_cons, hcvb, ← List.map_reverse, List.reverse_reverse]
  · show 2 * 0 + _ ≤ 8
    omega
  · omega
/-- a static one -/
theorem iq_runS (C : iq_Cx G p s m args meth c R mi) (hSt : iq_St G s s.heap) {d idx cal n : Nat} {K : iq_K} {r : iq_R} {M' : iq_M} {ls : Array Slot} (hK : iq_KOK l G d K) (hRd : 20 + d + 1 ≤ R.frames ∧ 300 + 40 * (d + 1) ≤ R.locals) (hlk : iq_lk (iq_mds (iq_ow mi)) idx = some (cal, n, 1)) (hd : decode (iq_cc mi) pc = .ok (.invokestatic idx, 3))
    (hn : n ≤ S.length) (h4 : (S.drop n).length ≤ 4) (hres : K cal ((S.take n).reverse) M = some (r, M')) (hR : iq_Rel G s c0 s0 M H locs) (hL : iq_LR G ls (iq_ml mi) L) (hz : H.size ≤ s.heap.size + (M.2.2.2.1 - c0))
    (hroom : M'.2.2.2.1 ≤ c0 + R.cells ∧ M'.2.2.2.2.1 ≤ s0 + R.slots) :
    vx_Run p l e R s m args below meth c H locs (M.2.2.2.1 - c0) (M.2.2.2.2.1 - s0) (M'.2.2.2.1 - M.2.2.2.1) (M'.2.2.2.2.1 - M.2.2.2.2.1) (F0 m pc ls (S.map (iq_cv G))) ((S.drop n).map (iq_cv G)) (iq_Qc G r M' (((S.take n).reverse).map (iq_cv G)).toArray) (iq_XC G r M') (iq_A G) := by
  have hok := iq_mds_ok _ _ (iq_lk_mem hlk)
  simp only [iq_mok] at hok
  obtain ⟨hcal, w1, w2, w4⟩ := hok
  obtain ⟨k1, k2, k3, k4, k5, k6, k7, k8, k9⟩ := iq_c_ok cal hcal
  obtain ⟨hM, hmono⟩ := hK cal _ M r M' hcal hR.2.1 hres
  have hm1 := hmono.1
  have hm2 := hmono.2.1
  have hc0 := hR.2.2.2.1
  have hsum := iq_sum_le C.2.2.2.2.2.2.2.2.2.1 (S.drop n)
  have hT : GoodIn iq_U (va_wsS (iq_nm (iq_ow mi)) idx (iq_y cal) (iq_ws cal)) := by
    intro w hw
    simp only [va_wsS, iq_ws, List.mem_append, List.mem_cons, List.not_mem_nil, or_false] at hw
    rcases hw with (rfl | rfl | rfl) | (rfl | hw)
    · exact iq_goodU _ w1
    · exact iq_goodU _ w2
    · rw [k1]; exact iq_goodU _ k6
    · exact iq_goodU _ k7
    · exact iq_goodU _ hw
  have hstk : S.map (iq_cv G) = (((S.take n).reverse).map (iq_cv G)).reverse ++ (S.drop n).map (iq_cv G) := by
    rw [← List.map_reverse, List.reverse_reverse, ← List.map_append, List.take_append_drop]
  have hlen : (((S.take n).reverse).map (iq_cv G)).length = n := by simp; omega
  have hRm : (iq_rm d M M').frames + 1 ≤ R.frames ∧ 8 + (iq_ml cal + 11) + (iq_rm d M M').locals ≤ R.locals := ⟨by show 20 + d + 1 ≤ _; exact hRd.1, by show 8 + (iq_ml cal + 11) + (300 + 40 * d) ≤ _; omega⟩
  cases hh : iq_hh cal with
  | nil =>
    have hcd : iq_cdw cal = .code (iq_y cal) (iq_cc cal) (iq_ml cal) (iq_rty cal) := by unfold iq_cdw; rw [hh]
    have hcw := va_cwS (R := R) (rm := iq_rm d M M') (bytes := iq_cc cal) (maxL := iq_ml cal) (ret := iq_rty cal) (ws' := iq_U) n C.2.2.2.2.1 hT (by unfold iq_ws; rw [hcd]) rfl rfl ⟨k3.1, k3.2, w4⟩ hRm
    exact vx_runS (g := F0 m pc ls (S.map (iq_cv G))) (cc := iq_cc mi) (nL := iq_ml mi) (Ts := iq_U) ⟨C.1, C.2.1, C.2.2.1, C.2.2.2.1, C.2.2.2.2.1⟩ hM hcw ⟨iq_blind G _ M, fun U hU hW => ⟨rfl, iq_Pre_call C hSt hR hz hU hW⟩⟩ rfl hlen hL.2.1 hstk (by show 2 * 0 + _ ≤ 8; omega) hd ⟨by omega, by omega⟩
  | cons h0 ht =>
    have hcd : iq_cdw cal = .codeWith (iq_y cal) (iq_cc cal) (iq_ml cal) (iq_rty cal) (h0 :: ht) := by unfold iq_cdw; rw [hh]
    have hcw := vx_cwSW (R := R) (rm := iq_rm d M M') (bytes := iq_cc cal) (maxL := iq_ml cal) (ret := iq_rty cal) (hh := h0 :: ht) (ws' := iq_U) n C.2.2.2.2.1 hT (by unfold iq_ws; rw [hcd]) rfl rfl ⟨k3.1, k3.2, w4⟩ hRm
    exact vx_runSX (g := F0 m pc ls (S.map (iq_cv G))) (cc := iq_cc mi) (nL := iq_ml mi) (Ts := iq_U) ⟨C.1, C.2.1, C.2.2.1, C.2.2.2.1, C.2.2.2.2.1⟩ hM hcw ⟨iq_blind G _ M, fun U hU hW => ⟨rfl, iq_Pre_call C hSt hR hz hU hW⟩⟩ rfl hlen hL.2.1 hstk (by show 2 * 0 + _ ≤ 8; omega) hd ⟨by omega, by omega⟩
/-- a callee that never throws -/
theorem iq_met {d cal : Nat} {as : List Value} {v : Option Value} {M' : iq_M} (hM : iq_CM l G d cal as M (.inl v) M') : Met l (iq_y cal) (iq_ws cal) (iq_rm d M M') (iq_Pc G as M) (iq_Qc G (.inl v) M') (M'.2.2.2.1 - M.2.2.2.1) (M'.2.2.2.2.1 - M.2.2.2.2.1) (iq_A G) := by
  intro p e ha hc hk s m args below hf happ hP hKp
  obtain ⟨n, o, h1, h2, h3, h4⟩ := hM p e ha hc hk s m args below hf happ hP hKp
  refine ⟨n, o, h1, h2, h3, ?_⟩
  rcases h4 with h4 | ⟨q, -, E, ce, Ls, ⟨⟨k, hk, -⟩, -⟩, -⟩
  · exact h4
  · cases hk
/-- a constructor -/
theorem iq_runI (C : iq_Cx G p s m args meth c R mi) (hSt : iq_St G s s.heap) {d idx cal n : Nat} {K : iq_K} {M' : iq_M} {ls : Array Slot} (hK : iq_KOK l G d K) (hRd : 20 + d + 1 ≤ R.frames ∧ 300 + 40 * (d + 1) ≤ R.locals) (hlk : iq_lk (iq_mds (iq_ow mi)) idx = some (cal, n, 2)) (hd : decode (iq_cc mi) pc = .ok (.invokespecial idx, 3))
    (hrv : iq_rv M (iq_ow cal) ((S.drop n).take 1) = true) (h4 : (S.drop (n + 1)).length ≤ 4) (hres : K cal ((S.take (n + 1)).reverse) M = some (.inl none, M')) (hR : iq_Rel G s c0 s0 M H locs) (hL : iq_LR G ls (iq_ml mi) L) (hz : H.size ≤ s.heap.size + (M.2.2.2.1 - c0))
    (hroom : M'.2.2.2.1 ≤ c0 + R.cells ∧ M'.2.2.2.2.1 ≤ s0 + R.slots)
    (hnest : ∀ own idx' y, Cond.methodLinkNest own idx' y "OpenSaying" ∈ lw_tbl → Cond.methodLinkNest own idx' y "OpenSaying" ∈ iq_V) :
    vx_Run p l e R s m args below meth c H locs (M.2.2.2.1 - c0) (M.2.2.2.2.1 - s0) (M'.2.2.2.1 - M.2.2.2.1) (M'.2.2.2.2.1 - M.2.2.2.2.1) (F0 m pc ls (S.map (iq_cv G))) ((S.drop (n + 1)).map (iq_cv G)) (iq_Qc G (.inl none) M' (((S.take (n + 1)).reverse).map (iq_cv G)).toArray) (iq_XC G (.inl none) M') (iq_A G) := by
  have hok := iq_mds_ok _ _ (iq_lk_mem hlk)
  simp only [iq_mok] at hok
  obtain ⟨hcal, w1, w2, wn, wr, wh, w4⟩ := hok
  obtain ⟨k1, k2, k3, k4, k5, k6, k7, k8, k9⟩ := iq_c_ok cal hcal
  obtain ⟨hM, hmono⟩ := hK cal _ M _ M' hcal hR.2.1 hres
  have hMet := iq_met hM
  have hcd : iq_cdw cal = .code (iq_y cal) (iq_cc cal) (iq_ml cal) none := by unfold iq_cdw; rw [wh, wr]
  rw [hcd] at k7
  have hm1 := hmono.1
  have hm2 := hmono.2.1
  have hc0 := hR.2.2.2.1
  have hsum := iq_sum_le C.2.2.2.2.2.2.2.2.2.1 (S.drop (n + 1))
  have hs14 : iq_ow cal ≠ 14 ∨ iq_ow cal = 14 := by omega
  obtain ⟨b, rest', hdr, hb7⟩ : ∃ (b : Nat) (t : List Value), S.drop n = .ref b :: t ∧ b ≠ 7000 := by
    have hex : ∃ (b : Nat) (t : List Value), (S.drop n).take 1 = .ref b :: t ∧ b ≠ 7000 := by
      by_cases h14 : iq_ow cal = 14
      · rw [h14] at hrv
        obtain ⟨b, t, hb, -, hb2⟩ := iq_rv_str hrv
        exact ⟨b, t, hb, Nat.ne_of_lt (Nat.lt_trans hb2 (by decide))⟩
      · obtain ⟨b, t, fs, hb, hb0, hMb, hc11⟩ := iq_rv_obj h14 hrv
        exact ⟨b, t, hb, Nat.ne_of_lt (Nat.lt_trans (Nat.lt_of_lt_of_le (List.getElem?_eq_some_iff.mp hMb).1 hR.2.2.1) (by decide))⟩
    obtain ⟨b, t, hb, hb7⟩ := hex
    refine ⟨b, (S.drop n).drop 1, ?_, hb7⟩
    cases hS : S.drop n with
    | nil => rw [hS] at hb; cases hb
    | cons x y => rw [hS] at hb; simp at hb; rw [hb.1]; rfl
  obtain ⟨t1, t2, t3⟩ := iq_take hdr
  have hcvb : iq_cv G (.ref b) = .ref (iq_ad G b) := by simp [iq_cv, hb7]
  rw [t2] at h4 hsum ⊢
  have hG : GoodIn iq_U (iq_ws cal) := by
    intro w hw
    simp only [iq_ws, List.mem_cons] at hw
    rcases hw with rfl | hw
    · rw [hcd]; exact iq_goodU _ k7
    · exact iq_goodU _ hw
  have hn : n < S.length := by
    rcases Nat.lt_or_ge n S.length with q | q
    · exact q
    · rw [List.drop_eq_nil_of_le q] at hdr; cases hdr
  have hRm : (iq_rm d M M').frames + 1 ≤ R.frames ∧ 8 + (iq_ml cal + 11) + (iq_rm d M M').locals ≤ R.locals := ⟨by show 20 + d + 1 ≤ _; exact hRd.1, by show 8 + (iq_ml cal + 11) + (300 + 40 * d) ≤ _; omega⟩
  have hini : (Cond.initialized (iq_y cal).cls).before args s = true := by rw [k1]; exact C.2.2.2.2.1 _ k6
  have hlen : (((S.take n).reverse).map (iq_cv G)).length = n := by simp; omega
  have hstk : S.map (iq_cv G) = (((S.take n).reverse).map (iq_cv G)).reverse ++ .ref (iq_ad G b) :: rest'.map (iq_cv G) := by
    conv => lhs; rw [t1]
    rw [List.map_append, List.map_cons, hcvb, ← List.map_reverse, List.reverse_reverse]
  have hpre : PreS s H (iq_Pc G (S.take (n + 1)).reverse M) (.ref (iq_ad G b) :: ((S.take n).reverse).map (iq_cv G)) := ⟨iq_blind G _ M, fun U hU hW => ⟨by rw [t3]; simp only [List.map_cons, hcvb], iq_Pre_call C hSt hR hz hU hW⟩⟩
  have key : va_Run p l e R s m args below meth c H locs (M.2.2.2.1 - c0) (M.2.2.2.2.1 - s0) (M'.2.2.2.1 - M.2.2.2.1) (M'.2.2.2.2.1 - M.2.2.2.2.1) (F0 m pc ls (S.map (iq_cv G))) (rest'.map (iq_cv G)) (iq_Qc G (.inl none) M' (.ref (iq_ad G b) :: ((S.take n).reverse).map (iq_cv G)).toArray) (iq_A G) := by
    rcases w1 with w1 | w1
    · have hcw := cwI (R := R) (rm := iq_rm d M M') (bytes := iq_cc cal) (maxL := iq_ml cal) (ws' := iq_U) n C.2.2.2.2.1 hG (by unfold iq_ws; rw [hcd]) rfl rfl hini (C.2.2.2.2.1 _ w1) (C.2.2.2.2.1 _ w2) wn ⟨k3.1, k3.2, w4⟩ hRm
      exact va_runI (g := F0 m pc ls (S.map (iq_cv G))) (cc := iq_cc mi) (nL := iq_ml mi) (Ts := iq_U) ⟨C.1, C.2.1, C.2.2.1, C.2.2.2.1, C.2.2.2.2.1⟩ hMet hcw hpre rfl hlen hL.2.1 hstk (by show 2 * 0 + _ ≤ 8; omega) hd ⟨by omega, by omega⟩
    · have hcw := va_cnB (R := R) (rm := iq_rm d M M') (bytes := iq_cc cal) (maxL := iq_ml cal) (ws' := iq_U) (host := "OpenSaying") (own := iq_nm (iq_ow mi)) (index := idx) n C.2.2.2.2.1 hG (by unfold iq_ws; rw [hcd]) rfl rfl (hSt.2.2.2.2.2.2.2 _ (hnest _ _ _ w1)) hini ⟨k3.1, k3.2, w4⟩ hRm
      exact va_runIN (g := F0 m pc ls (S.map (iq_cv G))) (cc := iq_cc mi) (nL := iq_ml mi) (Ts := iq_U) ⟨C.1, C.2.1, C.2.2.1, C.2.2.2.1, C.2.2.2.2.1⟩ hMet ⟨hcw, wn, C.2.2.2.2.1 _ w2⟩ hpre rfl hlen hL.2.1 hstk (by show 2 * 0 + _ ≤ 8; omega) hd ⟨by omega, by omega⟩
  rw [t3]
  simp only [List.map_cons, hcvb]
  exact fun T hT X => Or.inl (key T hT X)
end Calls9
