/-! ===== closed ===== -/
def kS (c k : Nat) : Bool := Nat.testBit c k
def pC (c : Nat) : Nat := jcn 14 fun k => jt (jn c) k
theorem kS_jb1 : ∀ c : Fin 256, jn c.val = jb 8 (kS c.val) := by decide +kernel
theorem kS_jb {c : Nat} (h : c < 256) : jn c = jb 8 (kS c) := kS_jb1 ⟨c, h⟩
theorem pC_b1 : ∀ c : Fin 256, zS_J6_bitCount_0f7a4 (jn c.val) (fun _ _ => 0) = some (jn (pC c.val)) := by decide +kernel
theorem jc_bitCount {I : iq_I} {c : Nat} (h : c < 256) : zS_J6_bitCount_0f7a4 (jn c) I = some (jn (pC c)) := pC_b1 ⟨c, h⟩
theorem jt_val {x : Int32} {s : Nat} (hs : s < 32) : (x >>> (jn s &&& 31)) &&& 1 = jn (if jt x s = true then 1 else 0) := by
  cases h : jt x s with
  | false => exact (jt_bit hs).mpr h
  | true => exact (jt_bit1 hs).mpr h
theorem jm_bits {I : iq_I} {c : Nat} : zM_bits (jn c) I = some (jn (pC c)) := by
  have key : zM_bits_l4 (jn c) I ir_F (jn 0, jn 0) = some (jn (pC c)) := by
    refine js_seq (fun i => (jn (jcn i fun k => jt (jn c) k), jn i)) 14 _ (fun i hi => ?_) ?_ 14 0 ir_F (by omega) (by unfold ir_F; omega)
    · dsimp only
      unfold zM_bits_l4_b
      rw [if_neg (by rw [show (14 : Int32) = jn 14 from rfl, jn_le (by omega) (by omega)]; omega), jt_val (by omega), jn_add, show (1 : Int32) = jn 1 from rfl, jn_add]
      rfl
    · dsimp only
      unfold zM_bits_l4_b
      rw [if_pos (by decide)]
      rfl
  simp only [jn0] at key
  simp only [zM_bits, key, ir_let, iq_sm, ir_sm, jzE, j10, Option.bind_some, ↓reduceIte, not_true_eq_false, not_false_eq_true]
theorem pC_le {c : Nat} : pC c ≤ 14 := jcn_le
/-- the states that go on for ever, the kinds c being shut -/
def clX (m : jMu) (c : Nat) : Nat → Bool := gIt (gPr (mS m) (mEd m (kS c)) fun _ => true) (mS m) fun _ => true
def clB (m : jMu) (g : jGa) (c y : Nat) : Bool := match gSt m g y (gB g y) none with
  | none => false
  | some s => clX m c s
def clOk (m : jMu) (g : jGa) (c : Nat) : Bool := !jex (gY g) (clB m g c)
def clSub (m : jMu) (c : Nat) : Bool := !jex 8 fun k => kS c k && !mTold m k
theorem jc_endless {I : iq_I} {m : jMu} {c : Nat} (hm : mOk m) (hU : jRU I m) (hc : c < 256) : ∃ I', zP_endless (jn c) I = some (jb (mS m) (clX m c), I') ∧ jag I I' := by
  have h10 := hm.1
  have hx : (I 4 4) &&& (jn c ^^^ (-1 : Int32)) = jb 8 fun k => mTold m k && !kS c k := by
    rw [jRU_t hU, kS_jb hc]
    exact jb_andn (by omega)
  obtain ⟨I1, e1, a1, b1⟩ := jc_lb hm hU hx
  have hU1 := jRU_ag hU a1
  have st : ∀ k, zP_leadingInto (jb (mS m) (gIt (gPr (mS m) (mEd m (kS c)) fun _ => true) k fun _ => true)) (jb (mS m) (gIt (gPr (mS m) (mEd m (kS c)) fun _ => true) k fun _ => true)) I1 = some (jb (mS m) (gIt (gPr (mS m) (mEd m (kS c)) fun _ => true) (k + 1) fun _ => true)) := fun k => by
    rw [jc_leadingInto' hm hU1 b1]
    congr 1
    refine jb_ext fun j hj => ?_
    have h1 := gPr_dn (n := mS m) (E := mEd m (kS c)) (A := fun _ => true) k j
    show _ = gPr (mS m) (mEd m (kS c)) (fun _ => true) (gIt (gPr (mS m) (mEd m (kS c)) fun _ => true) k fun _ => true) j
    have h1 : gPr (mS m) (mEd m (kS c)) (fun _ => true) (gIt (gPr (mS m) (mEd m (kS c)) fun _ => true) k fun _ => true) j = true → gIt (gPr (mS m) (mEd m (kS c)) fun _ => true) k (fun _ => true) j = true := h1
    simp only [gPr, Bool.true_and] at h1 ⊢
    cases q : jex (mS m) fun t => mEd m (kS c) j t && gIt (gPr (mS m) (mEd m (kS c)) fun _ => true) k (fun _ => true) t with
    | false => simp
    | true => rw [h1 q]; rfl
  have key : ∃ w, zP_endless_l12 I1 ir_F (jb (mS m) (fun _ => true), jn 0) = some w ∧ (w = .inl (jb (mS m) (clX m c)) ∨ w = .inr (jb (mS m) (clX m c), I1)) := by
    rcases gFst_sp (P := fun k => decide (jb (mS m) (gIt (gPr (mS m) (mEd m (kS c)) fun _ => true) (k + 1) fun _ => true) = jb (mS m) (gIt (gPr (mS m) (mEd m (kS c)) fun _ => true) k fun _ => true))) (c := mS m) (i := 0) with ⟨_, h2⟩ | ⟨e, _, _, h3, h4, h5⟩
    · refine ⟨.inl (jb (mS m) (clX m c)), ?_, Or.inl rfl⟩
      refine js_seq (fun k => (jb (mS m) (gIt (gPr (mS m) (mEd m (kS c)) fun _ => true) k fun _ => true), jn k)) (mS m) _ (fun k hk => ?_) ?_ (mS m) 0 ir_F (by omega) (by unfold ir_F; omega)
      · have ne := of_decide_eq_false (h2 k (by omega) (by omega))
        dsimp only
        unfold zP_endless_l12_b
        rw [jRU_S hU1, if_neg (by rw [jn_le (by omega) (by omega)]; omega), st, Option.bind_some, if_pos ne, show (1 : Int32) = jn 1 from rfl, jn_add]
      · dsimp only
        unfold zP_endless_l12_b
        rw [jRU_S hU1, if_pos (by rw [jn_le (by omega) (by omega)]; omega)]
        rfl
    · have h4 := of_decide_eq_true h4
      have pt : ∀ j, j < mS m → gIt (gPr (mS m) (mEd m (kS c)) fun _ => true) (e + 1) (fun _ => true) j = gIt (gPr (mS m) (mEd m (kS c)) fun _ => true) e (fun _ => true) j := fun j hj => by
        have := congrArg (fun z => jt z j) h4
        simp only [jt_jb (show mS m ≤ 32 by omega)] at this
        simpa [hj] using this
      have all : ∀ d j, j < mS m → gIt (gPr (mS m) (mEd m (kS c)) fun _ => true) (e + d) (fun _ => true) j = gIt (gPr (mS m) (mEd m (kS c)) fun _ => true) e (fun _ => true) j := by
        intro d
        induction d with
        | zero => intros; rfl
        | succ d ih =>
          intro j hj
          rw [← pt j hj]
          show gPr _ _ _ (gIt (gPr (mS m) (mEd m (kS c)) fun _ => true) (e + d) fun _ => true) j = gPr _ _ _ (gIt (gPr (mS m) (mEd m (kS c)) fun _ => true) e fun _ => true) j
          exact gPr_cg ih j
      have eX : jb (mS m) (gIt (gPr (mS m) (mEd m (kS c)) fun _ => true) e fun _ => true) = jb (mS m) (clX m c) := jb_ext fun j hj => by
        have := all (mS m - e) j hj
        rw [show e + (mS m - e) = mS m by omega] at this
        exact this.symm
      refine ⟨.inr (jb (mS m) (clX m c), I1), ?_, Or.inr rfl⟩
      refine js_seq (fun k => (jb (mS m) (gIt (gPr (mS m) (mEd m (kS c)) fun _ => true) k fun _ => true), jn k)) e _ (fun k hk => ?_) ?_ e 0 ir_F (by omega) (by unfold ir_F; omega)
      · have ne := of_decide_eq_false (h5 k (by omega) hk)
        dsimp only
        unfold zP_endless_l12_b
        rw [jRU_S hU1, if_neg (by rw [jn_le (by omega) (by omega)]; omega), st, Option.bind_some, if_pos ne, show (1 : Int32) = jn 1 from rfl, jn_add]
      · dsimp only
        unfold zP_endless_l12_b
        rw [jRU_S hU1, if_neg (by rw [jn_le (by omega) (by omega)]; omega), st, Option.bind_some, if_neg (fun h => h h4), eX]
  obtain ⟨w, k1, k2⟩ := key
  simp only [jn0] at k1
  refine ⟨I1, ?_, a1⟩
  rcases k2 with rfl | rfl
  · simp only [zP_endless, e1, jc_allStates hm hU1, k1, ir_let, iq_sm, ir_sm, jzE, j10, Option.bind_some, ↓reduceIte, not_true_eq_false, not_false_eq_true]
  · simp only [zP_endless, e1, jc_allStates hm hU1, k1, ir_let, iq_sm, ir_sm, jzE, j10, Option.bind_some, ↓reduceIte, not_true_eq_false, not_false_eq_true]
def clU (m : jMu) (g : jGa) (n t : Nat) : Bool := jex n fun y => decide (gSt m g y (gB g y) none = some t)
theorem jc_ck4 {I : iq_I} {m : jMu} {g : jGa} (hm : mOk m) (hU : jRU I m) (hg : gOk m g) (hG : jRG I 16 17 18 24 g) : zP_closingKinds_l4 I ir_F (jn 0, jn 0) = some (jb (mS m) (clU m g (gY g))) := by
  have h10 := hm.1
  have h5 := hg.1
  have E : ((jn 0, jn 0) : Int32 × Int32) = (fun i => (jb (mS m) (clU m g i), jn i)) 0 := by
    show ((0 : Int32), jn 0) = _
    rw [jb_0 (n := mS m) (by omega)]
    exact congrArg (fun z => (z, jn 0)) (jb_ext fun j _ => jex_0.symm)
  rw [E]
  refine js_seq (fun i => (jb (mS m) (clU m g i), jn i)) (gY g) _ (fun y hy => ?_) ?_ (gY g) 0 ir_F (by omega) (by unfold ir_F; omega)
  · have kk := jc_stateOf hm hU hg hG hy
    cases hr : gSt m g y (gB g y) none with
    | none =>
      rw [hr] at kk
      have e : jb (mS m) (clU m g (y + 1)) = jb (mS m) (clU m g y) := jb_ext fun j _ => by
        unfold clU
        rw [jex_s, hr]; simp
      dsimp only
      rw [e]
      simp (disch := omega) only [zP_closingKinds_l4_b, jRG_Y hG, kk, ir_let, jn_lt, jn_le, jn_in, jn_inj, jn_ne_m, jm_ne_n, jm_eq_m, jm_lt, jm_le, jn_lt_m, jn_le_m, jn_add, jn_mul, jn_clamp, jo_some, jn_min, jn_max, ↓jlm, jl0, jl1, jl2, jl3, jl4, jl5, jl6, jl7, jl8, jl9, jl10, jl11, jl12, jl13, jl14, jl15, jl16, jl20, jl24, jl32, jl39, jl40, jl41, jl60, jl61, jl80, jl96, jl97, jl99, jl100, jl122, jl126, jl199, jl200, jl205, jl206, jl255, jl256, jl410, jl700, jl950, jl1000, jl1000000, jl4000, jl8240, jl32767, if_pos, if_neg, ↓reduceIte, Option.bind_some, not_true_eq_false, not_false_eq_true, Nat.not_lt, Nat.not_le]
    | some t =>
      have ht := gSt_lt hm hg hy (hg.2.1 y hy) hr
      rw [hr] at kk
      have e : jb (mS m) (clU m g (y + 1)) = jb (mS m) (fun j => clU m g y j || decide (j = t)) := jb_ext fun j _ => by
        unfold clU
        rw [jex_s, hr]
        congr 1
        by_cases q : j = t
        · subst q; simp
        · simp [q]
          exact fun h => q h.symm
      dsimp only
      rw [e]
      simp (disch := omega) only [zP_closingKinds_l4_b, jRG_Y hG, kk, jq_set, ir_let, jn_lt, jn_le, jn_in, jn_inj, jn_ne_m, jm_ne_n, jm_eq_m, jm_lt, jm_le, jn_lt_m, jn_le_m, jn_add, jn_mul, jn_clamp, jo_some, jn_min, jn_max, ↓jlm, jl0, jl1, jl2, jl3, jl4, jl5, jl6, jl7, jl8, jl9, jl10, jl11, jl12, jl13, jl14, jl15, jl16, jl20, jl24, jl32, jl39, jl40, jl41, jl60, jl61, jl80, jl96, jl97, jl99, jl100, jl122, jl126, jl199, jl200, jl205, jl206, jl255, jl256, jl410, jl700, jl950, jl1000, jl1000000, jl4000, jl8240, jl32767, if_pos, if_neg, ↓reduceIte, Option.bind_some, not_true_eq_false, not_false_eq_true, Nat.not_lt, Nat.not_le]
  · simp (disch := omega) only [zP_closingKinds_l4_b, jRG_Y hG, ir_let, jn_lt, jn_le, jn_in, jn_inj, jn_ne_m, jm_ne_n, jm_eq_m, jm_lt, jm_le, jn_lt_m, jn_le_m, jn_add, jn_mul, jn_clamp, jo_some, jn_min, jn_max, ↓jlm, jl0, jl1, jl2, jl3, jl4, jl5, jl6, jl7, jl8, jl9, jl10, jl11, jl12, jl13, jl14, jl15, jl16, jl20, jl24, jl32, jl39, jl40, jl41, jl60, jl61, jl80, jl96, jl97, jl99, jl100, jl122, jl126, jl199, jl200, jl205, jl206, jl255, jl256, jl410, jl700, jl950, jl1000, jl1000000, jl4000, jl8240, jl32767, if_pos, if_neg, ↓reduceIte, Option.bind_some, not_true_eq_false, not_false_eq_true, Nat.not_lt, Nat.not_le]
theorem clOk_U {m : jMu} {g : jGa} {c : Nat} (hm : mOk m) (hg : gOk m g) : (jb (mS m) (clX m c) &&& jb (mS m) (clU m g (gY g)) = 0) = (clOk m g c = true) := by
  have h10 := hm.1
  rw [jb_and (by omega), jb_zero (by omega)]
  apply propext
  unfold clOk
  rw [Bool.not_eq_true', jex_f]
  constructor
  · intro h y hy
    unfold clB
    cases hr : gSt m g y (gB g y) none with
    | none => rfl
    | some s =>
      have hs := gSt_lt hm hg hy (hg.2.1 y hy) hr
      have := h s hs
      have u : clU m g (gY g) s = true := jex_iff.mpr ⟨y, hy, decide_eq_true hr⟩
      rw [u, Bool.and_true] at this
      exact this
  · intro h t ht
    cases u : clU m g (gY g) t with
    | false => simp
    | true =>
      obtain ⟨y, hy, hr⟩ := jex_iff.mp u
      have hr := of_decide_eq_true hr
      have := h y hy
      unfold clB at this
      rw [hr] at this
      have this : clX m c t = false := this
      rw [this]; rfl
def pCl (m : jMu) (g : jGa) (z c : Nat) : Bool := decide (pC c = z) && (clSub m c && clOk m g c)
theorem jc_ck53 {I : iq_I} {m : jMu} {g : jGa} {z : Nat} (hm : mOk m) (hU : jRU I m) (hg : gOk m g) (hz : z ≤ 8) :
    ∃ I', zP_closingKinds_l53 (jb (mS m) (clU m g (gY g))) (jn z) ir_F (jn 0, I) = some (match gFst (pCl m g z) 256 0 with
      | some c => .inr (jn c, I')
      | none => .inl I') ∧ jag I I' := by
  have h10 := hm.1
  have body : ∀ c I1, c < 256 → jag I I1 → ∃ I2, jag I I2 ∧ zP_closingKinds_l53_b (jb (mS m) (clU m g (gY g))) (jn z) (jn c) I1 = some (if pCl m g z c = true then .inr (.inr (jn c, I2)) else .inl (jn (c + 1), I2)) := fun c I1 hc ha => by
    have hU1 := jRU_ag hU ha
    have b := pC_le (c := c)
    have cc : ¬ (256 : Int32) ≤ jn c := by rw [show (256 : Int32) = jn 256 from rfl, jn_le (by omega) (by omega)]; omega
    have sub : (jn c &&& ((I1 4 4) ^^^ (-1 : Int32)) = 0) = (clSub m c = true) := by
      rw [jRU_t hU1, kS_jb hc, jlm, jb_andn (by omega), jb_zero (by omega)]
      unfold clSub
      rw [Bool.not_eq_true', jex_f]
    unfold zP_closingKinds_l53_b
    rw [if_neg cc, jc_bitCount hc, Option.bind_some]
    by_cases q : pC c = z
    · rw [if_neg (by rw [q]; exact fun h => h rfl)]
      cases s : clSub m c with
      | false =>
        have e : pCl m g z c = false := by simp [pCl, s]
        refine ⟨I1, ha, ?_⟩
        rw [if_pos (by rw [sub, s]; simp), e, if_neg (by simp), show (1 : Int32) = jn 1 from rfl, jn_add]
      | true =>
        obtain ⟨I2, e2, a2⟩ := jc_endless hm hU1 hc
        refine ⟨I2, jag_tr ha a2, ?_⟩
        rw [if_neg (by rw [sub, s]; simp), e2, Option.bind_some]
        dsimp only
        have ok := clOk_U (c := c) hm hg
        cases o : clOk m g c with
        | true =>
          have e : pCl m g z c = true := by simp [pCl, s, q, o]
          rw [if_neg (by rw [ok, o]; simp), e, if_pos (Eq.refl true)]
        | false =>
          have e : pCl m g z c = false := by simp [pCl, o]
          rw [if_pos (by rw [ok, o]; simp), e, if_neg (by simp), show (1 : Int32) = jn 1 from rfl, jn_add]
    · have e : pCl m g z c = false := by simp [pCl, q]
      refine ⟨I1, ha, ?_⟩
      rw [if_pos (by rw [jn_inj (by omega) (by omega)]; exact q), e, if_neg (by simp), show (1 : Int32) = jn 1 from rfl, jn_add]
  rcases gFst_sp (P := pCl m g z) (c := 256) (i := 0) with ⟨h1, h2⟩ | ⟨e, h1, _, h3, h4, h5⟩
  · obtain ⟨w, k1, I2, k2, k3⟩ := js_inv (body := fun v => zP_closingKinds_l53_b (jb (mS m) (clU m g (gY g))) (jn z) v.1 v.2) (fun i v => v.1 = jn i ∧ jag I v.2) 256 (fun w => ∃ I2, w = .inl I2 ∧ jag I I2) (by
      rintro c ⟨x, I1⟩ hc ⟨hv, ha⟩
      simp only at hv ha
      subst hv
      obtain ⟨I2, a2, e2⟩ := body c I1 hc ha
      rw [h2 c (by omega) (by omega), if_neg (by simp)] at e2
      exact ⟨_, e2, rfl, a2⟩) (by
      rintro ⟨x, I1⟩ ⟨hv, ha⟩
      simp only at hv ha
      subst hv
      refine ⟨.inl I1, ?_, I1, rfl, ha⟩
      dsimp only
      unfold zP_closingKinds_l53_b
      rw [if_pos (by decide)]) 256 0 (jn 0, I) ir_F (by omega) ⟨rfl, jag_rf I⟩ (by unfold ir_F; omega)
    subst k2
    refine ⟨I2, ?_, k3⟩
    rw [h1]; exact k1
  · obtain ⟨w, k1, I2, k2, k3⟩ := js_inv (body := fun v => zP_closingKinds_l53_b (jb (mS m) (clU m g (gY g))) (jn z) v.1 v.2) (fun i v => v.1 = jn i ∧ jag I v.2) e (fun w => ∃ I2, w = .inr (jn e, I2) ∧ jag I I2) (by
      rintro c ⟨x, I1⟩ hc ⟨hv, ha⟩
      simp only at hv ha
      subst hv
      obtain ⟨I2, a2, e2⟩ := body c I1 (by omega) ha
      rw [h5 c (by omega) hc, if_neg (by simp)] at e2
      exact ⟨_, e2, rfl, a2⟩) (by
      rintro ⟨x, I1⟩ ⟨hv, ha⟩
      simp only at hv ha
      subst hv
      obtain ⟨I2, a2, e2⟩ := body e I1 (by omega) ha
      rw [h4, if_pos (Eq.refl true)] at e2
      exact ⟨_, e2, I2, rfl, a2⟩) e 0 (jn 0, I) ir_F (by omega) ⟨rfl, jag_rf I⟩ (by unfold ir_F; omega)
    subst k2
    refine ⟨I2, ?_, k3⟩
    rw [h1]; exact k1
/-- what the class answers -/
def clA (m : jMu) (g : jGa) : Option Nat := (gFst (fun z => (gFst (pCl m g z) 256 0).isSome) 9 0).bind fun z => gFst (pCl m g z) 256 0
