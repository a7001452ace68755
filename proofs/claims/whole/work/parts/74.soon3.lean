/-! ===== soonest: rows and answers ===== -/
def sQ (m : jMu) (s w : Nat) : Bool := match mLd m s w with
  | none => false
  | some t => decide ((sDs m t).getD 99 + 1 = (sDs m s).getD 99)
def sPk (m : jMu) (s : Nat) : Option Nat := gFst (sQ m s) (mW m) 0
theorem sDs_lt {m : jMu} (hm : mOk m) {s d : Nat} (h : sDs m s = some d) : d < 10 := by
  have := (sDs_some h).1
  have := hm.1
  omega
theorem sPk_ok {m : jMu} (hm : mOk m) {s d : Nat} (hs : s < mS m) (h : sDs m s = some (d + 1)) : ∃ w t, sPk m s = some w ∧ w < mW m ∧ mLd m s w = some t ∧ t < mS m ∧ sDs m t = some d ∧ ∀ j, j < w → sQ m s j = false := by
  obtain ⟨p1, p2, p3⟩ := sDs_some h
  have h10 := hm.1
  have hq : ∃ w, w < mW m ∧ sQ m s w = true := by
    rcases sNr_s.mp p2 with h1 | ⟨t, ht, h1, h2⟩
    · rw [p3 d (by omega)] at h1; cases h1
    · rw [mEd_w hm] at h2
      obtain ⟨w, hw, h3⟩ := jex_iff.mp h2
      simp only [Bool.and_eq_true] at h3
      have h3 := of_decide_eq_true h3.2
      refine ⟨w, hw, ?_⟩
      have : sDs m t = some d := sDs_of h1 (fun j hj => by
        cases q : sNr m j t with
        | false => rfl
        | true =>
          have := sNr_s (k := j) (s := s) |>.mpr (Or.inr ⟨t, ht, q, by rw [mEd_w hm]; exact jex_iff.mpr ⟨w, hw, by simp [h3]⟩⟩)
          rw [p3 (j + 1) (by omega)] at this
          cases this) ht
      simp only [sQ, h3, this, h, Option.getD_some]
      simp
  rcases gFst_sp (P := sQ m s) (c := mW m) (i := 0) with ⟨h1, h2⟩ | ⟨e, h1, _, h3, h4, h5⟩
  · obtain ⟨w, hw, hq⟩ := hq
    rw [h2 w (by omega) (by omega)] at hq; cases hq
  · have h6 := h4
    unfold sQ at h6
    cases h7 : mLd m s e with
    | none => rw [h7] at h6; cases h6
    | some t =>
      rw [h7] at h6
      simp only at h6
      have h6 := of_decide_eq_true h6
      rw [h, Option.getD_some] at h6
      have ht := mLd_lt hm hs (by omega) h7
      refine ⟨e, t, h1, by omega, h7, ht, ?_, fun j hj => h5 j (by omega) hj⟩
      cases h8 : sDs m t with
      | none => rw [h8, Option.getD_none] at h6; omega
      | some d' =>
        rw [h8, Option.getD_some] at h6
        congr 1
        omega
def sAt (m : jMu) (s : Nat) : Nat → Nat
  | 0 => s
  | k + 1 => ((sPk m (sAt m s k)).bind (mLd m (sAt m s k))).getD 0
theorem sAt_ok {m : jMu} (hm : mOk m) {s d : Nat} (hs : s < mS m) (h : sDs m s = some d) : ∀ k, k ≤ d → sAt m s k < mS m ∧ sDs m (sAt m s k) = some (d - k)
  | 0, _ => ⟨hs, h⟩
  | k + 1, hk => by
    obtain ⟨h1, h2⟩ := sAt_ok hm hs h k (by omega)
    rw [show d - k = d - (k + 1) + 1 by omega] at h2
    obtain ⟨w, t, p1, p2, p3, p4, p5, _⟩ := sPk_ok hm h1 h2
    have e : sAt m s (k + 1) = t := by
      show ((sPk m (sAt m s k)).bind (mLd m (sAt m s k))).getD 0 = t
      rw [p1, Option.bind_some, p3]; rfl
    rw [e]; exact ⟨p4, p5⟩
theorem jc_dist {I : iq_I} {m : jMu} (hm : mOk m) (hU : jRU I m) (hT : ∀ s, s < mS m → I 65 s = jo (sDs m s)) {s : Nat} (hs : s < mS m) : zP_distanceOf (jn s) I = some (jo (sDs m s)) := by
  have h10 := hm.1
  simp (disch := omega) only [zP_distanceOf, jRU_S hU, hT s hs, ir_let, jn_lt, jn_le, jn_in, jn_inj, jn_ne_m, jm_ne_n, jm_eq_m, jm_lt, jm_le, jn_lt_m, jn_le_m, jn_add, jn_mul, jn_clamp, jo_some, jn_min, jn_max, ↓jlm, jl0, jl1, jl2, jl3, jl4, jl5, jl6, jl7, jl8, jl9, jl10, jl11, jl12, jl13, jl14, jl15, jl16, jl20, jl24, jl32, jl39, jl40, jl41, jl60, jl61, jl80, jl96, jl97, jl99, jl100, jl122, jl126, jl199, jl200, jl205, jl206, jl255, jl256, jl410, jl700, jl950, jl1000, jl1000000, jl4000, jl8240, jl32767, if_pos, if_neg, ↓reduceIte, Option.bind_some, not_true_eq_false, not_false_eq_true, Nat.not_lt, Nat.not_le]
theorem jc_firstNearer {I : iq_I} {m : jMu} (hm : mOk m) (hU : jRU I m) (hT : ∀ s, s < mS m → I 65 s = jo (sDs m s)) {s d : Nat} (hs : s < mS m) (h : sDs m s = some (d + 1)) : zP_firstNearer (jn s) I = some (jo (sPk m s)) := by
  have h14 := hm.2.1
  have hd := sDs_lt hm h
  obtain ⟨w, t, p1, p2, p3, p4, p5, p6⟩ := sPk_ok hm hs h
  rw [p1]
  have ds := jc_dist hm hU hT hs
  rw [h, jo_some] at ds
  have body : ∀ k, k < mW m → zP_firstNearer_l10_b (jn s) (jn d) I (jn k) = some (if sQ m s k = true then .inr (.inr (jn k)) else .inl (jn (k + 1))) := fun k hk => by
    have lt := jc_leadsTo hm hU hs hk
    cases hr : mLd m s k with
    | none =>
      rw [hr] at lt
      have e : sQ m s k = false := by simp [sQ, hr]
      rw [if_neg (by simp [e])]
      simp (disch := omega) only [zP_firstNearer_l10_b, jRU_W hU, lt, ir_let, jn_lt, jn_le, jn_in, jn_inj, jn_ne_m, jm_ne_n, jm_eq_m, jm_lt, jm_le, jn_lt_m, jn_le_m, jn_add, jn_mul, jn_clamp, jo_some, jn_min, jn_max, ↓jlm, jl0, jl1, jl2, jl3, jl4, jl5, jl6, jl7, jl8, jl9, jl10, jl11, jl12, jl13, jl14, jl15, jl16, jl20, jl24, jl32, jl39, jl40, jl41, jl60, jl61, jl80, jl96, jl97, jl99, jl100, jl122, jl126, jl199, jl200, jl205, jl206, jl255, jl256, jl410, jl700, jl950, jl1000, jl1000000, jl4000, jl8240, jl32767, if_pos, if_neg, ↓reduceIte, Option.bind_some, not_true_eq_false, not_false_eq_true, Nat.not_lt, Nat.not_le]
    | some t' =>
      have ht := mLd_lt hm hs hk hr
      have h10 := hm.1
      have dt := jc_dist hm hU hT ht
      rw [hr] at lt
      cases hq : sQ m s k with
      | true =>
        rw [if_pos rfl]
        have hq2 : (sDs m t').getD 99 + 1 = (sDs m s).getD 99 := by
          unfold sQ at hq; rw [hr] at hq; exact of_decide_eq_true hq
        rw [h, Option.getD_some] at hq2
        have e : sDs m t' = some d := by
          cases q : sDs m t' with
          | none => rw [q, Option.getD_none] at hq2; omega
          | some x => rw [q, Option.getD_some] at hq2; congr 1; omega
        rw [e, jo_some] at dt
        simp (disch := omega) only [zP_firstNearer_l10_b, jRU_W hU, lt, dt, ir_let, jn_lt, jn_le, jn_in, jn_inj, jn_ne_m, jm_ne_n, jm_eq_m, jm_lt, jm_le, jn_lt_m, jn_le_m, jn_add, jn_mul, jn_clamp, jo_some, jn_min, jn_max, ↓jlm, jl0, jl1, jl2, jl3, jl4, jl5, jl6, jl7, jl8, jl9, jl10, jl11, jl12, jl13, jl14, jl15, jl16, jl20, jl24, jl32, jl39, jl40, jl41, jl60, jl61, jl80, jl96, jl97, jl99, jl100, jl122, jl126, jl199, jl200, jl205, jl206, jl255, jl256, jl410, jl700, jl950, jl1000, jl1000000, jl4000, jl8240, jl32767, if_pos, if_neg, ↓reduceIte, Option.bind_some, not_true_eq_false, not_false_eq_true, Nat.not_lt, Nat.not_le]
      | false =>
        rw [if_neg (by simp)]
        have hq2 : ¬ (sDs m t').getD 99 + 1 = (sDs m s).getD 99 := by
          unfold sQ at hq; rw [hr] at hq; exact of_decide_eq_false hq
        rw [h, Option.getD_some] at hq2
        cases q : sDs m t' with
        | none =>
          rw [q] at dt
          simp (disch := omega) only [zP_firstNearer_l10_b, jRU_W hU, lt, dt, ir_let, jn_lt, jn_le, jn_in, jn_inj, jn_ne_m, jm_ne_n, jm_eq_m, jm_lt, jm_le, jn_lt_m, jn_le_m, jn_add, jn_mul, jn_clamp, jo_some, jn_min, jn_max, ↓jlm, jl0, jl1, jl2, jl3, jl4, jl5, jl6, jl7, jl8, jl9, jl10, jl11, jl12, jl13, jl14, jl15, jl16, jl20, jl24, jl32, jl39, jl40, jl41, jl60, jl61, jl80, jl96, jl97, jl99, jl100, jl122, jl126, jl199, jl200, jl205, jl206, jl255, jl256, jl410, jl700, jl950, jl1000, jl1000000, jl4000, jl8240, jl32767, if_pos, if_neg, ↓reduceIte, Option.bind_some, not_true_eq_false, not_false_eq_true, Nat.not_lt, Nat.not_le]
        | some x =>
          have hx := sDs_lt hm q
          rw [q, Option.getD_some] at hq2
          rw [q, jo_some] at dt
          simp (disch := omega) only [zP_firstNearer_l10_b, jRU_W hU, lt, dt, ir_let, jn_lt, jn_le, jn_in, jn_inj, jn_ne_m, jm_ne_n, jm_eq_m, jm_lt, jm_le, jn_lt_m, jn_le_m, jn_add, jn_mul, jn_clamp, jo_some, jn_min, jn_max, ↓jlm, jl0, jl1, jl2, jl3, jl4, jl5, jl6, jl7, jl8, jl9, jl10, jl11, jl12, jl13, jl14, jl15, jl16, jl20, jl24, jl32, jl39, jl40, jl41, jl60, jl61, jl80, jl96, jl97, jl99, jl100, jl122, jl126, jl199, jl200, jl205, jl206, jl255, jl256, jl410, jl700, jl950, jl1000, jl1000000, jl4000, jl8240, jl32767, if_pos, if_neg, ↓reduceIte, Option.bind_some, not_true_eq_false, not_false_eq_true, Nat.not_lt, Nat.not_le]
  have key : zP_firstNearer_l10 (jn s) (jn d) I ir_F (jn 0) = some (.inr (jn w)) := by
    refine js_seq (fun k => jn k) w _ (fun k hk => ?_) ?_ w 0 ir_F (by omega) (by unfold ir_F; omega)
    · have := body k (by omega)
      rw [if_neg (by simp [p6 k hk])] at this
      exact this
    · have := body w p2
      have hq : sQ m s w = true := by
        simp only [sQ, p3, p5, h, Option.getD_some]; simp
      rw [if_pos hq] at this
      exact this
  have e1 : jn (d + 1) - (1 : Int32) = jn d := by rw [show (1 : Int32) = jn 1 from rfl, jn_sub (by omega)]; rfl
  simp only [jn0] at key
  simp only [zP_firstNearer, ds, ir_let, iq_sm, ir_sm, jzE, j10, Option.bind_some, ↓reduceIte, not_true_eq_false, not_false_eq_true, e1, key, jo_some]
theorem jc_soonestWord {I : iq_I} {m : jMu} (hm : mOk m) (hU : jRU I m) (hT : ∀ s, s < mS m → I 65 s = jo (sDs m s)) {s d i : Nat} (hs : s < mS m) (h : sDs m s = some d) (hi : i < d) :
    zP_soonestWord_l20 (jn i) I ir_F (jn s, jn 0) = some (jn (sAt m s i)) ∧ zP_firstNearer (jn (sAt m s i)) I = some (jo (sPk m (sAt m s i))) := by
  have hd := sDs_lt hm h
  have step : ∀ k, k < d → zP_firstNearer (jn (sAt m s k)) I = some (jo (sPk m (sAt m s k))) := fun k hk => by
    obtain ⟨h1, h2⟩ := sAt_ok hm hs h k (by omega)
    rw [show d - k = d - (k + 1) + 1 by omega] at h2
    exact jc_firstNearer hm hU hT h1 h2
  refine ⟨?_, step i hi⟩
  refine js_seq (fun k => (jn (sAt m s k), jn k)) i _ (fun k hk => ?_) ?_ i 0 ir_F (by omega) (by unfold ir_F; omega)
  · obtain ⟨h1, h2⟩ := sAt_ok hm hs h k (by omega)
    rw [show d - k = d - (k + 1) + 1 by omega] at h2
    obtain ⟨w, t, p1, p2, p3, p4, p5, _⟩ := sPk_ok hm h1 h2
    have e : sAt m s (k + 1) = t := by
      show ((sPk m (sAt m s k)).bind (mLd m (sAt m s k))).getD 0 = t
      rw [p1, Option.bind_some, p3]; rfl
    have st := step k (by omega)
    rw [p1, jo_some] at st
    have lt := jc_leadsTo hm hU h1 p2
    rw [p3, jo_some] at lt
    dsimp only
    rw [e]
    unfold zP_soonestWord_l20_b
    rw [if_neg (by rw [jn_le (by omega) (by omega)]; omega), if_neg (by rw [show (10 : Int32) = jn 10 from rfl, jn_le (by omega) (by omega)]; omega), st, Option.bind_some, lt, Option.bind_some, show (1 : Int32) = jn 1 from rfl, jn_add]
  · dsimp only
    unfold zP_soonestWord_l20_b
    rw [if_pos (by rw [jn_le (by omega) (by omega)]; omega)]
theorem jm_b88 {I : iq_I} {x2 x5 : Int32} {s k t a b : Nat} (hs : s < 10) (ht : t < 10) (ha : a ≤ 99) (hb : b ≤ 99) (hk : k < 14) (lt : zM_leads (jn s) (jn k) I = some (jn t)) (ca : I 103 t = jn a) (cb : I 103 s = jn b) :
    zM_soonest_l88_b x2 (jn s) x5 I (jn k) = some (if a + 1 = b then .inr (jn k) else .inl (jn (k + 1))) := by
  by_cases q : a + 1 = b
  · rw [if_pos q]
    simp (disch := omega) only [zM_soonest_l88_b, lt, ca, cb, ir_let, jn_lt, jn_le, jn_in, jn_inj, jn_ne_m, jm_ne_n, jm_eq_m, jm_lt, jm_le, jn_lt_m, jn_le_m, jn_add, jn_mul, jn_clamp, jo_some, jn_min, jn_max, ↓jlm, jl0, jl1, jl2, jl3, jl4, jl5, jl6, jl7, jl8, jl9, jl10, jl11, jl12, jl13, jl14, jl15, jl16, jl20, jl24, jl32, jl39, jl40, jl41, jl60, jl61, jl80, jl96, jl97, jl99, jl100, jl122, jl126, jl199, jl200, jl205, jl206, jl255, jl256, jl410, jl700, jl950, jl1000, jl1000000, jl4000, jl8240, jl32767, if_pos, if_neg, ↓reduceIte, Option.bind_some, not_true_eq_false, not_false_eq_true, Nat.not_lt, Nat.not_le]
  · rw [if_neg q]
    simp (disch := omega) only [zM_soonest_l88_b, lt, ca, cb, ir_let, jn_lt, jn_le, jn_in, jn_inj, jn_ne_m, jm_ne_n, jm_eq_m, jm_lt, jm_le, jn_lt_m, jn_le_m, jn_add, jn_mul, jn_clamp, jo_some, jn_min, jn_max, ↓jlm, jl0, jl1, jl2, jl3, jl4, jl5, jl6, jl7, jl8, jl9, jl10, jl11, jl12, jl13, jl14, jl15, jl16, jl20, jl24, jl32, jl39, jl40, jl41, jl60, jl61, jl80, jl96, jl97, jl99, jl100, jl122, jl126, jl199, jl200, jl205, jl206, jl255, jl256, jl410, jl700, jl950, jl1000, jl1000000, jl4000, jl8240, jl32767, if_pos, if_neg, ↓reduceIte, Option.bind_some, not_true_eq_false, not_false_eq_true, Nat.not_lt, Nat.not_le]
theorem jm_near {I : iq_I} {m : jMu} {x2 x5 : Int32} (hm : mOk m) (hN : jRN I m) (hT : ∀ s, s < mS m → I 103 s = jn ((sDs m s).getD 99)) {s d : Nat} (hs : s < mS m) (h : sDs m s = some (d + 1)) :
    ∃ w t, sPk m s = some w ∧ w < mW m ∧ mLd m s w = some t ∧ zM_soonest_l88 x2 (jn s) x5 I ir_F (jn 0) = some (jn w) := by
  have h14 := hm.2.1
  have h10 := hm.1
  obtain ⟨w, t, p1, p2, p3, p4, p5, p6⟩ := sPk_ok hm hs h
  have b : ∀ t, (sDs m t).getD 99 ≤ 99 := fun t => getD_le (k := 99) (fun v hv => by have := sDs_lt hm hv; omega) (by omega)
  refine ⟨w, t, p1, p2, p3, ?_⟩
  have body : ∀ k, k < mW m → zM_soonest_l88_b x2 (jn s) x5 I (jn k) = some (if sQ m s k = true then .inr (jn k) else .inl (jn (k + 1))) := fun k hk => by
    have lt := jm_leads hm hN hs hk
    cases hr : mLd m s k with
    | none =>
      rw [hr] at lt
      have e : sQ m s k = false := by simp [sQ, hr]
      rw [if_neg (by simp [e])]
      unfold zM_soonest_l88_b
      rw [lt, Option.bind_some, if_pos (show jo none = -1 from rfl), show (1 : Int32) = jn 1 from rfl, jn_add]
    | some t' =>
      have ht := mLd_lt hm hs hk hr
      rw [hr] at lt
      have := jm_b88 (x2 := x2) (x5 := x5) (show s < 10 by omega) (show t' < 10 by omega) (b t') (b s) (show k < 14 by omega) lt (hT t' ht) (hT s hs)
      rw [this]
      have e : (sQ m s k = true) = ((sDs m t').getD 99 + 1 = (sDs m s).getD 99) := by
        unfold sQ
        rw [hr]
        simp
      by_cases q : (sDs m t').getD 99 + 1 = (sDs m s).getD 99
      · rw [if_pos q, if_pos (by rw [e]; exact q)]
      · rw [if_neg q, if_neg (by rw [e]; exact q)]
  refine js_seq (fun k => jn k) w _ (fun k hk => ?_) ?_ w 0 ir_F (by omega) (by unfold ir_F; omega)
  · have := body k (by omega)
    rw [if_neg (by simp [p6 k hk])] at this
    exact this
  · have := body w p2
    have hq : sQ m s w = true := by
      simp only [sQ, p3, p5, h, Option.getD_some]; simp
    rw [if_pos hq] at this
    exact this
theorem jm_so70 {I : iq_I} {m : jMu} (hm : mOk m) (hN : jRN I m) (hT : ∀ s, s < mS m → I 103 s = jn ((sDs m s).getD 99)) {s d i : Nat} (hs : s < mS m) (h : sDs m s = some d) (hi2 : i < 2147483648) :
    zM_soonest_l70 (jn i) I ir_F (jn s, jn 0) = some (if i < d then .inr (jo (sPk m (sAt m s i)), I) else .inl ()) := by
  have hd := sDs_lt hm h
  have h10 := hm.1
  have h14 := hm.2.1
  have body : ∀ k, k < d → k ≤ i → zM_soonest_l70_b (jn i) I (jn (sAt m s k)) (jn k) = some (if k = i then .inr (.inr (jo (sPk m (sAt m s k)), I)) else .inl (jn (sAt m s (k + 1)), jn (k + 1))) := fun k hk hki => by
    obtain ⟨h1, h2⟩ := sAt_ok hm hs h k (by omega)
    rw [show d - k = d - (k + 1) + 1 by omega] at h2
    have cell := hT _ h1
    rw [h2, Option.getD_some] at cell
    obtain ⟨w, t, p1, p2, p3, p4⟩ := jm_near (x2 := jn i) (x5 := jn k) hm hN hT h1 h2
    have e : sAt m s (k + 1) = t := by
      show ((sPk m (sAt m s k)).bind (mLd m (sAt m s k))).getD 0 = t
      rw [p1, Option.bind_some, p3]; rfl
    have lt := jm_leads hm hN h1 p2
    rw [p3, jo_some] at lt
    rw [e, p1, jo_some]
    simp only [jn0] at p4
    by_cases q : k = i
    · subst q
      have e1 : (if k = k then (.inr (.inr (jn w, I)) : (Int32 × Int32) ⊕ (Unit ⊕ (Int32 × iq_I))) else .inl (jn t, jn (k + 1))) = .inr (.inr (jn w, I)) := if_pos rfl
      rw [e1]
      simp (disch := omega) only [zM_soonest_l70_b, jn_lt, if_neg, if_pos, jn_in, jn_clamp, cell, jl0, jn_le]
      rw [show (jn 0) = (0 : Int32) from rfl, p4, Option.bind_some, lt, Option.bind_some]
      simp only [not_true_eq_false, ↓reduceIte]
    · rw [if_neg q]
      have ne : ¬ jn k = jn i := by rw [jn_inj (by omega) (by omega)]; exact q
      simp (disch := omega) only [zM_soonest_l70_b, jn_lt, if_neg, if_pos, jn_in, jn_clamp, cell, jl0, jn_le]
      rw [show (jn 0) = (0 : Int32) from rfl, p4, Option.bind_some, lt, Option.bind_some, show (1 : Int32) = jn 1 from rfl, jn_add]
  by_cases hid : i < d
  · rw [if_pos hid]
    refine js_seq (fun k => (jn (sAt m s k), jn k)) i _ (fun k hk => ?_) ?_ i 0 ir_F (by omega) (by unfold ir_F; omega)
    · have := body k (by omega) (by omega)
      rw [if_neg (by omega)] at this
      exact this
    · have := body i hid (Nat.le_refl _)
      rw [if_pos (Eq.refl i)] at this
      exact this
  · rw [if_neg hid]
    refine js_seq (fun k => (jn (sAt m s k), jn k)) d _ (fun k hk => ?_) ?_ d 0 ir_F (by omega) (by unfold ir_F; omega)
    · have := body k hk (by omega)
      rw [if_neg (by omega)] at this
      exact this
    · obtain ⟨h1, h2⟩ := sAt_ok hm hs h d (Nat.le_refl _)
      have cell := hT _ h1
      rw [h2, Option.getD_some, Nat.sub_self] at cell
      dsimp only
      simp (disch := omega) only [zM_soonest_l70_b, jn_lt, if_neg, if_pos, jn_in, jn_clamp, cell, jl0, jn_le]
theorem jq_soonest {I : iq_I} (hI : jInv I) (x z : Int32) (X : iq_X) : ∃ r I1 X1 b I2, zO_soonest x z I X = some (r, I1, X1) ∧ zM_soonest x z I1 = some (b, I2) ∧ jag I I1 ∧ jag I I2 ∧ jXo X X1 ∧ jAns r b (I2 76 0) := by
  obtain ⟨m, g, hm, hU, hN, hB, -, -⟩ := hI
  have h10 := hm.1
  by_cases hx : ∃ s, s < mS m ∧ x = jn s
  · obtain ⟨s, hs, rfl⟩ := hx
    by_cases he : z < -1
    · refine jmkE ?_ ?_
      · simp only [zO_soonest, jc_needState1 hm hU hs, jc_none0 he, ir_let, iq_sm, ir_sm, jzE, j10, Option.bind_some, ↓reduceIte, not_true_eq_false, not_false_eq_true]
      · simp only [zM_soonest, zM_soonest_24, jm_isState1 hm hN hs, ir_let, iq_sm, ir_sm, jzE, j10, Option.bind_some, ↓reduceIte, not_true_eq_false, not_false_eq_true, he, jm_right0 (I := I) (c := 1) (x := 0) rfl (show ¬ (1 : Int32) = 0 by decide)]
    · obtain ⟨I1, e1, a1, hT⟩ := jc_measure hm hU (by omega)
      have hU1 := jRU_ag hU a1
      have hN0 := jRN_ag hN a1
      have hN1 := jRN_ag hN0 (jz_ag I1)
      obtain ⟨I2, e2, a2, t2, hT2⟩ := jm_measures hm hN1
      have t2 : I2 76 0 = 0 := t2
      have ds := jc_dist hm hU1 hT hs
      have r1 := jm_right1 (I := I1) (c := 1) (x := 1) rfl
      have cell := hT2 s hs
      have is : iq_in (jn s) 10 := by rw [jn_in (by omega)]; omega
      have cl := jn_clamp (show s < 2147483648 by omega)
      rcases jm1_cases z with h | h | ⟨i, hi, rfl⟩
      · exact absurd h he
      · subst h
        refine ⟨.inl (jo (sDs m s)), I1, X, jo (sDs m s), I2, ?_, ?_, a1, jag_tr a1 (jag_tr (jz_ag I1) a2), Or.inl rfl, Or.inl ⟨_, rfl, rfl, t2⟩⟩
        · simp only [zO_soonest, zP_soonestEnd, jc_needState1 hm hU hs, jc_none1 he, ir_let, iq_sm, ir_sm, jzE, j10, Option.bind_some, ↓reduceIte, not_true_eq_false, not_false_eq_true, e1, ds]
        · cases h : sDs m s with
          | none =>
            rw [h, Option.getD_none] at cell
            simp only [zM_soonest, zM_soonest_24, jm_isState1 hm hN0 hs, ir_let, iq_sm, ir_sm, jzE, j10, Option.bind_some, ↓reduceIte, not_true_eq_false, not_false_eq_true, he, r1, e2, if_pos is, cl, cell, show ¬ jn 99 < (99 : Int32) by decide]
            rfl
          | some d =>
            have hd := sDs_lt hm h
            rw [h, Option.getD_some] at cell
            have d1 : jn d < (99 : Int32) := by rw [show (99 : Int32) = jn 99 from rfl, jn_lt (by omega) (by omega)]; omega
            simp only [zM_soonest, zM_soonest_24, jm_isState1 hm hN0 hs, ir_let, iq_sm, ir_sm, jzE, j10, Option.bind_some, ↓reduceIte, not_true_eq_false, not_false_eq_true, he, r1, e2, if_pos is, cl, cell, d1, jo_some]
      · have ne : ¬ jn i = (-1 : Int32) := jn_ne hi (by decide)
        cases h : sDs m s with
        | none =>
          rw [h] at ds
          rw [h, Option.getD_none] at cell
          have d0 : ¬ jn i < jo none := by rw [jn_lt_m hi]; simp
          refine ⟨.inl (-1), I1, X, -1, I2, ?_, ?_, a1, jag_tr a1 (jag_tr (jz_ag I1) a2), Or.inl rfl, Or.inl ⟨_, rfl, rfl, t2⟩⟩
          · simp only [zO_soonest, zP_soonestWord, jc_needState1 hm hU hs, jc_none1 he, ir_let, iq_sm, ir_sm, jzE, j10, Option.bind_some, ↓reduceIte, not_true_eq_false, not_false_eq_true, e1, ds, ne, d0]
          · simp only [zM_soonest, zM_soonest_24, jm_isState1 hm hN0 hs, ir_let, iq_sm, ir_sm, jzE, j10, Option.bind_some, ↓reduceIte, not_true_eq_false, not_false_eq_true, he, r1, e2, if_pos is, cl, cell, show ¬ jn 99 < (99 : Int32) by decide]
        | some d =>
          have hd := sDs_lt hm h
          rw [h, jo_some] at ds
          rw [h, Option.getD_some] at cell
          have d1 : jn d < (99 : Int32) := by rw [show (99 : Int32) = jn 99 from rfl, jn_lt (by omega) (by omega)]; omega
          by_cases hid : i < d
          · have k0 := jm_so70 hm (jRN_ag hN1 a2) hT2 hs h hi
            rw [if_pos hid] at k0
            obtain ⟨k1, k2⟩ := jc_soonestWord hm hU1 hT hs h hid
            simp only [jn0] at k0 k1
            have d0 : jn i < jn d := by rw [jn_lt hi (by omega)]; exact hid
            refine ⟨.inl (jo (sPk m (sAt m s i))), I1, X, jo (sPk m (sAt m s i)), I2, ?_, ?_, a1, jag_tr a1 (jag_tr (jz_ag I1) a2), Or.inl rfl, Or.inl ⟨_, rfl, rfl, t2⟩⟩
            · simp only [zO_soonest, zP_soonestWord, zP_soonestWord_53, jc_needState1 hm hU hs, jc_none1 he, ir_let, iq_sm, ir_sm, jzE, j10, Option.bind_some, ↓reduceIte, not_true_eq_false, not_false_eq_true, e1, ds, ne, d0, k1, k2]
            · simp only [zM_soonest, zM_soonest_24, jm_isState1 hm hN0 hs, ir_let, iq_sm, ir_sm, jzE, j10, Option.bind_some, ↓reduceIte, not_true_eq_false, not_false_eq_true, he, r1, e2, if_pos is, cl, cell, d1, ne, k0]
          · have d0 : ¬ jn i < jn d := by rw [jn_lt hi (by omega)]; exact hid
            have k0 : zM_soonest_l70 (jn i) I2 ir_F (jn s, (0 : Int32)) = some (.inl ()) := by
              have k0 := jm_so70 hm (jRN_ag hN1 a2) hT2 hs h hi
              rw [if_neg hid] at k0
              exact k0
            refine ⟨.inl (-1), I1, X, -1, I2, ?_, ?_, a1, jag_tr a1 (jag_tr (jz_ag I1) a2), Or.inl rfl, Or.inl ⟨_, rfl, rfl, t2⟩⟩
            · simp only [zO_soonest, zP_soonestWord, jc_needState1 hm hU hs, jc_none1 he, ir_let, iq_sm, ir_sm, jzE, j10, Option.bind_some, ↓reduceIte, not_true_eq_false, not_false_eq_true, e1, ds, ne, d0]
            · simp only [zM_soonest, zM_soonest_24, jm_isState1 hm hN0 hs, ir_let, iq_sm, ir_sm, jzE, j10, Option.bind_some, ↓reduceIte, not_true_eq_false, not_false_eq_true, he, r1, e2, if_pos is, cl, cell, d1, ne, k0]
  · refine jmkE ?_ ?_
    · simp only [zO_soonest, jc_needState0 hm hU hx, ir_let, iq_sm, ir_sm, jzE, j10, Option.bind_some, ↓reduceIte, not_true_eq_false, not_false_eq_true]
    · simp only [zM_soonest, jm_isState0 hm hN hx, ir_let, iq_sm, ir_sm, jzE, j10, Option.bind_some, ↓reduceIte, not_true_eq_false, not_false_eq_true]
