/-! ===== lines: word, second half ===== -/
def mWd1 (m : jMu) (l k : Nat) (T : Nat → Int32) : jMu := (mS m, mW m + 1, mA m, mE m, (fun w => if w = mW m then l else mL m w), (fun w => if w = mW m then k else mK m w), (fun w i => if w = mW m then T i else mT m w i), mR m, mP m, mV m, mH m, mC m)
theorem mWd_L {m : jMu} {l k : Nat} {T : Nat → Int32} {w : Nat} : mL (mWd1 m l k T) w = if w = mW m then l else mL m w := rfl
theorem mWd_K {m : jMu} {l k : Nat} {T : Nat → Int32} {w : Nat} : mK (mWd1 m l k T) w = if w = mW m then k else mK m w := rfl
theorem mWd_T {m : jMu} {l k : Nat} {T : Nat → Int32} {w i : Nat} : mT (mWd1 m l k T) w i = if w = mW m then T i else mT m w i := rfl
theorem dOk_wd {m : jMu} {g : jGa} {l k : Nat} {T : Nat → Int32} (h : dOk m g) (hW : mW m < 14) (hl : l ≤ 9) (hl1 : 1 ≤ l) (hk : k < 8) : dOk (mWd1 m l k T) g := by
  obtain ⟨⟨a1, a2, a3, a4, a5, a6, a7, a8⟩, ⟨b1, b2, b3, b4, b5⟩, c, d, A⟩ := h
  refine ⟨⟨a1, hW, fun w hw => ?_, a4, a5, a6, a7, a8⟩, ⟨b1, b2, b3, fun s i hs hi => Nat.lt_succ_of_lt (b4 s i hs hi), b5⟩, c, d, A⟩
  have hw : w < mW m + 1 := hw
  rw [mWd_L, mWd_K]
  by_cases e : w = mW m
  · rw [if_pos e, if_pos e]; exact ⟨hl, hl1, hk⟩
  · rw [if_neg e, if_neg e]; exact a3 w (by omega)
theorem jcn_ext {n : Nat} {P Q : Nat → Bool} (h : ∀ j, j < n → P j = Q j) : jcn n P = jcn n Q := Nat.le_antisymm (jcn_mono fun j hj e => by rw [← h j hj]; exact e) (jcn_mono fun j hj e => by rw [h j hj]; exact e)
theorem mWd_cn {m : jMu} {l k : Nat} {T : Nat → Int32} {j : Nat} : (jcn (mW (mWd1 m l k T)) fun w => decide (mK (mWd1 m l k T) w = j)) = (jcn (mW m) fun w => decide (mK m w = j)) + (if k = j then 1 else 0) := by
  have e : (jcn (mW m) fun w => decide (mK (mWd1 m l k T) w = j)) = (jcn (mW m) fun w => decide (mK m w = j)) := jcn_ext fun w hw => by
    rw [mWd_K, if_neg (by omega)]
  show jcn (mW m + 1) _ = _
  by_cases c : k = j
  · rw [if_pos c, jcnS1 (decide_eq_true (by rw [mWd_K, if_pos rfl]; exact c)), e]
  · rw [if_neg c, jcnS0 (decide_eq_false (by rw [mWd_K, if_pos rfl]; exact c)), e]; rfl
theorem mWd_told {m : jMu} {l k : Nat} {T : Nat → Int32} (hk : k < 8) : jb 8 (mTold m) ||| ((1 : Int32) <<< (jn k &&& 31)) = jb 8 (mTold (mWd1 m l k T)) := by
  rw [jb_one hk (by omega), jb_or (by omega)]
  refine jb_ext fun j _ => ?_
  unfold mTold
  show (jex (mW m) (fun w => decide (mK m w = j)) || decide (j = k)) = jex (mW m + 1) _
  rw [jex_s]
  have e : jex (mW m) (fun w => decide (mK (mWd1 m l k T) w = j)) = jex (mW m) fun w => decide (mK m w = j) := jex_cg fun w hw => by
    rw [mWd_K, if_neg (by omega)]
  rw [e, mWd_K, if_pos rfl]
  congr 1
  by_cases c : j = k
  · rw [decide_eq_true c, decide_eq_true c.symm]
  · rw [decide_eq_false c, decide_eq_false (fun h => c h.symm)]
theorem jc_putLetters {I : iq_I} {f : Nat → Nat} {n p : Nat} {m : jMu} {C : Nat → Bool} {g : jGa} {sz : Nat} (hm : mOk m) (hW : mW m < 14) (h : DC I f n p m C g sz) (t : tt f n p = 1) (l9 : tz f n p - ta f n p ≤ 9) :
    ∃ K, zR_readWord_l77 (jn (tz f n p - ta f n p)) ir_F ((0 : Int32), I) = some K ∧ DC K f n p m C g sz ∧ (∀ i, i < tz f n p - ta f n p → K 47 (mW m * 9 + i) = jn (f (ta f n p + i) - 96)) ∧ frC I K := by
  have hn := h.1.1.1
  obtain ⟨K, e, k1, k2, k3⟩ : ∃ K, zR_readWord_l77 (jn (tz f n p - ta f n p)) ir_F ((0 : Int32), I) = some K ∧ (∀ k j, ¬ k = 47 → K k j = I k j) ∧ (∀ j, j < mW m * 9 → K 47 j = I 47 j) ∧ (∀ i, i < tz f n p - ta f n p → K 47 (mW m * 9 + i) = jn (f (ta f n p + i) - 96)) := by
    refine js_inv (fun i v => v.1 = jn i ∧ (∀ k j, ¬ k = 47 → v.2 k j = I k j) ∧ (∀ j, j < mW m * 9 → v.2 47 j = I 47 j) ∧ (∀ j, j < i → v.2 47 (mW m * 9 + j) = jn (f (ta f n p + j) - 96))) (tz f n p - ta f n p) _ ?_ ?_ (tz f n p - ta f n p) 0 ((0 : Int32), I) ir_F (by omega) ⟨rfl, fun _ _ _ => rfl, fun _ _ => rfl, fun j hj => by omega⟩ (by unfold ir_F; omega)
    · rintro i ⟨x, K⟩ hi ⟨h1, h2, h3, h4⟩
      simp only at h1 h2 h3 h4
      subst h1
      have cK : CL K f n p := CL_f h.1 (fun j => h2 _ _ (by decide)) (fun j => h2 _ _ (by decide))
      refine ⟨(jn (i + 1), iq_upI K 47 (mW m * 9 + i) (jn (f (ta f n p + i) - 96))), ?_, rfl, fun k j hk => ?_, fun j hj => ?_, fun j hj => ?_⟩
      · dsimp only
        unfold zR_readWord_l77_b zU_putLetter
        rw [if_neg (by rw [jn_le (by omega) (by omega)]; omega), jc_letterNumber cK t hi, Option.bind_some, h2 38 2 (by decide), h.2.1.2.2.1, if_neg (by rw [jl0, jn_lt (by omega) (by omega)]; omega), if_neg (by rw [jl14, jn_le (by omega) (by omega)]; omega), if_neg (by rw [jl0, jn_lt (by omega) (by omega)]; omega), if_neg (by rw [jl9, jn_le (by omega) (by omega)]; omega), jl9, jn_mul, jn_add, if_pos (by rw [jn_in (by omega)]; omega), jn_clamp (by omega), ir_let, Option.bind_some, show jn i + (1 : Int32) = jn (i + 1) from jn_add _ 1]
      · show iq_upI K 47 _ _ k j = _
        rw [up_nk hk, h2 k j hk]
      · show iq_upI K 47 _ _ 47 j = _
        rw [up_ni (by omega), h3 j hj]
      · show iq_upI K 47 _ _ 47 _ = _
        by_cases e : j = i
        · subst e; rw [up_eq]
        · rw [up_ni (by omega), h4 j (by omega)]
    · rintro ⟨x, K⟩ ⟨h1, h2, h3, h4⟩
      simp only at h1 h2 h3 h4
      subst h1
      refine ⟨K, ?_, h2, h3, h4⟩
      dsimp only
      unfold zR_readWord_l77_b
      rw [if_pos (by rw [jn_le (by omega) (by omega)]; omega)]
  obtain ⟨hC, hU, hG⟩ := h
  obtain ⟨h1, h2, h3, h4, h5, h6, h7, h8, h9, h10, h11, h12, h13, h14, h15, h16, h17⟩ := hU
  refine ⟨K, e, ⟨CL_f hC (fun j => k1 _ _ (by decide)) (fun j => k1 _ _ (by decide)), ⟨by rw [k1 _ _ (by omega), h1], by rw [k1 _ _ (by omega), h2], by rw [k1 _ _ (by omega), h3], by rw [k1 _ _ (by omega), h4], by rw [k1 _ _ (by omega), h5], by rw [k1 _ _ (by omega), h6], fun w hw => by rw [k1 _ _ (by omega), h7 w hw], fun w hw => by rw [k1 _ _ (by omega), h8 w hw], fun k hk => by rw [k1 _ _ (by omega), h9 k hk], fun w i hw hi => ?_, fun s k hs hk => by rw [k1 _ _ (by omega), h11 s k hs hk], fun k hk => by rw [k1 _ _ (by omega), h12 k hk], by rw [k1 _ _ (by omega), h13], by rw [k1 _ _ (by omega), h14], fun v hv => ?_, fun c hc => ?_, by rw [k1 _ _ (by omega), h17]⟩, dG_f hG fun k j q => k1 k j (by omega)⟩, k3, fun k j q => k1 k j (by omega)⟩
  · have l := (hm.2.2.1 w hw).1
    rw [k2 _ (by omega), h10 w i hw hi]
  · obtain ⟨x, q1, q2, q3, q4⟩ := h15 v hv
    exact ⟨x, by rw [k1 _ _ (by omega), q1], by rw [k1 _ _ (by omega), q2], q3, fun i hi => by rw [k1 _ _ (by omega), q4 i hi]⟩
  · obtain ⟨x, q1, q2, q3, q4⟩ := h16 c hc
    exact ⟨x, by rw [k1 _ _ (by omega), q1], by rw [k1 _ _ (by omega), q2], q3, fun i hi => by rw [k1 _ _ (by omega), q4 i hi]⟩
theorem jc_putWord {I : iq_I} {f : Nat → Nat} {n q : Nat} {m : jMu} {C : Nat → Bool} {g : jGa} {sz l k : Nat} {T : Nat → Int32} (hW : mW m < 14) (h : DC I f n q m C g sz) (hk : k < 8) (hl : l ≤ 9) (hT : ∀ i, i < l → I 47 (mW m * 9 + i) = T i) : ∃ I', zU_putWord (jn l) (jn k) I = some I' ∧ DC I' f n q (mWd1 m l k T) C g sz ∧ frC I I' := by
  obtain ⟨hC, hU, hG⟩ := h
  obtain ⟨h1, h2, h3, h4, h5, h6, h7, h8, h9, h10, h11, h12, h13, h14, h15, h16, h17⟩ := hU
  have cb : (jcn (mW m) fun w => decide (mK m w = k)) ≤ mW m := jcn_le
  let I' : iq_I := iq_upI (iq_upI (iq_upI (iq_upI (iq_upI I 39 (mW m) (jn l)) 40 (mW m) (jn k)) 41 k (jn ((jcn (mW m) fun w => decide (mK m w = k)) + 1))) 38 4 (jb 8 (mTold (mWd1 m l k T)))) 38 2 (jn (mW m + 1))
  have fr : ∀ a j, ¬ a = 38 → ¬ a = 39 → ¬ a = 40 → ¬ a = 41 → I' a j = I a j := fun a j q1 q2 q3 q4 => by
    show iq_upI _ 38 2 _ a j = _
    rw [up_nk q1, up_nk q1, up_nk q4, up_nk q3, up_nk q2]
  have f38 : ∀ j, ¬ j = 2 → ¬ j = 4 → I' 38 j = I 38 j := fun j q1 q2 => by
    show iq_upI _ 38 2 _ 38 j = _
    rw [up_ni q1, up_ni q2, up_nk (by decide), up_nk (by decide), up_nk (by decide)]
  refine ⟨I', ?_, ⟨CL_f hC (fun j => fr _ _ (by decide) (by decide) (by decide) (by decide)) (fun j => fr _ _ (by decide) (by decide) (by decide) (by decide)), ⟨by rw [f38 _ (by decide) (by decide)]; exact h1, by rw [f38 _ (by decide) (by decide)]; exact h2, ?_, by rw [f38 _ (by decide) (by decide)]; exact h4, ?_, by rw [f38 _ (by decide) (by decide)]; exact h6, fun w hw => ?_, fun w hw => ?_, fun j hj => ?_, fun w i hw hi => ?_, fun s k hs hk => by rw [fr _ _ (by decide) (by decide) (by decide) (by decide)]; exact h11 s k hs hk, fun k hk => by rw [fr _ _ (by decide) (by decide) (by decide) (by decide)]; exact h12 k hk, by rw [fr _ _ (by decide) (by decide) (by decide) (by decide)]; exact h13, by rw [fr _ _ (by decide) (by decide) (by decide) (by decide)]; exact h14, fun v hv => ?_, fun c hc => ?_, by rw [fr _ _ (by decide) (by decide) (by decide) (by decide)]; exact h17⟩, dG_f hG fun a j c => fr a j (by omega) (by omega) (by omega) (by omega)⟩, frC_up (frC_up (frC_up (frC_up (frC_up (frC_rf I) (by omega)) (by omega)) (by omega)) (by omega)) (by omega)⟩
  · unfold zU_putWord
    simp (disch := omega) only [h3, up_nkx 38 39 (by decide), up_nkx 38 40 (by decide), up_nkx 38 41 (by decide), up_nkx 41 39 (by decide), up_nkx 41 40 (by decide), up_nix 2 4 (by decide), h9 k hk, h5, ir_let, jn_lt, jn_le, jn_in, jn_inj, jn_ne_m, jm_ne_n, jm_eq_m, jm_lt, jm_le, jn_lt_m, jn_le_m, jn_add, jn_mul, jn_clamp, jo_some, jn_min, jn_max, ↓jlm, jl0, jl1, jl2, jl3, jl4, jl5, jl6, jl7, jl8, jl9, jl10, jl11, jl12, jl13, jl14, jl15, jl16, jl20, jl24, jl32, jl39, jl40, jl41, jl60, jl61, jl80, jl96, jl97, jl99, jl100, jl122, jl126, jl199, jl200, jl205, jl206, jl255, jl256, jl410, jl700, jl950, jl1000, jl1000000, jl4000, jl8240, jl32767, if_pos, if_neg, ↓reduceIte, Option.bind_some, not_true_eq_false, not_false_eq_true, Nat.not_lt, Nat.not_le]
    rw [show jb 8 (mTold m) ||| (jn 1 <<< (jn k &&& 31)) = jb 8 (mTold (mWd1 m l k T)) from mWd_told hk]
  · show iq_upI _ 38 2 _ 38 2 = _
    rw [up_eq]; rfl
  · show iq_upI _ 38 2 _ 38 4 = _
    rw [up_ni (by decide), up_eq]
  · have hw : w < mW m + 1 := hw
    rw [mWd_L]
    show iq_upI _ 38 2 _ 39 w = _
    rw [up_nk (by decide), up_nk (by decide), up_nk (by decide), up_nk (by decide)]
    by_cases e : w = mW m
    · rw [if_pos e, e, up_eq]
    · rw [if_neg e, up_ni e, h7 w (by omega)]
  · have hw : w < mW m + 1 := hw
    rw [mWd_K]
    show iq_upI _ 38 2 _ 40 w = _
    rw [up_nk (by decide), up_nk (by decide), up_nk (by decide)]
    by_cases e : w = mW m
    · rw [if_pos e, e, up_eq]
    · rw [if_neg e, up_ni e, up_nk (by decide), h8 w (by omega)]
  · rw [mWd_cn]
    show iq_upI _ 38 2 _ 41 j = _
    rw [up_nk (by decide), up_nk (by decide)]
    by_cases e : k = j
    · subst e; rw [if_pos rfl, up_eq]
    · rw [if_neg e, up_ni (fun h => e h.symm), up_nk (by decide), up_nk (by decide), h9 j hj]; rfl
  · have hw : w < mW m + 1 := hw
    rw [mWd_L] at hi
    rw [mWd_T, fr _ _ (by decide) (by decide) (by decide) (by decide)]
    by_cases e : w = mW m
    · rw [if_pos e] at hi
      rw [if_pos e, e, hT i hi]
    · rw [if_neg e] at hi
      rw [if_neg e, h10 w i (by omega) hi]
  · obtain ⟨x, q1, q2, q3, q4⟩ := h15 v hv
    exact ⟨x, by rw [fr _ _ (by decide) (by decide) (by decide) (by decide)]; exact q1, by rw [fr _ _ (by decide) (by decide) (by decide) (by decide)]; exact q2, q3, fun i hi => by rw [fr _ _ (by decide) (by decide) (by decide) (by decide)]; exact q4 i hi⟩
  · obtain ⟨x, q1, q2, q3, q4⟩ := h16 c hc
    exact ⟨x, by rw [fr _ _ (by decide) (by decide) (by decide) (by decide)]; exact q1, by rw [fr _ _ (by decide) (by decide) (by decide) (by decide)]; exact q2, q3, fun i hi => by rw [fr _ _ (by decide) (by decide) (by decide) (by decide)]; exact q4 i hi⟩
theorem jm_putLetters {I : iq_I} {J J' : iq_J} {f : Nat → Nat} {n p : Nat} {m : jMu} {C : Nat → Bool} {g : jGa} {tp : Nat} (hm : mOk m) (hW : mW m < 14) (h : DM I J f n p m C g tp) (t : tt f n p = 1) (l9 : tz f n p - ta f n p ≤ 9) :
    ∃ K, zM_readsWord_l114 (jn (mW m)) J' ir_F ((0 : Int32), iq_upI I 88 (mW m) (jn (tz f n p - ta f n p))) = some K ∧ DM K J f n p m C g tp ∧ K 88 (mW m) = jn (tz f n p - ta f n p) ∧ (∀ i, i < tz f n p - ta f n p → K 87 (9 * mW m + i) = jn (f (ta f n p + i) - 96)) ∧ jgm I K := by
  have hn := h.1.1.1
  have f0 : ∀ k j, ¬ (k = 88 ∧ j = mW m) → iq_upI I 88 (mW m) (jn (tz f n p - ta f n p)) k j = I k j := fun k j q => by
    by_cases c : k = 88
    · subst c; rw [up_ni (by omega)]
    · rw [up_nk c]
  obtain ⟨K, e, k1, k2, k3⟩ : ∃ K, zM_readsWord_l114 (jn (mW m)) J' ir_F ((0 : Int32), iq_upI I 88 (mW m) (jn (tz f n p - ta f n p))) = some K ∧ (∀ k j, ¬ k = 87 → K k j = iq_upI I 88 (mW m) (jn (tz f n p - ta f n p)) k j) ∧ (∀ j, j < 9 * mW m → K 87 j = I 87 j) ∧ (∀ i, i < tz f n p - ta f n p → K 87 (9 * mW m + i) = jn (f (ta f n p + i) - 96)) := by
    refine js_inv (fun i v => v.1 = jn i ∧ (∀ k j, ¬ k = 87 → v.2 k j = iq_upI I 88 (mW m) (jn (tz f n p - ta f n p)) k j) ∧ (∀ j, j < 9 * mW m → v.2 87 j = I 87 j) ∧ (∀ j, j < i → v.2 87 (9 * mW m + j) = jn (f (ta f n p + j) - 96))) (tz f n p - ta f n p) _ ?_ ?_ (tz f n p - ta f n p) 0 ((0 : Int32), iq_upI I 88 (mW m) (jn (tz f n p - ta f n p))) ir_F (by omega) ⟨rfl, fun _ _ _ => rfl, fun j hj => by show iq_upI I 88 (mW m) (jn (tz f n p - ta f n p)) 87 j = _; rw [f0 _ _ (by omega)], fun j hj => by omega⟩ (by unfold ir_F; omega)
    · rintro i ⟨x, K⟩ hi ⟨h1, h2, h3, h4⟩
      simp only at h1 h2 h3 h4
      subst h1
      have l := tw_le h.1.2.1 t i hi
      have k25 : K 76 25 = jn (tz f n p - ta f n p) := by rw [h2 _ _ (by decide), f0 _ _ (by omega), h.1.2.2.2.2.2.2.1]
      have k24 : K 76 24 = jn (ta f n p) := by rw [h2 _ _ (by decide), f0 _ _ (by omega), h.1.2.2.2.2.2.1]
      have tz1 := tz_sp (f := f) h.1.2.1
      have b := jm_byteAt (I := K) (i := ta f n p + i) (jTx_f h.1.1 fun j => by rw [h2 _ _ (by decide), f0 _ _ (by omega)]) (by rw [h2 _ _ (by decide), f0 _ _ (by omega), h.1.2.2.1]) (by omega)
      rw [if_pos (by omega)] at b
      refine ⟨(jn (i + 1), iq_upI K 87 (9 * mW m + i) (jn (f (ta f n p + i) - 96))), ?_, rfl, fun k j hk => ?_, fun j hj => ?_, fun j hj => ?_⟩
      · dsimp only
        unfold zM_readsWord_l114_b
        rw [k25, if_neg (by rw [jn_le (by omega) (by omega)]; omega), k24, jn_add, b, Option.bind_some, jl9, jn_mul, jn_add, if_pos (by rw [jn_in (by omega)]; omega), jn_clamp (by omega), jl96, jn_sub (by omega), ir_let, show jn i + (1 : Int32) = jn (i + 1) from jn_add _ 1]
      · show iq_upI K 87 _ _ k j = _
        rw [up_nk hk, h2 k j hk]
      · show iq_upI K 87 _ _ 87 j = _
        rw [up_ni (by omega), h3 j hj]
      · show iq_upI K 87 _ _ 87 _ = _
        by_cases e : j = i
        · subst e; rw [up_eq]
        · rw [up_ni (by omega), h4 j (by omega)]
    · rintro ⟨x, K⟩ ⟨h1, h2, h3, h4⟩
      simp only at h1 h2 h3 h4
      subst h1
      have k25 : K 76 25 = jn (tz f n p - ta f n p) := by rw [h2 _ _ (by decide), f0 _ _ (by omega), h.1.2.2.2.2.2.2.1]
      refine ⟨K, ?_, h2, h3, h4⟩
      dsimp only
      unfold zM_readsWord_l114_b
      rw [k25, if_pos (by rw [jn_le (by omega) (by omega)]; omega)]
  have c : ∀ k j, ¬ k = 87 → ¬ (k = 88 ∧ j = mW m) → K k j = I k j := fun k j q1 q2 => by rw [k1 k j q1, f0 k j q2]
  obtain ⟨a1, a2, ⟨h1, h2, h3, h4, h5, h6, h7, h8, h9, h10, h11, h12, h13, h14, h15⟩, a4⟩ := h
  refine ⟨K, e, ⟨ML_f a1 (fun j => c _ _ (by omega) (by omega)) (fun j _ _ => c _ _ (by omega) (by omega)) rfl, by rw [c _ _ (by omega) (by omega), a2], ⟨by rw [c _ _ (by omega) (by omega), h1], by rw [c _ _ (by omega) (by omega), h2], by rw [c _ _ (by omega) (by omega), h3], by rw [c _ _ (by omega) (by omega), h4], by rw [c _ _ (by omega) (by omega), h5], fun w hw => by rw [c _ _ (by omega) (by omega), h6 w hw], fun w hw => by rw [c _ _ (by omega) (by omega), h7 w hw], fun w i hw hi => ?_, fun s k hs hk => by rw [c _ _ (by omega) (by omega), h9 s k hs hk], fun k hk => by rw [c _ _ (by omega) (by omega), h10 k hk], by rw [c _ _ (by omega) (by omega), h11], fun v hv => ?_, fun e => by rw [c _ _ (by omega) (by omega), h13 e], fun d hd => ?_, by rw [c _ _ (by omega) (by omega), h15]⟩, dR_f a4 (c _ _ (by omega) (by omega)) (fun k j q => c _ _ (by omega) (by omega))⟩, by rw [k1 _ _ (by decide), up_eq], k3, fun k j hk => c k j (fun e => by subst e; cases hk) (fun e => by obtain ⟨rfl, -⟩ := e; cases hk)⟩
  · have l := (hm.2.2.1 w hw).1
    rw [k2 _ (by omega), h8 w i hw hi]
  · obtain ⟨x, q1, q2, q3⟩ := h12 v hv
    exact ⟨x, by rw [c _ _ (by omega) (by omega), q1], q2, fun i hi => by rw [c _ _ (by omega) (by omega), q3 i hi]⟩
  · obtain ⟨x, q1, q2, q3⟩ := h14 d hd
    exact ⟨x, by rw [c _ _ (by omega) (by omega), q1], q2, fun i hi => by rw [c _ _ (by omega) (by omega), q3 i hi]⟩
theorem jm_putWord {I : iq_I} {J : iq_J} {f : Nat → Nat} {n q : Nat} {m : jMu} {C : Nat → Bool} {g : jGa} {tp l k : Nat} {T : Nat → Int32} (h : DM I J f n q m C g tp) (h88 : I 88 (mW m) = jn l) (hT : ∀ i, i < l → I 87 (9 * mW m + i) = T i) : DM (iq_upI (iq_upI I 89 (mW m) (jn k)) 76 30 (jn (mW m + 1))) J f n q (mWd1 m l k T) C g tp := by
  have fr : ∀ a j, ¬ (a = 89 ∧ j = mW m) → ¬ (a = 76 ∧ j = 30) → iq_upI (iq_upI I 89 (mW m) (jn k)) 76 30 (jn (mW m + 1)) a j = I a j := fun a j q1 q2 => by
    by_cases c : a = 76
    · subst c; rw [up_ni (by omega), up_nk (by decide)]
    · rw [up_nk c]
      by_cases c2 : a = 89
      · subst c2; rw [up_ni (by omega)]
      · rw [up_nk c2]
  obtain ⟨a1, a2, ⟨h1, h2, h3, h4, h5, h6, h7, h8, h9, h10, h11, h12, h13, h14, h15⟩, a4⟩ := h
  refine ⟨ML_f a1 (fun j => fr _ _ (by omega) (by omega)) (fun j _ _ => fr _ _ (by omega) (by omega)) rfl, by rw [fr _ _ (by omega) (by omega), a2], ⟨by rw [fr _ _ (by omega) (by omega)]; exact h1, by rw [fr _ _ (by omega) (by omega)]; exact h2, up_eq, by rw [fr _ _ (by omega) (by omega)]; exact h4, by rw [fr _ _ (by omega) (by omega)]; exact h5, fun w hw => ?_, fun w hw => ?_, fun w i hw hi => ?_, fun s k hs hk => by rw [fr _ _ (by omega) (by omega)]; exact h9 s k hs hk, fun k hk => by rw [fr _ _ (by omega) (by omega)]; exact h10 k hk, by rw [fr _ _ (by omega) (by omega)]; exact h11, fun v hv => ?_, fun e => by rw [fr _ _ (by omega) (by omega)]; exact h13 e, fun c hc => ?_, by rw [fr _ _ (by omega) (by omega)]; exact h15⟩, dR_f a4 (fr _ _ (by omega) (by omega)) (fun k j q => fr _ _ (by omega) (by omega))⟩
  · have hw : w < mW m + 1 := hw
    rw [mWd_L, fr _ _ (by omega) (by omega)]
    by_cases e : w = mW m
    · rw [if_pos e, e, h88]
    · rw [if_neg e, h6 w (by omega)]
  · have hw : w < mW m + 1 := hw
    rw [mWd_K]
    by_cases e : w = mW m
    · rw [if_pos e, e, up_nk (by decide), up_eq]
    · rw [if_neg e, fr _ _ (by omega) (by omega), h7 w (by omega)]
  · have hw : w < mW m + 1 := hw
    rw [mWd_L] at hi
    rw [mWd_T, fr _ _ (by omega) (by omega)]
    by_cases e : w = mW m
    · rw [if_pos e] at hi
      rw [if_pos e, e, hT i hi]
    · rw [if_neg e] at hi
      rw [if_neg e, h8 w i (by omega) hi]
  · obtain ⟨x, q1, q2, q3⟩ := h12 v hv
    exact ⟨x, by rw [fr _ _ (by omega) (by omega)]; exact q1, q2, fun i hi => by rw [fr _ _ (by omega) (by omega)]; exact q3 i hi⟩
  · obtain ⟨x, q1, q2, q3⟩ := h14 c hc
    exact ⟨x, by rw [fr _ _ (by omega) (by omega)]; exact q1, q2, fun i hi => by rw [fr _ _ (by omega) (by omega)]; exact q3 i hi⟩
