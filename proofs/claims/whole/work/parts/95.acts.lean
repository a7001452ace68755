/-! ===== acts: one more, the last one less ===== -/
/-- the state after an act: galleries changed, one act more on both sides -/
theorem jMn_act {I I' : iq_I} {m : jMu} {g g' : jGa} (h : jMn I m g) {a : Nat} (ha : a ≤ 40) (hI : I 19 0 = jn a) {d s p w : Int32}
    (hg' : gOk m g') (hG' : jRG I' 16 17 18 24 g') (hR' : jRR (I' 98) g') (hY : gY g' = gY g)
    (c0 : I' 19 0 = jn (jb39 a + 1)) (c1 : ∀ k j, 20 ≤ k → k ≤ 23 → j < jb39 a → I' k j = I k (j + (a - jb39 a)))
    (cd : I' 20 (jb39 a) = d) (cs : I' 21 (jb39 a) = s) (cp : I' 22 (jb39 a) = p) (cw : I' 23 (jb39 a) = w)
    (r0 : I' 76 54 = jn (jb39 a + 1)) (r1 : ∀ k j, k < jb39 a → j < 206 → I' 100 (206 * k + j) = I 100 (206 * (k + (a - jb39 a)) + j))
    (r2 : ∀ j, j < 206 → I' 100 (206 * jb39 a + j) = I 98 j) (hu : jUn d s p w m g' g)
    (s0 : I' 16 2 = I 16 2) (s1 : I' 76 63 = I 76 63) (s2 : ∀ j, I' 25 j = I 25 j) (s3 : ∀ j, I' 26 j = I 26 j) (s4 : ∀ j, I' 108 j = I 108 j) : jMn I' m g' := by
  obtain ⟨hg, hG, hR, ⟨a', q1, q2, q3, G, q4, q5⟩, ⟨c, p1, p2, p3, p4⟩⟩ := h
  have ea : a' = a := by
    rw [hI, jn_inj (by omega) (by omega)] at q2; exact q2.symm
  subst ea
  have hb : jb39 a' ≤ 39 := by unfold jb39; split <;> omega
  have hb2 : jb39 a' ≤ a' := by unfold jb39; split <;> omega
  refine ⟨hg', hG', hR', ⟨jb39 a' + 1, by omega, c0, r0, fun k => if k ≤ jb39 a' then G (k + (a' - jb39 a')) else g', if_neg (by omega), fun k hk => ?_⟩, ⟨c, p1, by rw [s0, p2], by rw [s1, p3], fun i hi => ?_⟩⟩
  · dsimp only
    by_cases e : k = jb39 a'
    · subst e
      rw [if_pos (Nat.le_refl _), if_neg (by omega), show jb39 a' + (a' - jb39 a') = a' by omega, q4, cd, cs, cp, cw]
      exact ⟨hg, jRR_cg2 hg hR fun j hj => r2 j hj, hu⟩
    · obtain ⟨t1, t2, t3⟩ := q5 (k + (a' - jb39 a')) (by omega)
      rw [if_pos (show k ≤ jb39 a' by omega), if_pos (show k + 1 ≤ jb39 a' by omega), c1 20 k (by omega) (by omega) (by omega), c1 21 k (by omega) (by omega) (by omega), c1 22 k (by omega) (by omega) (by omega), c1 23 k (by omega) (by omega) (by omega), show k + 1 + (a' - jb39 a') = k + (a' - jb39 a') + 1 by omega]
      exact ⟨t1, jRR_cg2 t1 t2 fun j hj => r1 k j (by omega) hj, t3⟩
  · rw [s2, s3, s4, s4, hY]
    exact p4 i hi
theorem jMn_held {I : iq_I} {m : jMu} {g : jGa} (h : jMn I m g) : ∃ a, a ≤ 40 ∧ I 19 0 = jn a ∧ I 76 54 = jn a := by
  obtain ⟨hg, hG, hR, ⟨a, q1, q2, q3, G, q4, q5⟩, -⟩ := h
  exact ⟨a, q1, q2, q3⟩
theorem jl_ei {l : List Nat} {b c : Nat} : (l.insertIdx b c).eraseIdx b = l := List.eraseIdx_insertIdx_self _
theorem jl_ie {l : List Nat} {b : Nat} (h : b < l.length) : (l.eraseIdx b).insertIdx b (l.getD b 0) = l := by
  apply List.ext_getElem?
  intro i
  rw [List.getElem?_insertIdx, List.length_eraseIdx, if_pos h]
  by_cases h1 : i < b
  · rw [if_pos h1, List.getElem?_eraseIdx, if_pos h1]
  · rw [if_neg h1]
    by_cases h2 : i = b
    · subst h2; rw [if_pos rfl, if_pos (by omega), jl_gt, List.getElem?_eq_getElem h]; rfl
    · rw [if_neg h2, List.getElem?_eraseIdx, if_neg (by omega), show i - 1 + 1 = i by omega]
theorem jUn_put {m : jMu} {g : jGa} {a b : Nat} {c : Nat} {w : Int32} (ha : a < gY g) (hb : b ≤ (gS g a).length) : jUn 0 (jn a) (jn b) w m (gRp g a ((gS g a).insertIdx b c)) g := by
  refine ⟨rfl, fun _ _ => rfl, Or.inl ⟨rfl, a, b, rfl, rfl, ha, by rw [gRp_S, jl_insl hb]; omega, rfl, fun y hy => ?_⟩⟩
  by_cases e : y = a
  · subst e; rw [if_pos rfl, gRp_S, jl_ei]
  · rw [if_neg e, gRp_T e]
theorem jUn_take {m : jMu} {g : jGa} (hg : gOk m g) {a b : Nat} (ha : a < gY g) (hb : b < (gS g a).length) : jUn 1 (jn a) (jn b) (jn ((gS g a).getD b 0)) m (gRp g a ((gS g a).eraseIdx b)) g := by
  have h4 := hg.2.2.1 a ha
  refine ⟨rfl, fun _ _ => rfl, Or.inr (Or.inl ⟨rfl, a, b, (gS g a).getD b 0, rfl, rfl, rfl, ha, by rw [gRp_S, jl_eral hb]; omega, by rw [gRp_S, jl_eral hb]; omega, hg.2.2.2.1 a b ha hb, rfl, fun y hy => ?_⟩)⟩
  by_cases e : y = a
  · subst e; rw [if_pos rfl, gRp_S, jl_ie hb]
  · rw [if_neg e, gRp_T e]
/-- an act on both sides: the class puts and keeps (I to I2), the reference keeps and puts (I2 to I4) -/
theorem jInv_act {I I' : iq_I} {m : jMu} {g g' : jGa} (hm : mOk m) (hU : jRU I m) (hN : jRN I m) (hB : jRB I g) (hi : jIm I m g) (ht : jTp I) (hf : jFl I) (hr : jRf I)
    (a : jad [0, 4] I I') (hY : gY g' = gY g) (hBB : gB g' = gB g) (h : jMn I' m g') : jInv I' :=
  ⟨m, g', hm, jRU_ad hU a (by decide), jRN_ad hN a (by decide), jRB_g (jRB_ad hB a (by decide)) hY (fun s _ => by rw [hBB]), h, jIm_g (jIm_ad hi a (by decide)) hY (fun s _ => by rw [hBB]), jTp_ad ht a (by decide), jFl_ad hf a (by decide), jRf_ad hr a (by decide)⟩
theorem jc_putKeep {I : iq_I} {m : jMu} {g : jGa} (hM : jMn I m g) {a b c : Nat} (ha : a < gY g) (hb : b ≤ (gS g a).length) (h4 : (gS g a).length < 40) :
    ∃ I1 I2, zG_putIn_16 (jn a) (jn b) (jn c) I = some I1 ∧ zA_keep (0 : Int32) (jn a) (jn b) (jn c) I1 = some I2 ∧ jad [4] I I2 ∧ (∀ k j, 26 < k → I2 k j = I k j) ∧ I2 18 a = jn ((gS g a).length + 1) ∧
      ∀ I3 I4 : iq_I, (∀ k j, k < 76 → I3 k j = I2 k j) → (∀ k j, ¬ k = 98 → I4 k j = I3 k j) → jRR (I4 98) (gRp g a ((gS g a).insertIdx b c)) → (∀ h, h ≤ 40 → I 19 0 = jn h → I3 76 54 = jn (jb39 h + 1) ∧ (∀ k j, k < jb39 h → j < 206 → I3 100 (206 * k + j) = I 100 (206 * (k + (h - jb39 h)) + j)) ∧ (∀ j, j < 206 → I3 100 (206 * jb39 h + j) = I 98 j)) → I3 76 63 = I 76 63 → (∀ j, I3 108 j = I 108 j) → c < mW m → jMn I4 m (gRp g a ((gS g a).insertIdx b c)) := by
  obtain ⟨h, h1, h2, h3⟩ := jMn_held hM
  obtain ⟨hg, hG, -⟩ := id hM
  have e1 := jc_putIn (c := c) hg hG ha hb h4
  obtain ⟨I2, e2, k1, k2, k3, k4, k5, k6, k7⟩ := jc_keep (I := jPut I 18 24 a b c (gS g a).length) (d := 0) (s := jn a) (p := jn b) (w := jn c) h1 (by rw [jPut_nk (by decide) (by decide), h2])
  refine ⟨_, I2, e1, e2, fun k i hk => ?_, fun k j hk => by rw [k1 k j (by omega), jPut_nk (by omega) (by omega)], ?_, ?_⟩
  · have w1 : k < 19 ∨ 23 < k := by
      apply Classical.byContradiction
      intro hc
      have q : k = 19 ∨ k = 20 ∨ k = 21 ∨ k = 22 ∨ k = 23 := by omega
      rcases q with rfl | rfl | rfl | rfl | rfl <;> exact hk (show 4 ∈ [4] by decide)
    rw [k1 k i w1, jPut_nk (fun e => by subst e; exact hk (show 4 ∈ [4] by decide)) (fun e => by subst e; exact hk (show 4 ∈ [4] by decide))]
  · rw [k1 18 a (by omega)]; exact up_eq
  · intro I3 I4 f3 f4 hR4 hk3 hs hq hc
    obtain ⟨r0, r1, r2⟩ := hk3 h h1 h2
    have C : ∀ k j, k < 76 → I4 k j = I2 k j := fun k j hk => by rw [f4 k j (by omega), f3 k j hk]
    have hG2 : jRG I4 16 17 18 24 (gRp g a ((gS g a).insertIdx b c)) := by
      have q := jRG_put (c := c) hg hG (by decide) (by decide) (by decide) (by decide) (by decide) ha hb h4
      exact ⟨by rw [C _ _ (by decide), k1 _ _ (by omega)]; exact q.1, by rw [C _ _ (by decide), k1 _ _ (by omega)]; exact q.2.1, fun s hs => by rw [C _ _ (by decide), k1 _ _ (by omega)]; exact q.2.2.1 s hs, fun s hs => by rw [C _ _ (by decide), k1 _ _ (by omega)]; exact q.2.2.2.1 s hs, fun s i hs hi => by rw [C _ _ (by decide), k1 _ _ (by omega)]; exact q.2.2.2.2 s i hs hi⟩
    refine jMn_act (d := 0) (s := jn a) (p := jn b) (w := jn c) hM h1 h2 (gOk_put hg ha hb h4 hc) hG2 hR4 rfl (by rw [C _ _ (by decide)]; exact k2) (fun k j q1 q2 q3 => ?_) (by rw [C _ _ (by decide)]; exact k4) (by rw [C _ _ (by decide)]; exact k5) (by rw [C _ _ (by decide)]; exact k6) (by rw [C _ _ (by decide)]; exact k7) (by rw [f4 _ _ (by decide)]; exact r0) (fun k j q1 q2 => by rw [f4 _ _ (by decide)]; exact r1 k j q1 q2) (fun j q => by rw [f4 _ _ (by decide)]; exact r2 j q) (jUn_put ha hb) ?_ (by rw [f4 _ _ (by decide), hs]) (fun j => ?_) (fun j => ?_) (fun j => by rw [f4 _ _ (by decide), hq])
    · rw [C _ _ (by omega), k3 k j q1 q2 q3, jPut_nk (by omega) (by omega)]
    · rw [C _ _ (by decide), k1 _ _ (by omega), jPut_nk (by decide) (by decide)]
    · rw [C _ _ (by decide), k1 _ _ (by omega), jPut_nk (by decide) (by decide)]
    · rw [C _ _ (by decide), k1 _ _ (by omega), jPut_nk (by decide) (by decide)]
theorem jRf_up {I I' : iq_I} (h : jRf I) (n : Nat) (hn : n < 3) (h1 : ∀ j, ¬ j = n → I' 3 j = I 3 j) (h2 : I' 3 n = I 3 n + 1) (h3 : ∀ j, ¬ j = n → I' 86 j = I 86 j) (h4 : I' 86 n = I 86 n + 1) : jRf I' := by
  obtain ⟨a, b, c⟩ := h
  have q : n = 0 ∨ n = 1 ∨ n = 2 := by omega
  rcases q with rfl | rfl | rfl
  · exact ⟨by rw [h2, h4, a], by rw [h1 1 (by decide), h3 1 (by decide), b], by rw [h1 2 (by decide), h3 2 (by decide), c]⟩
  · exact ⟨by rw [h1 0 (by decide), h3 0 (by decide), a], by rw [h2, h4, b], by rw [h1 2 (by decide), h3 2 (by decide), c]⟩
  · exact ⟨by rw [h1 0 (by decide), h3 0 (by decide), a], by rw [h1 1 (by decide), h3 1 (by decide), b], by rw [h2, h4, c]⟩
/-- a refused act, on both sides -/
theorem jInv_ref {I I1 I2 : iq_I} (hI : jInv I) (n : Nat) (hn : n < 3) (a1 : jag I I1) (a2 : jag (iq_upI I1 3 n (I1 3 n + 1)) I2) : jInv (iq_upI I2 86 n (I2 86 n + 1)) := by
  obtain ⟨m, g, hm, hU, hN, hB, hM, hi, ht, hf, hr⟩ := jInv_iff.mp hI
  have a : jad [0, 8] I (iq_upI I2 86 n (I2 86 n + 1)) := jad_up (jad_tr (jad_tr (jad_ag a1 (by decide)) (jad_up (jad_rf _ I1) (show 8 ∈ [0, 8] by decide))) (jad_ag a2 (by decide))) (show 8 ∈ [0, 8] by decide)
  refine jInv_iff.mpr ⟨m, g, hm, jRU_ad hU a (by decide), jRN_ad hN a (by decide), jRB_ad hB a (by decide), jMn_ad hM a (by decide), jIm_ad hi a (by decide), jTp_ad ht a (by decide), jFl_ad hf a (by decide), ?_⟩
  refine jRf_up hr n hn (fun j hj => ?_) ?_ (fun j hj => ?_) ?_
  · rw [up_nk (by decide), a2 3 j rfl, up_ni hj, a1 3 j rfl]
  · rw [up_nk (by decide), a2 3 n rfl, up_eq, a1 3 n rfl]
  · rw [up_ni hj, a2 86 j rfl, up_nk (by decide), a1 86 j rfl]
  · rw [up_eq, a2 86 n rfl, up_nk (by decide), a1 86 n rfl]
theorem jm_refuses {I : iq_I} {n : Nat} (hn : n < 3) : zM_refuses (jn n) I = some (-1, iq_upI I 86 n (I 86 n + 1)) := by
  simp (disch := omega) only [zM_refuses, jn_in, jn_clamp, if_pos, ir_let]
/-- what jq_ of a call that changes the state says -/
def jAct (I : iq_I) (zo : Option ((Int32 ⊕ Nat) × iq_I × iq_X)) (zm : iq_I → Option (Int32 × iq_I)) (X : iq_X) : Prop := ∃ r I1 X1 b I2, zo = some (r, I1, X1) ∧ zm I1 = some (b, I2) ∧ jInv I2 ∧ jXo X X1 ∧ jAns r b (I2 76 0) ∧ ∀ j, I1 0 j = I 0 j
theorem jAct_e {zo : Option ((Int32 ⊕ Nat) × iq_I × iq_X)} {zm : iq_I → Option (Int32 × iq_I)} {I : iq_I} {X : iq_X} (hI : jInv I) (hC : zo = some (.inr 0, I, ir_xx X)) (hM : zm I = some (0, jw I 1)) : jAct I zo zm X :=
  ⟨_, _, _, _, _, hC, hM, jInv_ag hI (jw_ag I 1), Or.inr rfl, Or.inr ⟨rfl, rfl⟩, fun _ => rfl⟩
theorem jAct_v {zo : Option ((Int32 ⊕ Nat) × iq_I × iq_X)} {zm : iq_I → Option (Int32 × iq_I)} {X : iq_X} (v : Int32) {I I1 I2 : iq_I} (hC : zo = some (.inl v, I1, X)) (hM : zm I1 = some (v, I2)) (hI : jInv I2) (h0 : I2 76 0 = 0) (hS : ∀ j, I1 0 j = I 0 j) : jAct I zo zm X :=
  ⟨_, _, _, _, _, hC, hM, hI, Or.inl rfl, Or.inl ⟨v, rfl, rfl, h0⟩, hS⟩
