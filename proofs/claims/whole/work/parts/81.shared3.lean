/-! ===== shared: the answers ===== -/
theorem jm_sh41 {I : iq_I} {m : jMu} {g : jGa} {y z : Nat} {x3 : Int32} (hm : mOk m) (hg : gOk m g) (hR : jRR (I 98) g) (hy : y < gY g) (hz : z < gY g) :
    ∃ M P, zM_shared_l41 (jn y) (jn z) x3 I ir_F (jn 0, jo none, jn 0) = some (jn M, jo P) ∧ sR (fun p q n => sB (gW g y) (gW g z) (gS g y).length (gS g z).length p q n ∧ p < (gS g y).length) M P := by
  have hz40 := hg.2.2.1 z hz
  have hy40 := hg.2.2.1 y hy
  have h5 := hg.1
  have iy : iq_in (jn y) 206 := by rw [jn_in (by omega)]; omega
  have iz : iq_in (jn z) 206 := by rw [jn_in (by omega)]; omega
  have inner : ∀ i M P, i < (gS g y).length → sR (fun p q n => sB (gW g y) (gW g z) (gS g y).length (gS g z).length p q n ∧ p < i) M P → ∃ w, zM_shared_l55 (jn y) (jn z) x3 (jn i) I ir_F (jn M, jo P, jn 0) = some w ∧ ∃ M P, w = (jn M, jo P) ∧ sR (fun p q n => sB (gW g y) (gW g z) (gS g y).length (gS g z).length p q n ∧ p < i + 1) M P := by
    intro i M P hi hS
    refine js_inv (fun j v => ∃ M P, v = (jn M, jo P, jn j) ∧ sR (fun p q n => sB (gW g y) (gW g z) (gS g y).length (gS g z).length p q n ∧ (p < i ∨ (p = i ∧ q < j))) M P) (gS g z).length _ ?_ ?_ (gS g z).length 0 (jn M, jo P, jn 0) ir_F (by omega) ⟨M, P, rfl, sR_cg hS fun p q n _ => ?_⟩ (by unfold ir_F; omega)
    · rintro j v hj ⟨M, P, rfl, hS⟩
      have ml := (sR_le hS).1
      obtain ⟨L, hL, hb, hmx, e⟩ := jm_sh69 (x3 := x3) (x4 := jn M) (x5 := jo P) hm hg hR hy hz hi hj
      have st := sM_step hi hj hb hmx hS
      simp only [jn0] at e
      have run : zM_shared_l55_b (jn y) (jn z) x3 (jn i) I (jn M) (jo P) (jn j) = zM_shared_134 (jn y) (jn z) x3 (jn M) (jo P) (jn i) (jn j) (jn L) I := by
        unfold zM_shared_l55_b
        rw [if_pos iz, jn_clamp (by omega), jRR_L hR z hz, if_neg (by rw [jn_le (by omega) (by omega)]; omega), e, Option.bind_some]
      by_cases q : M < L
      · refine ⟨(jn L, jn i, jn (j + 1)), ?_, L, some i, rfl, st.1 q⟩
        dsimp only
        rw [run]
        unfold zM_shared_134
        rw [if_pos (by rw [jn_lt (by omega) (by omega)]; exact q), show (1 : Int32) = jn 1 from rfl, jn_add]
      · refine ⟨(jn M, jo P, jn (j + 1)), ?_, M, P, rfl, st.2 q⟩
        dsimp only
        rw [run]
        unfold zM_shared_134
        rw [if_neg (by rw [jn_lt (by omega) (by omega)]; exact q), show (1 : Int32) = jn 1 from rfl, jn_add]
    · rintro v ⟨M, P, rfl, hS⟩
      refine ⟨(jn M, jo P), ?_, M, P, rfl, sR_cg hS fun p q n h0 => ?_⟩
      · dsimp only
        unfold zM_shared_l55_b
        rw [if_pos iz, jn_clamp (by omega), jRR_L hR z hz, if_pos (by rw [jn_le (by omega) (by omega)]; omega)]
      · constructor
        · rintro ⟨r1, r2⟩
          have := r1.2.1
          by_cases e : p < i
          · exact ⟨r1, Or.inl e⟩
          · exact ⟨r1, Or.inr ⟨by omega, by omega⟩⟩
        · rintro ⟨r1, r2 | ⟨r2, r3⟩⟩
          · exact ⟨r1, by omega⟩
          · exact ⟨r1, by omega⟩
    · constructor
      · rintro ⟨r1, r2 | ⟨r2, r3⟩⟩
        · exact ⟨r1, r2⟩
        · omega
      · rintro ⟨r1, r2⟩
        exact ⟨r1, Or.inl r2⟩
  obtain ⟨w, k1, M, P, k2, k3⟩ : ∃ w, zM_shared_l41 (jn y) (jn z) x3 I ir_F (jn 0, jo none, jn 0) = some w ∧ ∃ M P, w = (jn M, jo P) ∧ sR (fun p q n => sB (gW g y) (gW g z) (gS g y).length (gS g z).length p q n ∧ p < (gS g y).length) M P := by
    refine js_inv (fun i v => ∃ M P, v = (jn M, jo P, jn i) ∧ sR (fun p q n => sB (gW g y) (gW g z) (gS g y).length (gS g z).length p q n ∧ p < i) M P) (gS g y).length _ ?_ ?_ (gS g y).length 0 (jn 0, jo none, jn 0) ir_F (by omega) ⟨0, none, rfl, fun p j n hb => by have := hb.2; omega, Or.inl ⟨rfl, rfl⟩⟩ (by unfold ir_F; omega)
    · rintro i v hi ⟨M, P, rfl, hS⟩
      obtain ⟨w, e, M', P', rfl, hS'⟩ := inner i M P hi hS
      refine ⟨(jn M', jo P', jn (i + 1)), ?_, M', P', rfl, hS'⟩
      simp only [jn0] at e
      dsimp only
      unfold zM_shared_l41_b
      rw [if_pos iy, jn_clamp (by omega), jRR_L hR y hy, if_neg (by rw [jn_le (by omega) (by omega)]; omega), e, Option.bind_some, show (1 : Int32) = jn 1 from rfl, jn_add]
    · rintro v ⟨M, P, rfl, hS⟩
      refine ⟨(jn M, jo P), ?_, M, P, rfl, hS⟩
      dsimp only
      unfold zM_shared_l41_b
      rw [if_pos iy, jn_clamp (by omega), jRR_L hR y hy, if_pos (by rw [jn_le (by omega) (by omega)]; omega)]
  subst k2
  exact ⟨M, P, k1, k3⟩
theorem jq_shared {I : iq_I} (hI : jInv I) (x z e : Int32) (X : iq_X) : ∃ r I1 X1 b I2, zO_shared x z e I X = some (r, I1, X1) ∧ zM_shared x z e I1 = some (b, I2) ∧ jag I I1 ∧ jag I I2 ∧ jXo X X1 ∧ jAns r b (I2 76 0) := by
  obtain ⟨m, g, hm, hU, hN, hB, ⟨hg, hG, hR, -, -⟩, -⟩ := hI
  by_cases hx : ∃ s, s < gY g ∧ x = jn s
  · obtain ⟨y, hy, rfl⟩ := hx
    by_cases hz : ∃ s, s < gY g ∧ z = jn s
    · obtain ⟨z, hz, rfl⟩ := hz
      by_cases he : ∃ k, k < 2 ∧ e = jn k
      · obtain ⟨k, hk, rfl⟩ := he
        obtain ⟨I1, M, P, e1, a1, h4, h5, hS⟩ := jc_findShared hm hg hG hy hz
        have hB1 := jRB_ag hB a1
        have hR1 := jRR_ag hR (jag_tr a1 (jz_ag I1))
        obtain ⟨M', P', e2, hS'⟩ := jm_sh41 (x3 := jn k) hm hg hR1 hy hz
        have un := sR_un (sR_cg (B' := fun p q n => sB (gW g y) (gW g z) (gS g y).length (gS g z).length p q n) hS fun p q n h0 => ⟨fun h => ⟨h, h.1⟩, fun h => h.1⟩) (sR_cg hS' fun p q n h0 => ⟨fun h => ⟨h, by have := h.1; omega⟩, fun h => h.1⟩)
        obtain ⟨rfl, rfl⟩ := un
        have k1 := jm_isWhat1 (I := I1) (k := k) (n := 1) (by omega) (by omega)
        have c1 := jc_oneOfTwo1 (I := I) hk X
        rw [jn1] at k1
        simp only [jn0, ← jlm] at e2
        rcases (show k = 0 ∨ k = 1 by omega) with rfl | rfl
        · simp only [jn0] at c1 k1 e2 ⊢
          refine ⟨.inl (jn M), I1, X, jn M, jz I1, ?_, ?_, a1, jag_tr a1 (jz_ag I1), Or.inl rfl, Or.inl ⟨_, rfl, rfl, rfl⟩⟩
          · simp only [zO_shared, zW_longestShared, jc_needSaying1 hg hG hy, jc_needSaying1 hg hG hz, c1, e1, h4, ir_let, iq_sm, ir_sm, jzE, j10, Option.bind_some, ↓reduceIte, not_true_eq_false, not_false_eq_true]
          · simp only [zM_shared, jm_isSaying1 hg hB1 hy, jm_isSaying1 hg hB1 hz, k1, e2, ir_let, iq_sm, ir_sm, jzE, j10, Option.bind_some, ↓reduceIte, not_true_eq_false, not_false_eq_true]
        · simp only [jn1] at c1 k1 e2 ⊢
          refine ⟨.inl (jo P), I1, X, jo P, jz I1, ?_, ?_, a1, jag_tr a1 (jz_ag I1), Or.inl rfl, Or.inl ⟨_, rfl, rfl, rfl⟩⟩
          · simp only [zO_shared, zW_whereShared, jc_needSaying1 hg hG hy, jc_needSaying1 hg hG hz, c1, e1, h5, ir_let, iq_sm, ir_sm, jzE, j10, Option.bind_some, ↓reduceIte, not_true_eq_false, not_false_eq_true]
          · simp only [zM_shared, jm_isSaying1 hg hB1 hy, jm_isSaying1 hg hB1 hz, k1, e2, ir_let, iq_sm, ir_sm, jzE, j10, Option.bind_some, ↓reduceIte, not_true_eq_false, not_false_eq_true]
      · have k1 := jm_isWhat0 (I := I) (x := e) (n := 1) (by omega) (fun ⟨k, h1, h2⟩ => he ⟨k, by omega, h2⟩)
        rw [jn1] at k1
        refine jmkE ?_ ?_
        · simp only [zO_shared, jc_needSaying1 hg hG hy, jc_needSaying1 hg hG hz, jc_oneOfTwo0 he, ir_let, iq_sm, ir_sm, jzE, j10, Option.bind_some, ↓reduceIte, not_true_eq_false, not_false_eq_true]
        · simp only [zM_shared, jm_isSaying1 hg hB hy, jm_isSaying1 hg hB hz, k1, ir_let, iq_sm, ir_sm, jzE, j10, Option.bind_some, ↓reduceIte, not_true_eq_false, not_false_eq_true]
    · refine jmkE ?_ ?_
      · simp only [zO_shared, jc_needSaying1 hg hG hy, jc_needSaying0 hg hG hz, ir_let, iq_sm, ir_sm, jzE, j10, Option.bind_some, ↓reduceIte, not_true_eq_false, not_false_eq_true]
      · simp only [zM_shared, jm_isSaying1 hg hB hy, jm_isSaying0 hg hB hz, ir_let, iq_sm, ir_sm, jzE, j10, Option.bind_some, ↓reduceIte, not_true_eq_false, not_false_eq_true]
  · refine jmkE ?_ ?_
    · simp only [zO_shared, jc_needSaying0 hg hG hx, ir_let, iq_sm, ir_sm, jzE, j10, Option.bind_some, ↓reduceIte, not_true_eq_false, not_false_eq_true]
    · simp only [zM_shared, jm_isSaying0 hg hB hx, ir_let, iq_sm, ir_sm, jzE, j10, Option.bind_some, ↓reduceIte, not_true_eq_false, not_false_eq_true]
