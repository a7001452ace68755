/-! ===== lines: saying, one saying more ===== -/
def gSy (g : jGa) (b : Nat) (ws : List Nat) : jGa := (gY g + 1, (fun s => if s = gY g then b else gB g s), (fun s => if s = gY g then ws else gS g s), gD g)
theorem gSy_Y {g : jGa} {b : Nat} {ws : List Nat} : gY (gSy g b ws) = gY g + 1 := rfl
theorem gSy_D {g : jGa} {b : Nat} {ws : List Nat} : gD (gSy g b ws) = gD g := rfl
theorem gSy_B {g : jGa} {b : Nat} {ws : List Nat} : gB (gSy g b ws) (gY g) = b := if_pos rfl
theorem gSy_Bn {g : jGa} {b s : Nat} {ws : List Nat} (h : ¬ s = gY g) : gB (gSy g b ws) s = gB g s := if_neg h
theorem gSy_S {g : jGa} {b : Nat} {ws : List Nat} : gS (gSy g b ws) (gY g) = ws := if_pos rfl
theorem gSy_Sn {g : jGa} {b s : Nat} {ws : List Nat} (h : ¬ s = gY g) : gS (gSy g b ws) s = gS g s := if_neg h
theorem gOk_sy {m : jMu} {g : jGa} {b : Nat} {ws : List Nat} (h : gOk m g) (h5 : gY g < 5) (hb : b < mS m) (hl : ws.length ≤ 40) (hw : ∀ i, i < ws.length → ws.getD i 0 < mW m) : gOk m (gSy g b ws) := by
  obtain ⟨h1, h2, h3, h4, h6⟩ := h
  refine ⟨by rw [gSy_Y]; omega, fun s hs => ?_, fun s hs => ?_, fun s i hs hi => ?_, h6⟩
  · rw [gSy_Y] at hs
    by_cases e : s = gY g
    · subst e; rw [gSy_B]; exact hb
    · rw [gSy_Bn e]; exact h2 s (by omega)
  · rw [gSy_Y] at hs
    by_cases e : s = gY g
    · subst e; rw [gSy_S]; exact hl
    · rw [gSy_Sn e]; exact h3 s (by omega)
  · rw [gSy_Y] at hs
    by_cases e : s = gY g
    · subst e; rw [gSy_S] at hi ⊢; exact hw i hi
    · rw [gSy_Sn e] at hi ⊢; exact h4 s i (by omega) hi
theorem dOk_sy {m : jMu} {g : jGa} {b : Nat} {ws : List Nat} (h : dOk m g) (h5 : gY g < 5) (hb : b < mS m) (hl : ws.length ≤ 40) (hw : ∀ i, i < ws.length → ws.getD i 0 < mW m) : dOk m (gSy g b ws) :=
  ⟨h.1, gOk_sy h.2.1 h5 hb hl hw, h.2.2.1, h.2.2.2.1, h.2.2.2.2⟩
/-- the class begins a saying -/
theorem jc_putSaying {I : iq_I} {f : Nat → Nat} {n q : Nat} {m : jMu} {C : Nat → Bool} {g : jGa} {sz b : Nat} (h : DC I f n q m C g sz) (h5 : gY g < 5) : ∃ I', zG_putSaying (jn b) I = some I' ∧ DC I' f n q m C (gSy g b []) sz ∧ frC I I' := by
  obtain ⟨hC, hU, ⟨⟨g1, g2, g3, g4, g5⟩, g6, g7, g8⟩⟩ := h
  have fr : ∀ a j, ¬ (a = 51 ∧ j = gY g) → ¬ (a = 52 ∧ j = gY g) → ¬ (a = 50 ∧ j = 0) → iq_upI (iq_upI (iq_upI I 51 (gY g) (jn b)) 52 (gY g) 0) 50 0 (jn (gY g + 1)) a j = I a j := fun a j q1 q2 q3 => by
    by_cases c : a = 50
    · subst c; rw [up_ni (by omega), up_nk (by decide), up_nk (by decide)]
    · rw [up_nk c]
      by_cases c2 : a = 52
      · subst c2; rw [up_ni (by omega), up_nk (by decide)]
      · rw [up_nk c2]
        by_cases c3 : a = 51
        · subst c3; rw [up_ni (by omega)]
        · rw [up_nk c3]
  refine ⟨iq_upI (iq_upI (iq_upI I 51 (gY g) (jn b)) 52 (gY g) 0) 50 0 (jn (gY g + 1)), ?_, ⟨CL_f hC (fun j => fr _ _ (by omega) (by omega) (by omega)) (fun j => fr _ _ (by omega) (by omega) (by omega)), dU_f hU fun k j q1 q2 => fr _ _ (by omega) (by omega) (by omega), ⟨⟨up_eq, by rw [fr _ _ (by omega) (by omega) (by omega)]; exact g2, fun s hs => ?_, fun s hs => ?_, fun s i hs hi => ?_⟩, by rw [fr _ _ (by omega) (by omega) (by omega)]; exact g6, by rw [fr _ _ (by omega) (by omega) (by omega)]; exact g7, by rw [fr _ _ (by omega) (by omega) (by omega)]; exact g8⟩⟩, frC_up (frC_up (frC_up (frC_rf I) (by omega)) (by omega)) (by omega)⟩
  · unfold zG_putSaying
    rw [g1, if_neg (by rw [jl5, jn_le (by omega) (by omega)]; omega), if_pos (by rw [jn_in (by omega)]; exact h5), jn_clamp (by omega), ir_let, up_nk (by decide), g1, if_pos (by rw [jn_in (by omega)]; exact h5), jn_clamp (by omega), ir_let, up_nk (by decide), up_nk (by decide), g1, show jn (gY g) + (1 : Int32) = jn (gY g + 1) from jn_add _ 1, ir_let]
  · rw [gSy_Y] at hs
    by_cases e : s = gY g
    · subst e; rw [gSy_B, up_nk (by decide), up_nk (by decide), up_eq]
    · rw [gSy_Bn e, fr _ _ (by omega) (by omega) (by omega)]; exact g3 s (by omega)
  · rw [gSy_Y] at hs
    by_cases e : s = gY g
    · subst e; rw [gSy_S, up_nk (by decide), up_eq]; rfl
    · rw [gSy_Sn e, fr _ _ (by omega) (by omega) (by omega)]; exact g4 s (by omega)
  · rw [gSy_Y] at hs
    by_cases e : s = gY g
    · subst e; rw [gSy_S] at hi; exact absurd hi (Nat.not_lt_zero _)
    · rw [gSy_Sn e] at hi ⊢; rw [fr _ _ (by omega) (by omega) (by omega)]; exact g5 s i (by omega) hi
theorem jc_leadsTo38 {I : iq_I} {m : jMu} {C : Nat → Bool} {sz : Nat} (hm : mOk m) (h : dU I m C sz) {s w : Nat} (hs : s < mS m) (hw : w < mW m) : zU_leadsTo_38 (jn s) (jn w) I = some (jo (mLd m s w)) := by
  have h10 := hm.1
  have h14 := hm.2.1
  have hk := (hm.2.2.1 w hw).2.2
  unfold zU_leadsTo_38
  rw [if_neg (by rw [jl0, jn_lt (by omega) (by omega)]; omega), h.1, if_neg (by rw [jn_le (by omega) (by omega)]; omega), if_neg (by rw [jl0, jn_lt (by omega) (by omega)]; omega), h.2.2.1, if_pos (by rw [jn_lt (by omega) (by omega)]; exact hw), if_pos (by rw [jn_in (by omega)]; omega), jn_clamp (by omega), h.2.2.2.2.2.2.2.1 w hw, jl8, jn_mul, jn_add, if_pos (by rw [jn_in (by omega)]; omega), jn_clamp (by omega), h.2.2.2.2.2.2.2.2.2.2.1 s _ (by omega) hk]
  rfl
/-- the class puts a word behind -/
theorem jc_putNext {I : iq_I} {f : Nat → Nat} {n q : Nat} {m : jMu} {C : Nat → Bool} {g : jGa} {sz b c : Nat} {ws : List Nat} (h : DC I f n q m C (gSy g b ws) sz) (hg : gOk m (gSy g b ws)) (h5 : gY g < 5) (h40 : ws.length < 40) : ∃ I', zG_putIn_50 (jn (gY g)) (jn ws.length) (jn c) I = some I' ∧ DC I' f n q m C (gSy g b (ws.insertIdx ws.length c)) sz ∧ frC I I' := by
  obtain ⟨hC, hU, ⟨hG, g6, g7, g8⟩⟩ := h
  have e1 := jc_putIn5 (a := gY g) (b := ws.length) (c := c) hg hG (by rw [gSy_Y]; omega) (by rw [gSy_S]; omega) (by rw [gSy_S]; omega)
  have r1 := jRG_put (a := gY g) (b := ws.length) (c := c) hg hG (by decide) (by decide) (by decide) (by decide) (by decide) (by rw [gSy_Y]; omega) (by rw [gSy_S]; omega) (by rw [gSy_S]; omega)
  rw [gSy_S] at e1 r1
  have fr : ∀ a j, ¬ a = 52 → ¬ a = 58 → jPut I 52 58 (gY g) ws.length c ws.length a j = I a j := fun a j q1 q2 => jPut_nk q1 q2
  refine ⟨_, e1, ⟨CL_f hC (fun j => fr _ _ (by omega) (by omega)) (fun j => fr _ _ (by omega) (by omega)), dU_f hU fun k j q1 q2 => fr _ _ (by omega) (by omega), jRG_g r1 rfl (fun y hy => ?_) (fun y hy => ?_) rfl, by rw [fr _ _ (by omega) (by omega)]; exact g6, by rw [fr _ _ (by omega) (by omega)]; exact g7, by rw [fr _ _ (by omega) (by omega)]; exact g8⟩, fun a j q => fr _ _ (by omega) (by omega)⟩
  · rfl
  · by_cases e : y = gY g
    · subst e; rw [gSy_S, gRp_S]
    · rw [gSy_Sn e, gRp_T e, gSy_Sn e]
/-- the reference, in a saying -/
def SM (I : iq_I) (J : iq_J) (f : Nat → Nat) (n q : Nat) (m : jMu) (C : Nat → Bool) (g : jGa) (tp b : Nat) (ws : List Nat) : Prop := DM I J f n q m C g tp ∧ I 93 (gY g) = jn b ∧ I 94 (gY g) = jn ws.length ∧ ∀ i, i < ws.length → I 94 (6 + 40 * gY g + i) = jn (ws.getD i 0)
theorem dR_94 {I : iq_I} {m : jMu} {g : jGa} (hg : gOk m g) (h : dR I g) (h5 : gY g < 5) {j : Nat} {v : Int32} (hj : j = gY g ∨ 6 + 40 * gY g ≤ j) : dR (iq_upI I 94 j v) g := by
  obtain ⟨h1, h2, h3, h4, h6⟩ := h
  refine ⟨by rw [up_nk (by decide)]; exact h1, fun s hs => by rw [up_nk (by decide)]; exact h2 s hs, ?_, fun s hs => ?_, fun s i hs hi => ?_⟩
  · rw [up_ni (by omega)]; exact h3
  · rw [up_ni (by omega)]; exact h4 s hs
  · have := hg.2.2.1 s hs
    rw [up_ni (by omega)]; exact h6 s i hs hi
theorem DM_94 {I : iq_I} {J : iq_J} {f : Nat → Nat} {n q : Nat} {m : jMu} {C : Nat → Bool} {g : jGa} {tp : Nat} (hg : gOk m g) (h : DM I J f n q m C g tp) (h5 : gY g < 5) {j : Nat} {v : Int32} (hj : j = gY g ∨ 6 + 40 * gY g ≤ j) : DM (iq_upI I 94 j v) J f n q m C g tp :=
  ⟨ML_f h.1 (fun j => up_nk (by decide)) (fun j _ _ => up_nk (by decide)) rfl, by rw [up_nk (by decide)]; exact h.2.1, dN_f h.2.2.1 (fun j _ _ => up_nk (by decide)) (fun k j q => up_nk (by omega)), dR_94 hg h.2.2.2 h5 hj⟩
theorem jm_putNext {I : iq_I} {J : iq_J} {f : Nat → Nat} {n q : Nat} {m : jMu} {C : Nat → Bool} {g : jGa} {tp b c : Nat} {ws : List Nat} (h : SM I J f n q m C g tp b ws) (hg : gOk m g) (h5 : gY g < 5) (h40 : ws.length < 40) : SM (iq_upI (iq_upI I 94 (6 + 40 * gY g + ws.length) (jn c)) 94 (gY g) (jn (ws.length + 1))) J f n q m C g tp b (ws.insertIdx ws.length c) := by
  obtain ⟨h1, h2, h3, h4⟩ := h
  refine ⟨DM_94 hg (DM_94 hg h1 h5 (by omega)) h5 (by omega), by rw [up_nk (by decide), up_nk (by decide)]; exact h2, by rw [up_eq, jl_insl (Nat.le_refl _)], fun i hi => ?_⟩
  rw [jl_insl (Nat.le_refl _)] at hi
  rw [up_ni (by omega), jl_ins (Nat.le_refl _)]
  by_cases e : i < ws.length
  · rw [if_pos e, up_ni (by omega)]; exact h4 i e
  · have : i = ws.length := by omega
    subst this
    rw [if_neg e, if_pos rfl, up_eq]
theorem jm_sayEnd {I : iq_I} {J : iq_J} {f : Nat → Nat} {n q : Nat} {m : jMu} {C : Nat → Bool} {g : jGa} {tp b : Nat} {ws : List Nat} (h : SM I J f n q m C g tp b ws) : DM (iq_upI I 76 33 (jn (gY g + 1))) J f n q m C (gSy g b ws) tp := by
  obtain ⟨⟨a1, a2, a3, ⟨d1, d2, ⟨r1, r2, r3⟩⟩⟩, h2, h3, h4⟩ := h
  have fr : ∀ a j, ¬ (a = 76 ∧ j = 33) → iq_upI I 76 33 (jn (gY g + 1)) a j = I a j := fun a j q => by
    by_cases c : a = 76
    · subst c; rw [up_ni (by omega)]
    · rw [up_nk c]
  refine ⟨ML_f a1 (fun j => fr _ _ (by omega)) (fun j _ _ => fr _ _ (by omega)) rfl, by rw [fr _ _ (by omega)]; exact a2, ?_, up_eq, fun s hs => ?_, by rw [fr _ _ (by omega)]; exact r1, fun s hs => ?_, fun s i hs hi => ?_⟩
  · obtain ⟨h1, h2, h3, h4, h5, h6, h7, h8, h9, h10, h11, h12, h13, h14, h15⟩ := a3
    refine ⟨by rw [fr _ _ (by omega)]; exact h1, by rw [fr _ _ (by omega)]; exact h2, by rw [fr _ _ (by omega)]; exact h3, by rw [fr _ _ (by omega)]; exact h4, by rw [fr _ _ (by omega)]; exact h5, fun w hw => by rw [fr _ _ (by omega)]; exact h6 w hw, fun w hw => by rw [fr _ _ (by omega)]; exact h7 w hw, fun w i hw hi => by rw [fr _ _ (by omega)]; exact h8 w i hw hi, fun s k hs hk => by rw [fr _ _ (by omega)]; exact h9 s k hs hk, fun k hk => by rw [fr _ _ (by omega)]; exact h10 k hk, by rw [fr _ _ (by omega)]; exact h11, fun v hv => ?_, fun e => by rw [fr _ _ (by omega)]; exact h13 e, fun c hc => ?_, by rw [fr _ _ (by omega)]; exact h15⟩
    · obtain ⟨x, q1, q2, q3⟩ := h12 v hv
      exact ⟨x, by rw [fr _ _ (by omega)]; exact q1, q2, fun i hi => by rw [fr _ _ (by omega)]; exact q3 i hi⟩
    · obtain ⟨x, q1, q2, q3⟩ := h14 c hc
      exact ⟨x, by rw [fr _ _ (by omega)]; exact q1, q2, fun i hi => by rw [fr _ _ (by omega)]; exact q3 i hi⟩
  · rw [gSy_Y] at hs
    rw [fr _ _ (by omega)]
    by_cases e : s = gY g
    · subst e; rw [gSy_B]; exact h2
    · rw [gSy_Bn e]; exact d2 s (by omega)
  · rw [gSy_Y] at hs
    rw [fr _ _ (by omega)]
    by_cases e : s = gY g
    · subst e; rw [gSy_S]; exact h3
    · rw [gSy_Sn e]; exact r2 s (by omega)
  · rw [gSy_Y] at hs
    rw [fr _ _ (by omega)]
    by_cases e : s = gY g
    · subst e; rw [gSy_S] at hi ⊢; exact h4 i hi
    · rw [gSy_Sn e] at hi ⊢; exact r3 s i (by omega) hi
