/-! ===== shared: class and reference ===== -/
def jT73 (I : iq_I) (g : jGa) (y z i : Nat) : Prop := ∀ j, j ≤ (gS g z).length → I 73 j = jn (cS (gW g y) (gW g z) i j)
theorem cS_0 (a b : Nat → Nat) (i : Nat) : cS a b i 0 = 0 := by cases i <;> rfl
theorem cS_s (a b : Nat → Nat) (i j : Nat) : cS a b (i + 1) (j + 1) = if a i = b j then cS a b i j + 1 else 0 := rfl
theorem sR_le {a b : Nat → Nat} {na nb M : Nat} {P : Option Nat} {A : Nat → Nat → Nat → Prop} (h : sR (fun p q n => sB a b na nb p q n ∧ A p q n) M P) : M ≤ na ∧ ∀ p, P = some p → p ≤ na := by
  obtain ⟨_, hp⟩ := h
  rcases hp with ⟨h0, e⟩ | ⟨h0, p, e, ⟨j, hj⟩, _⟩
  · exact ⟨by omega, fun p hp => by rw [e] at hp; cases hp⟩
  · have := hj.1.1
    exact ⟨by omega, fun p' hp => by rw [e] at hp; cases hp; omega⟩
theorem jc_b101 {I : iq_I} {x2 x3 x4 x5 x7 : Int32} {i j v M : Nat} (hj : 1 ≤ j) (hj2 : j ≤ 40) (hi : i < 40) (hv : v ≤ 40) (hvi : v ≤ i + 1) (hM : M ≤ 40) (h4 : I 72 4 = jn M) :
    zW_findShared_101 x2 x3 x4 x5 (jn i) x7 (jn j) (jn j) (jn v) I = some (.inl (jn (j - 1), if M < v then iq_upI (iq_upI (iq_upI I 73 j (jn v)) 72 4 (jn v)) 72 5 (jn (i + 1 - v)) else iq_upI I 73 j (jn v))) := by
  have e1 : iq_upI I 73 j (jn v) 73 j = jn v := up_eq
  have e2 : iq_upI I 73 j (jn v) 72 4 = jn M := by rw [up_nk (by decide)]; exact h4
  have e3 : iq_upI (iq_upI I 73 j (jn v)) 72 4 (jn v) 73 j = jn v := by rw [up_nk (by decide)]; exact e1
  by_cases q : M < v
  · rw [if_pos q]
    simp (disch := omega) only [zW_findShared_101, ir_let, jn_lt, jn_le, jn_in, jn_inj, jn_ne_m, jm_ne_n, jm_eq_m, jm_lt, jm_le, jn_lt_m, jn_le_m, jn_add, jn_mul, jn_clamp, jo_some, jn_min, jn_max, ↓jlm, jl0, jl1, jl2, jl3, jl4, jl5, jl6, jl7, jl8, jl9, jl10, jl11, jl12, jl13, jl14, jl15, jl16, jl20, jl24, jl32, jl39, jl40, jl41, jl60, jl61, jl80, jl96, jl97, jl99, jl100, jl122, jl126, jl199, jl200, jl205, jl206, jl255, jl256, jl410, jl700, jl950, jl1000, jl1000000, jl4000, jl8240, jl32767, if_pos, if_neg, ↓reduceIte, Option.bind_some, not_true_eq_false, not_false_eq_true, Nat.not_lt, Nat.not_le, e1, e2, e3, jn_sub, jn_pred]
  · rw [if_neg q]
    simp (disch := omega) only [zW_findShared_101, ir_let, jn_lt, jn_le, jn_in, jn_inj, jn_ne_m, jm_ne_n, jm_eq_m, jm_lt, jm_le, jn_lt_m, jn_le_m, jn_add, jn_mul, jn_clamp, jo_some, jn_min, jn_max, ↓jlm, jl0, jl1, jl2, jl3, jl4, jl5, jl6, jl7, jl8, jl9, jl10, jl11, jl12, jl13, jl14, jl15, jl16, jl20, jl24, jl32, jl39, jl40, jl41, jl60, jl61, jl80, jl96, jl97, jl99, jl100, jl122, jl126, jl199, jl200, jl205, jl206, jl255, jl256, jl410, jl700, jl950, jl1000, jl1000000, jl4000, jl8240, jl32767, if_pos, if_neg, ↓reduceIte, Option.bind_some, not_true_eq_false, not_false_eq_true, Nat.not_lt, Nat.not_le, e1, e2, jn_pred]
theorem jc_fs60 {I : iq_I} {m : jMu} {g : jGa} {y z i M : Nat} {P : Option Nat} {x4 : Int32} (hm : mOk m) (hg : gOk m g) (hG : jRG I 16 17 18 24 g) (hy : y < gY g) (hz : z < gY g) (hi : i < (gS g y).length) (hT : jT73 I g y z i) (h4 : I 72 4 = jn M) (h5 : I 72 5 = jo P)
    (hS : sR (fun p q n => sB (gW g y) (gW g z) (gS g y).length (gS g z).length p q n ∧ p + n ≤ i) M P) :
    ∃ I', zW_findShared_l60 (jn y) (jn z) x4 (jn (gS g z).length) (jn i) (jn (gW g y i)) ir_F (jn (gS g z).length, I) = some I' ∧ jag I I' ∧ jT73 I' g y z (i + 1) ∧ ∃ M P, I' 72 4 = jn M ∧ I' 72 5 = jo P ∧ sR (fun p q n => sB (gW g y) (gW g z) (gS g y).length (gS g z).length p q n ∧ p + n ≤ i + 1) M P := by
  have hz40 := hg.2.2.1 z hz
  have hy40 := hg.2.2.1 y hy
  have hwi := gW_lt hm hg hy hi
  refine js_inv (fun k v => v.1 = jn ((gS g z).length - k) ∧ jag I v.2 ∧ (∀ j, (gS g z).length - k < j → j ≤ (gS g z).length → v.2 73 j = jn (cS (gW g y) (gW g z) (i + 1) j)) ∧ (∀ j, j ≤ (gS g z).length - k → v.2 73 j = jn (cS (gW g y) (gW g z) i j)) ∧
    ∃ M P, v.2 72 4 = jn M ∧ v.2 72 5 = jo P ∧ sR (fun p q n => sB (gW g y) (gW g z) (gS g y).length (gS g z).length p q n ∧ (p + n ≤ i ∨ (p + n = i + 1 ∧ (gS g z).length - k < q + n))) M P) (gS g z).length _ ?_ ?_ (gS g z).length 0 (jn (gS g z).length, I) ir_F (by omega) ⟨rfl, jag_rf I, fun j h1 h2 => by omega, fun j hj => hT j hj, M, P, h4, h5, ?_⟩ (by unfold ir_F; omega)
  · rintro k ⟨x, I1⟩ hk ⟨hv, ha, hn, ho, M, P, h4, h5, hS⟩
    simp only at hv ha hn ho h4 h5
    subst hv
    have hG1 := jRG_up hG ha
    obtain ⟨j, hj⟩ : ∃ j, (gS g z).length - k = j + 1 := ⟨(gS g z).length - k - 1, by omega⟩
    rw [hj] at hn ho hS ⊢
    have e1 : (gS g z).length - (k + 1) = j := by omega
    have hwk := gW_lt hm hg hz (show j < (gS g z).length by omega)
    have wa : zG_wordAt_16 (jn z) (jn j) I1 = some (jn (gW g z j)) := jc_wordAt hg hG1 hz (by omega)
    have cb := cS_le (gW g y) (gW g z) (i + 1) (j + 1)
    have cb2 := cS_le (gW g y) (gW g z) i j
    have ml := (sR_le hS).1
    have st := sC_step (j := j + 1) hi (show j + 1 ≤ (gS g z).length by omega) hS
    have b := jc_b101 (I := I1) (x2 := jn y) (x3 := jn z) (x4 := x4) (x5 := jn (gS g z).length) (x7 := jn (gW g y i)) (i := i) (j := j + 1) (v := cS (gW g y) (gW g z) (i + 1) (j + 1)) (M := M) (by omega) (by omega) (by omega) (by omega) (by omega) (by omega) h4
    have run : zW_findShared_l60_b (jn y) (jn z) x4 (jn (gS g z).length) (jn i) (jn (gW g y i)) (jn (j + 1)) I1 = some (.inl (jn (j + 1 - 1), if M < cS (gW g y) (gW g z) (i + 1) (j + 1) then iq_upI (iq_upI (iq_upI I1 73 (j + 1) (jn (cS (gW g y) (gW g z) (i + 1) (j + 1)))) 72 4 (jn (cS (gW g y) (gW g z) (i + 1) (j + 1)))) 72 5 (jn (i + 1 - cS (gW g y) (gW g z) (i + 1) (j + 1))) else iq_upI I1 73 (j + 1) (jn (cS (gW g y) (gW g z) (i + 1) (j + 1))))) := by
      rw [← b]
      by_cases q : gW g y i = gW g z j
      · have ev : cS (gW g y) (gW g z) (i + 1) (j + 1) = cS (gW g y) (gW g z) i j + 1 := by rw [cS_s, if_pos q]
        have oj := ho j (by omega)
        have q' : gW g z j = gW g y i := q.symm
        rw [ev]
        simp (disch := omega) only [zW_findShared_l60_b, ir_let, jn_lt, jn_le, jn_in, jn_inj, jn_ne_m, jm_ne_n, jm_eq_m, jm_lt, jm_le, jn_lt_m, jn_le_m, jn_add, jn_mul, jn_clamp, jo_some, jn_min, jn_max, ↓jlm, jl0, jl1, jl2, jl3, jl4, jl5, jl6, jl7, jl8, jl9, jl10, jl11, jl12, jl13, jl14, jl15, jl16, jl20, jl24, jl32, jl39, jl40, jl41, jl60, jl61, jl80, jl96, jl97, jl99, jl100, jl122, jl126, jl199, jl200, jl205, jl206, jl255, jl256, jl410, jl700, jl950, jl1000, jl1000000, jl4000, jl8240, jl32767, if_pos, if_neg, ↓reduceIte, Option.bind_some, not_true_eq_false, not_false_eq_true, Nat.not_lt, Nat.not_le, jn_sub, Nat.add_sub_cancel, wa, q', oj]
      · have ev : cS (gW g y) (gW g z) (i + 1) (j + 1) = 0 := by rw [cS_s, if_neg q]
        rw [ev]
        simp (disch := omega) only [zW_findShared_l60_b, ir_let, jn_lt, jn_le, jn_in, jn_inj, jn_ne_m, jm_ne_n, jm_eq_m, jm_lt, jm_le, jn_lt_m, jn_le_m, jn_add, jn_mul, jn_clamp, jo_some, jn_min, jn_max, ↓jlm, jl0, jl1, jl2, jl3, jl4, jl5, jl6, jl7, jl8, jl9, jl10, jl11, jl12, jl13, jl14, jl15, jl16, jl20, jl24, jl32, jl39, jl40, jl41, jl60, jl61, jl80, jl96, jl97, jl99, jl100, jl122, jl126, jl199, jl200, jl205, jl206, jl255, jl256, jl410, jl700, jl950, jl1000, jl1000000, jl4000, jl8240, jl32767, if_pos, if_neg, ↓reduceIte, Option.bind_some, not_true_eq_false, not_false_eq_true, Nat.not_lt, Nat.not_le, jn_sub, Nat.add_sub_cancel, wa]
    rw [Nat.add_sub_cancel] at run
    rw [e1]
    by_cases q : M < cS (gW g y) (gW g z) (i + 1) (j + 1)
    · rw [if_pos q] at run
      refine ⟨_, run, rfl, jag_up (jag_up (jag_up ha rfl) rfl) rfl, fun j' h1 h2 => ?_, fun j' h1 => ?_, cS (gW g y) (gW g z) (i + 1) (j + 1), some (i + 1 - cS (gW g y) (gW g z) (i + 1) (j + 1)), ?_, ?_, ?_⟩
      · dsimp only
        rw [up_nk (by decide), up_nk (by decide)]
        by_cases e : j' = j + 1
        · subst e; rw [up_eq]
        · rw [up_ni e]; exact hn j' (by omega) h2
      · dsimp only
        rw [up_nk (by decide), up_nk (by decide), up_ni (by omega)]
        exact ho j' (by omega)
      · dsimp only; rw [up_ni (by decide), up_eq]
      · dsimp only; rw [up_eq]; rfl
      · exact sR_cg (st.1 q) fun p q' n h0 => by
          constructor
          · rintro ⟨r1, r2 | ⟨r2, r3⟩⟩
            · exact ⟨r1, Or.inl r2⟩
            · exact ⟨r1, Or.inr ⟨r2, by omega⟩⟩
          · rintro ⟨r1, r2 | ⟨r2, r3⟩⟩
            · exact ⟨r1, Or.inl r2⟩
            · exact ⟨r1, Or.inr ⟨r2, by omega⟩⟩
    · rw [if_neg q] at run
      refine ⟨_, run, rfl, jag_up ha rfl, fun j' h1 h2 => ?_, fun j' h1 => ?_, M, P, ?_, ?_, ?_⟩
      · dsimp only
        by_cases e : j' = j + 1
        · subst e; rw [up_eq]
        · rw [up_ni e]; exact hn j' (by omega) h2
      · dsimp only
        rw [up_ni (by omega)]
        exact ho j' (by omega)
      · dsimp only; rw [up_nk (by decide)]; exact h4
      · dsimp only; rw [up_nk (by decide)]; exact h5
      · exact sR_cg (st.2 q) fun p q' n h0 => by
          constructor
          · rintro ⟨r1, r2 | ⟨r2, r3⟩⟩
            · exact ⟨r1, Or.inl r2⟩
            · exact ⟨r1, Or.inr ⟨r2, by omega⟩⟩
          · rintro ⟨r1, r2 | ⟨r2, r3⟩⟩
            · exact ⟨r1, Or.inl r2⟩
            · exact ⟨r1, Or.inr ⟨r2, by omega⟩⟩
  · rintro ⟨x, I1⟩ ⟨hv, ha, hn, ho, M, P, h4, h5, hS⟩
    simp only at hv ha hn ho h4 h5
    subst hv
    rw [Nat.sub_self] at hn ho hS ⊢
    refine ⟨I1, ?_, ha, fun j hj => ?_, M, P, h4, h5, ?_⟩
    · simp (disch := omega) only [zW_findShared_l60_b, ir_let, jn_lt, jn_le, jn_in, jn_inj, jn_ne_m, jm_ne_n, jm_eq_m, jm_lt, jm_le, jn_lt_m, jn_le_m, jn_add, jn_mul, jn_clamp, jo_some, jn_min, jn_max, ↓jlm, jl0, jl1, jl2, jl3, jl4, jl5, jl6, jl7, jl8, jl9, jl10, jl11, jl12, jl13, jl14, jl15, jl16, jl20, jl24, jl32, jl39, jl40, jl41, jl60, jl61, jl80, jl96, jl97, jl99, jl100, jl122, jl126, jl199, jl200, jl205, jl206, jl255, jl256, jl410, jl700, jl950, jl1000, jl1000000, jl4000, jl8240, jl32767, if_pos, if_neg, ↓reduceIte, Option.bind_some, not_true_eq_false, not_false_eq_true, Nat.not_lt, Nat.not_le]
    · by_cases e : j = 0
      · subst e; rw [ho 0 (by omega), cS_0, cS_0]
      · exact hn j (by omega) hj
    · exact sR_cg hS fun p q n h0 => by
        constructor
        · rintro ⟨r1, r2⟩
          by_cases e : p + n ≤ i
          · exact ⟨r1, Or.inl e⟩
          · exact ⟨r1, Or.inr ⟨by omega, by omega⟩⟩
        · rintro ⟨r1, r2 | ⟨r2, r3⟩⟩
          · exact ⟨r1, by omega⟩
          · exact ⟨r1, by omega⟩
  · exact sR_cg hS fun p q n h0 => by
      constructor
      · rintro ⟨r1, r2 | ⟨r2, r3⟩⟩
        · exact ⟨r1, r2⟩
        · have := r1.2.1; omega
      · rintro ⟨r1, r2⟩
        exact ⟨r1, Or.inl r2⟩
theorem jc_findShared {I : iq_I} {m : jMu} {g : jGa} {y z : Nat} (hm : mOk m) (hg : gOk m g) (hG : jRG I 16 17 18 24 g) (hy : y < gY g) (hz : z < gY g) :
    ∃ I' M P, zW_findShared (jn y) (jn z) I = some I' ∧ jag I I' ∧ I' 72 4 = jn M ∧ I' 72 5 = jo P ∧ sR (fun p q n => sB (gW g y) (gW g z) (gS g y).length (gS g z).length p q n ∧ p + n ≤ (gS g y).length) M P := by
  have hz40 := hg.2.2.1 z hz
  have hy40 := hg.2.2.1 y hy
  have a0 : jag I (iq_upI (iq_upI I 72 4 0) 72 5 (-1)) := jag_up (jag_up (jag_rf I) rfl) rfl
  obtain ⟨I1, e1, a1, h1, g4, g5⟩ : ∃ I', zS_J7_fill_53178_73_l5 0 41 ir_F (jn 0, iq_upI (iq_upI I 72 4 0) 72 5 (-1)) = some I' ∧ jag I I' ∧ (∀ j, j < 41 → I' 73 j = jn 0) ∧ I' 72 4 = 0 ∧ I' 72 5 = -1 := by
    refine js_inv (fun i v => v.1 = jn i ∧ jag I v.2 ∧ (∀ j, j < i → v.2 73 j = jn 0) ∧ v.2 72 4 = 0 ∧ v.2 72 5 = -1) 41 _ ?_ ?_ 41 0 _ ir_F (by omega) ⟨rfl, a0, fun j hj => by omega, by dsimp only; rw [up_ni (by decide), up_eq], by dsimp only; rw [up_eq]⟩ (by unfold ir_F; omega)
    · rintro i ⟨x, I1⟩ hi ⟨hv, ha, h1, g4, g5⟩
      simp only at hv ha h1 g4 g5
      subst hv
      refine ⟨(jn (i + 1), iq_upI I1 73 i 0), ?_, rfl, jag_up ha rfl, fun j hj => ?_, ?_, ?_⟩
      · dsimp only
        unfold zS_J7_fill_53178_73_l5_b
        rw [if_neg (by rw [show (41 : Int32) = jn 41 from rfl, jn_le (by omega) (by omega)]; omega), if_pos (by rw [jn_in (by omega)]; omega), ir_let, jn_clamp (by omega), show (1 : Int32) = jn 1 from rfl, jn_add]
      · dsimp only
        by_cases e : j = i
        · subst e; rw [up_eq]; rfl
        · rw [up_ni e]; exact h1 j (by omega)
      · dsimp only; rw [up_nk (by decide)]; exact g4
      · dsimp only; rw [up_nk (by decide)]; exact g5
    · rintro ⟨x, I1⟩ ⟨hv, ha, h1, g4, g5⟩
      simp only at hv ha h1 g4 g5
      subst hv
      refine ⟨I1, ?_, ha, h1, g4, g5⟩
      dsimp only
      unfold zS_J7_fill_53178_73_l5_b
      rw [if_pos (by decide)]
  obtain ⟨I2, e2, a2, M, P, h4, h5, hS⟩ : ∃ I', zW_findShared_l40 (jn y) (jn z) (jn (gS g y).length) (jn (gS g z).length) ir_F (jn 0, I1) = some I' ∧ jag I1 I' ∧ ∃ M P, I' 72 4 = jn M ∧ I' 72 5 = jo P ∧ sR (fun p q n => sB (gW g y) (gW g z) (gS g y).length (gS g z).length p q n ∧ p + n ≤ (gS g y).length) M P := by
    refine js_inv (fun i v => v.1 = jn i ∧ jag I1 v.2 ∧ jT73 v.2 g y z i ∧ ∃ M P, v.2 72 4 = jn M ∧ v.2 72 5 = jo P ∧ sR (fun p q n => sB (gW g y) (gW g z) (gS g y).length (gS g z).length p q n ∧ p + n ≤ i) M P) (gS g y).length _ ?_ ?_ (gS g y).length 0 (jn 0, I1) ir_F (by omega) ⟨rfl, jag_rf I1, fun j hj => h1 j (by omega), 0, none, g4, g5, fun p j n hb => by have := hb.2; omega, Or.inl ⟨rfl, rfl⟩⟩ (by unfold ir_F; omega)
    · rintro i ⟨x, I2⟩ hi ⟨hv, ha, hT, M, P, h4, h5, hS⟩
      simp only at hv ha hT h4 h5
      subst hv
      have hG2 := jRG_up hG (jag_tr a1 ha)
      have wa : zG_wordAt_16 (jn y) (jn i) I2 = some (jn (gW g y i)) := jc_wordAt hg hG2 hy hi
      obtain ⟨I3, e3, a3, hT3, M', P', h4', h5', hS'⟩ := jc_fs60 (x4 := jn (gS g y).length) hm hg hG2 hy hz hi hT h4 h5 hS
      refine ⟨(jn (i + 1), I3), ?_, rfl, jag_tr ha a3, hT3, M', P', h4', h5', hS'⟩
      dsimp only
      unfold zW_findShared_l40_b
      rw [if_neg (by rw [jn_le (by omega) (by omega)]; omega), wa, Option.bind_some, e3, Option.bind_some, show (1 : Int32) = jn 1 from rfl, jn_add]
    · rintro ⟨x, I2⟩ ⟨hv, ha, hT, M, P, h4, h5, hS⟩
      simp only at hv ha hT h4 h5
      subst hv
      refine ⟨I2, ?_, ha, M, P, h4, h5, hS⟩
      dsimp only
      unfold zW_findShared_l40_b
      rw [if_pos (by rw [jn_le (by omega) (by omega)]; omega)]
  refine ⟨I2, M, P, ?_, jag_tr a1 a2, h4, h5, hS⟩
  have mi : ir_min (jn (gS g z).length) (40 : Int32) = jn (gS g z).length := by
    rw [show (40 : Int32) = jn 40 from rfl, jn_min (by omega) (by omega), Nat.min_eq_left hz40]
  simp only [jn0] at e1 e2
  simp only [zW_findShared, zS_J7_fill_53178_73, jc_lengthOf hg hG hy, jc_lengthOf hg hG hz, ir_let, iq_sm, ir_sm, jzE, j10, Option.bind_some, ↓reduceIte, not_true_eq_false, not_false_eq_true, e1, mi, e2]
def cP (a b : Nat → Nat) (na nb i j n : Nat) : Bool := !(decide (i + n < na) && (decide (j + n < nb) && decide (a (i + n) = b (j + n))))
theorem cP_sp {a b : Nat → Nat} {na nb i j : Nat} (hna : na ≤ 40) : ∃ L, L ≤ 40 ∧ (∀ n, n < L → i + n < na ∧ j + n < nb ∧ a (i + n) = b (j + n)) ∧ (¬ i + L < na ∨ ¬ j + L < nb ∨ ¬ a (i + L) = b (j + L)) := by
  rcases gFst_sp (P := cP a b na nb i j) (c := 41) (i := 0) with ⟨_, h2⟩ | ⟨L, _, _, h3, h4, h5⟩
  · have := h2 40 (by omega) (by omega)
    simp only [cP, Bool.not_eq_false', Bool.and_eq_true] at this
    have := of_decide_eq_true this.1
    omega
  · refine ⟨L, by omega, fun n hn => ?_, ?_⟩
    · have := h5 n (by omega) hn
      simp only [cP, Bool.not_eq_false', Bool.and_eq_true] at this
      exact ⟨of_decide_eq_true this.1, of_decide_eq_true this.2.1, of_decide_eq_true this.2.2⟩
    · simp only [cP, Bool.not_eq_true'] at h4
      by_cases q1 : i + L < na
      · by_cases q2 : j + L < nb
        · by_cases q3 : a (i + L) = b (j + L)
          · rw [decide_eq_true q1, decide_eq_true q2, decide_eq_true q3] at h4; cases h4
          · exact Or.inr (Or.inr q3)
        · exact Or.inr (Or.inl q2)
      · exact Or.inl q1
theorem jm_sh69 {I : iq_I} {m : jMu} {g : jGa} {y z i j : Nat} {x3 x4 x5 : Int32} (hm : mOk m) (hg : gOk m g) (hR : jRR (I 98) g) (hy : y < gY g) (hz : z < gY g) (hi : i < (gS g y).length) (hj : j < (gS g z).length) :
    ∃ L, L ≤ 40 ∧ sB (gW g y) (gW g z) (gS g y).length (gS g z).length i j L ∧ (∀ n, sB (gW g y) (gW g z) (gS g y).length (gS g z).length i j n → n ≤ L) ∧ zM_shared_l69 (jn y) (jn z) x3 x4 x5 (jn i) (jn j) I ir_F (jn 0) = some (jn L) := by
  have hz40 := hg.2.2.1 z hz
  have hy40 := hg.2.2.1 y hy
  have h5 := hg.1
  obtain ⟨L, hL, h1, h2⟩ := cP_sp (a := gW g y) (b := gW g z) (nb := (gS g z).length) (i := i) (j := j) hy40
  have iy : iq_in (jn y) 206 := by rw [jn_in (by omega)]; omega
  have iz : iq_in (jn z) 206 := by rw [jn_in (by omega)]; omega
  have sb : i + L ≤ (gS g y).length ∧ j + L ≤ (gS g z).length := by
    by_cases e : L = 0
    · subst e; omega
    · have := h1 (L - 1) (by omega); omega
  refine ⟨L, hL, ⟨sb.1, sb.2, fun k hk => (h1 k hk).2.2⟩, fun n hn => ?_, ?_⟩
  · by_cases q : n ≤ L
    · exact q
    · exfalso
      obtain ⟨r1, r2, r3⟩ := hn
      have r4 := r3 L (by omega)
      rcases h2 with q1 | q1 | q1
      · omega
      · omega
      · exact q1 r4
  · refine js_seq (fun n => jn n) L _ (fun n hn => ?_) ?_ L 0 ir_F (by omega) (by unfold ir_F; omega)
    · obtain ⟨q1, q2, q3⟩ := h1 n hn
      have w1 : zM_wordAt_76_98 (jn y) (jn (i + n)) I = some (jn (gW g y (i + n))) := jm_wordAt hg hR hy q1
      have w2 : zM_wordAt_76_98 (jn z) (jn (j + n)) I = some (jn (gW g z (j + n))) := jm_wordAt hg hR hz q2
      unfold zM_shared_l69_b
      rw [if_pos iy, jn_clamp (by omega), jRR_L hR y hy, jn_add, if_neg (by rw [jn_le (by omega) (by omega)]; omega), if_pos iz, jn_clamp (by omega), jRR_L hR z hz, jn_add, if_neg (by rw [jn_le (by omega) (by omega)]; omega), w1, Option.bind_some, w2, Option.bind_some, q3, if_neg (fun h => h rfl), show (1 : Int32) = jn 1 from rfl, jn_add]
    · unfold zM_shared_l69_b
      by_cases q1 : i + L < (gS g y).length
      · by_cases q2 : j + L < (gS g z).length
        · have q3 : ¬ gW g y (i + L) = gW g z (j + L) := by
            rcases h2 with q | q | q
            · exact absurd q1 q
            · exact absurd q2 q
            · exact q
          have b1 := gW_lt hm hg hy q1
          have b2 := gW_lt hm hg hz q2
          have w1 : zM_wordAt_76_98 (jn y) (jn (i + L)) I = some (jn (gW g y (i + L))) := jm_wordAt hg hR hy q1
          have w2 : zM_wordAt_76_98 (jn z) (jn (j + L)) I = some (jn (gW g z (j + L))) := jm_wordAt hg hR hz q2
          rw [if_pos iy, jn_clamp (by omega), jRR_L hR y hy, jn_add, if_neg (by rw [jn_le (by omega) (by omega)]; omega), if_pos iz, jn_clamp (by omega), jRR_L hR z hz, jn_add, if_neg (by rw [jn_le (by omega) (by omega)]; omega), w1, Option.bind_some, w2, Option.bind_some, if_pos (by rw [jn_inj (by omega) (by omega)]; exact q3)]
        · rw [if_pos iy, jn_clamp (by omega), jRR_L hR y hy, jn_add, if_neg (by rw [jn_le (by omega) (by omega)]; omega), if_pos iz, jn_clamp (by omega), jRR_L hR z hz, jn_add, if_pos (by rw [jn_le (by omega) (by omega)]; omega)]
      · rw [if_pos iy, jn_clamp (by omega), jRR_L hR y hy, jn_add, if_pos (by rw [jn_le (by omega) (by omega)]; omega)]
