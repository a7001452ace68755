/-! ===== rules, on the trial galleries ===== -/
theorem jc_fill49C5 {I : iq_I} {m : jMu} {g : jGa} (hm : mOk m) (hU : jRU I m) (hg : gOk m g) (hG : jRG I 50 51 52 58 g) {y w d : Nat} (hy : y < gY g) (hw : w < mW m) {s0 : Int32} {b : Bool} (hb : s0 = jB b) (hbg : gSame m g y w = b) :
    ∃ I', zH_fillValues_69_50_49 (jn y) (jn w) (jn d) (jn (gS g y).length) s0 I = some I' ∧ jch [70] I I' ∧ ∀ k, k < 7 → I' 70 k = jvl m g y w d k := by
  have a4 : jch [70] I (iq_upI I 70 0 (jn (mK m w))) := jch_up (jch_rf _ I) (by decide)
  have a6 : jch [70] I (iq_upI (iq_upI I 70 0 (jn (mK m w))) 70 1 (jn (mL m w))) := jch_up a4 (by decide)
  have a7 : jch [70] I (iq_upI (iq_upI (iq_upI I 70 0 (jn (mK m w))) 70 1 (jn (mL m w))) 70 2 (jn w)) := jch_up a6 (by decide)
  have a8 : jch [70] I (iq_upI (iq_upI (iq_upI (iq_upI I 70 0 (jn (mK m w))) 70 1 (jn (mL m w))) 70 2 (jn w)) 70 3 (jn d)) := jch_up a7 (by decide)
  have a9 : jch [70] I (iq_upI (iq_upI (iq_upI (iq_upI (iq_upI I 70 0 (jn (mK m w))) 70 1 (jn (mL m w))) 70 2 (jn w)) 70 3 (jn d)) 70 4 (jn (gS g y).length)) := jch_up a8 (by decide)
  have t := jc_timesIn5 hm hg (jRG_ch hG a9 (by decide)) hy hw
  have l := jc_lengthOf4 hm (jRU_ch hU a4 (by decide)) hw
  have a11 := jch_up (k := 70) (i := 5) (v := jn (gTm g y w)) a9 (by decide)
  have g130 : ∀ (x : Int32) (J : iq_I), zH_fillValues_69_50_130 (6 : Int32) x J = some (iq_upI J 70 6 x) := fun x J => by
    unfold zH_fillValues_69_50_130
    rw [if_pos (by decide), ir_let]
    rfl
  refine ⟨_, ?_, jch_up (k := 70) (i := 6) (v := jB b) a11 (by decide), ?_⟩
  · unfold zH_fillValues_69_50_49
    rw [jc_kindOf hm hU hw, Option.bind_some, ir_let, l, Option.bind_some, ir_let, ir_let, ir_let, ir_let, t, Option.bind_some, ir_let]
    subst hb
    cases b with
    | false => rw [if_pos (by rfl)]; exact g130 _ _
    | true => rw [if_neg (by decide)]; exact g130 _ _
  · intro k hk
    have q : k = 0 ∨ k = 1 ∨ k = 2 ∨ k = 3 ∨ k = 4 ∨ k = 5 ∨ k = 6 := by omega
    rcases q with rfl | rfl | rfl | rfl | rfl | rfl | rfl
    · rw [up_ni (by decide), up_ni (by decide), up_ni (by decide), up_ni (by decide), up_ni (by decide), up_ni (by decide), up_eq]; rfl
    · rw [up_ni (by decide), up_ni (by decide), up_ni (by decide), up_ni (by decide), up_ni (by decide), up_eq]; rfl
    · rw [up_ni (by decide), up_ni (by decide), up_ni (by decide), up_ni (by decide), up_eq]; rfl
    · rw [up_ni (by decide), up_ni (by decide), up_ni (by decide), up_eq]; rfl
    · rw [up_ni (by decide), up_ni (by decide), up_eq]; rfl
    · rw [up_ni (by decide), up_eq]; rfl
    · rw [up_eq, ← hbg]; rfl
theorem jc_fillC5 {I : iq_I} {m : jMu} {g : jGa} (hm : mOk m) (hU : jRU I m) (hg : gOk m g) (hG : jRG I 50 51 52 58 g) {y w d : Nat} (hy : y < gY g) (hw : w < mW m) :
    ∃ I', zH_fillValues_69_50 (jn y) (jn w) (jn d) I = some I' ∧ jch [70] I I' ∧ ∀ k, k < 7 → I' 70 k = jvl m g y w d k := by
  have h5 := hg.1
  have h40 := hg.2.2.1 y hy
  unfold zH_fillValues_69_50
  rw [jc_lengthOf5 hg hG hy, Option.bind_some]
  by_cases l0 : (gS g y).length = 0
  · have q : zG_wordAt_50 (jn y) (jn (gS g y).length - (1 : Int32)) I = some (-1 : Int32) := by
      unfold zG_wordAt_50
      rw [if_neg (by rw [jl0, jn_lt (by omega) (by omega)]; omega), jRG_Y hG, if_neg (by rw [jn_le (by omega) (by omega)]; omega), l0, if_pos (by decide)]
    rw [q, Option.bind_some, if_pos (Eq.refl (-1 : Int32))]
    unfold zH_fillValues_69_50_48
    exact jc_fill49C5 (b := false) hm hU hg hG hy hw rfl (by unfold gSame; rw [decide_eq_false (by omega)]; rfl)
  · have e : jn (gS g y).length - (1 : Int32) = jn ((gS g y).length - 1) := jn_sub (b := 1) (by omega)
    have hwl := hg.2.2.2.1 y ((gS g y).length - 1) hy (by omega)
    have h14 := hm.2.1
    rw [e, jc_wordAt5 hg hG hy (by omega), Option.bind_some, if_neg (jn_ne (by omega) (by decide)), jc_lastLetter hm hU hwl, Option.bind_some, jc_lastLetter hm hU hw, Option.bind_some]
    by_cases s : mLast m ((gS g y).getD ((gS g y).length - 1) 0) = mLast m w
    · rw [if_neg (fun h => h s)]
      exact jc_fill49C5 (b := true) hm hU hg hG hy hw rfl (by unfold gSame; rw [decide_eq_true s, decide_eq_true (by omega)]; rfl)
    · rw [if_pos s]
      unfold zH_fillValues_69_50_48
      exact jc_fill49C5 (b := false) hm hU hg hG hy hw rfl (by unfold gSame; rw [decide_eq_false s, Bool.and_false])
theorem jc_isLawfulC5 {I : iq_I} {m : jMu} {g : jGa} (hm : mOk m) (hU : jRU I m) (hg : gOk m g) (hG : jRG I 50 51 52 58 g) {y w d : Nat} (hy : y < gY g) (hw : w < mW m) :
    ∃ I', zH_isLawful_69_50 (jn y) (jn w) (jn d) I = some (jB (gLaw m g y w d), I') ∧ jch [12, 70] I I' := by
  unfold zH_isLawful_69_50 gLaw
  rw [jRU_l hU]
  cases hC : mC m with
  | none =>
    refine ⟨I, ?_, jch_rf _ I⟩
    rw [if_pos (Eq.refl (none : Option (List Int32))), if_neg (fun h => h rfl)]
    rfl
  | some c =>
    obtain ⟨I1, e1, a1, v1⟩ := jc_fillC5 (d := d) hm hU hg hG hy hw
    obtain ⟨I2, e2, a2⟩ := jc_give (r := 4) (v := jvl m g y w d) (by decide) (hm.2.2.2.2.2.2.2 c hC) ((jRU_ch hU a1 (by decide)).2.2.2.2.2.2.2.2.2.2.2.2.2.2 c hC) v1
    have e2 : zE_give (4 : Int32) I1 = some ((jev (jvl m g y w d) c []).headD 0, I2) := e2
    refine ⟨I2, ?_, jch_tr (jch_mo a1 (by decide)) fun k i hk => a2 k i (fun e => hk (by subst e; decide))⟩
    have hn : ¬ some c = (none : Option (List Int32)) := fun h => by cases h
    rw [if_neg hn, if_pos (by decide), e1, Option.bind_some, e2, Option.bind_some]
    dsimp only
    by_cases q : (jev (jvl m g y w d) c []).headD 0 = 0
    · rw [if_pos q, decide_eq_false (fun h => h q)]; rfl
    · rw [if_neg q, decide_eq_true q]; rfl
theorem jc_isFreeC5 {I : iq_I} {m : jMu} {g : jGa} (hm : mOk m) (hU : jRU I m) (hg : gOk m g) (hG : jRG I 50 51 52 58 g) {y w : Nat} {o : Option Nat} (ho : ∀ s, o = some s → s < mS m) (hy : y < gY g) (hw : w < mW m) :
    zH_isFree_69_50 (jn y) (jo o) (jn w) I = some (jB (gFree m g y o w)) := by
  have h10 := hm.1
  have h40 := hg.2.2.1 y hy
  unfold zH_isFree_69_50 gFree
  cases o with
  | none => rw [jc_leadsTo0, Option.bind_some, if_pos (show jo none = -1 from rfl)]; rfl
  | some s =>
    have hs := ho s rfl
    rw [jo_some, jc_leadsTo hm hU hs hw, Option.bind_some]
    dsimp only
    cases q : mLd m s w with
    | none => rw [if_pos (show jo none = -1 from rfl)]; rfl
    | some t =>
      have ht := mLd_lt hm hs hw q
      rw [jo_some, if_neg (jn_ne (by omega) (by decide)), jc_someFollows hm hU ht, Option.bind_some, jc_lengthOf5 hg hG hy, Option.bind_some]
      dsimp only
      cases mFol m t with
      | false => rw [if_pos (show jB false = 0 from rfl)]; rfl
      | true =>
        rw [if_neg (by decide)]
        by_cases l : (gS g y).length < 40
        · rw [if_neg (by rw [jl40, jn_le (by omega) (by omega)]; omega), decide_eq_true l]; rfl
        · rw [if_pos (by rw [jl40, jn_le (by omega) (by omega)]; omega), decide_eq_false l]; rfl
theorem jc_mayC5 {I : iq_I} {m : jMu} {g : jGa} (hm : mOk m) (hU : jRU I m) (hg : gOk m g) (hG : jRG I 50 51 52 58 g) {y : Nat} {o : Option Nat} (ho : ∀ s, o = some s → s < mS m) (hy : y < gY g) :
    ∃ w, zH_whatMayCome_69_50_l16 (jn y) (jo o) ir_F ((0 : Int32), (0 : Int32), I) = some w ∧ w.1 = jb (mW m) (pMay m g y o) ∧ jch [12, 70] I w.2 := by
  have h14 := hm.2.1
  refine js_inv (fun i v => v.1 = jb i (pMay m g y o) ∧ v.2.1 = jn i ∧ jch [12, 70] I v.2.2) (mW m) _ ?_ ?_ (mW m) 0 ((0 : Int32), (0 : Int32), I) ir_F (by omega) ⟨rfl, rfl, jch_rf _ I⟩ (by unfold ir_F; omega)
  · rintro i ⟨x4, x5, I1⟩ hi ⟨h1, h2, a⟩
    simp only at h1 h2 a
    subst h1
    subst h2
    have hU1 := jRU_ch hU a (by decide)
    have hG1 : jRG I1 50 51 52 58 g := jRG_ch hG a (by decide)
    have b0 : ¬ I1 4 2 ≤ jn i := by rw [jRU_W hU1, jn_le (by omega) (by omega)]; omega
    have ad : jn i + (1 : Int32) = jn (i + 1) := jn_add i 1
    obtain ⟨I2, e2, a2⟩ := jc_isLawfulC5 (d := gD g) hm hU1 hg hG1 hy hi
    have fr := jc_isFreeC5 hm hU1 hg hG1 ho hy hi
    dsimp only
    unfold zH_whatMayCome_69_50_l16_b
    rw [if_neg b0, fr, Option.bind_some, jRG_D hG1, ad]
    cases f : gFree m g y o i with
    | false =>
      refine ⟨(jb (i + 1) (pMay m g y o), jn (i + 1), I1), ?_, rfl, rfl, a⟩
      rw [if_pos (show jB false = 0 from rfl), jbS0 (by unfold pMay; rw [f]; rfl)]
    | true =>
      rw [if_neg (by decide), e2, Option.bind_some]
      dsimp only
      cases l : gLaw m g y i (gD g) with
      | false =>
        refine ⟨(jb (i + 1) (pMay m g y o), jn (i + 1), I2), ?_, rfl, rfl, jch_tr a a2⟩
        rw [if_pos (show jB false = 0 from rfl), jbS0 (by unfold pMay; rw [f, l]; rfl)]
      | true =>
        refine ⟨(jb (i + 1) (pMay m g y o), jn (i + 1), I2), ?_, rfl, rfl, jch_tr a a2⟩
        rw [if_neg (by decide), ← jbS1 (show pMay m g y o i = true by unfold pMay; rw [f, l]; rfl)]
        rfl
  · rintro ⟨x4, x5, I1⟩ ⟨h1, h2, a⟩
    simp only at h1 h2 a
    subst h1
    subst h2
    refine ⟨(jb (mW m) (pMay m g y o), I1), ?_, rfl, a⟩
    dsimp only
    unfold zH_whatMayCome_69_50_l16_b
    rw [if_pos (by rw [jRU_W (jRU_ch hU a (by decide)), jn_le (by omega) (by omega)]; omega)]
theorem jc_weighC5 {I : iq_I} {m : jMu} {g : jGa} (hm : mOk m) (hU : jRU I m) (hg : gOk m g) (hG : jRG I 50 51 52 58 g) {v y : Nat} (hv : v < mV m) (hy : y < gY g) :
    ∃ I', zH_weigh_69_50 (jn v) (jn y) I = some (jn (gSu m g v y (mW m)), I') ∧ jch [12, 70, 71] I I' ∧ ∀ w, w < 14 → I' 71 w = jn (gWt m g v y w) := by
  have h14 := hm.2.1
  have h4 := hm.2.2.2.2.2.1
  have ho : ∀ s, gSt m g y (gB g y) none = some s → s < mS m := fun s h => gSt_lt hm hg hy (hg.2.1 y hy) h
  obtain ⟨⟨w1, I1⟩, q1, q2, a1⟩ := jc_mayC5 hm hU hg hG ho hy
  simp only at q2 a1
  subst q2
  obtain ⟨⟨v1, v2⟩, k1, k2, k3, k4⟩ : ∃ r, zH_weigh_69_50_l14 (jn v) (jn y) (jb (mW m) (pMay m g y (gSt m g y (gB g y) none))) ir_F ((0 : Int32), (0 : Int32), I1) = some r ∧ r.1 = jn (gSu m g v y 14) ∧ jch [12, 70, 71] I r.2 ∧ ∀ w, w < 14 → r.2 71 w = jn (gWt m g v y w) := by
    refine js_inv (fun i r => r.1 = jn (gSu m g v y i) ∧ r.2.1 = jn i ∧ jch [12, 70, 71] I r.2.2 ∧ ∀ w, w < i → r.2.2 71 w = jn (gWt m g v y w)) 14 _ ?_ ?_ 14 0 ((0 : Int32), (0 : Int32), I1) ir_F (by omega) ⟨rfl, rfl, jch_mo a1 (by decide), fun w hw => by omega⟩ (by unfold ir_F; omega)
    · rintro i ⟨x5, x6, J⟩ hi ⟨h1, h2, a, h3⟩
      simp only at h1 h2 a h3
      subst h1
      subst h2
      have b63 : ∀ (x7 : Int32) (K : iq_I), jch [12, 70] J K → jwt x7 = gWt m g v y i → ∃ r', zH_weigh_69_50_63 (jn v) (jn y) (jb (mW m) (pMay m g y (gSt m g y (gB g y) none))) (jn (gSu m g v y i)) (jn i) x7 K = some (.inl r') ∧ r'.1 = jn (gSu m g v y (i + 1)) ∧ r'.2.1 = jn (i + 1) ∧ jch [12, 70, 71] I r'.2.2 ∧ ∀ w, w < i + 1 → r'.2.2 71 w = jn (gWt m g v y w) := by
        intro x7 K aK hx
        refine ⟨(jn (gSu m g v y (i + 1)), jn (i + 1), iq_upI K 71 i (jn (gWt m g v y i))), ?_, rfl, rfl, jch_up (jch_tr a (jch_mo aK (by decide))) (by decide), fun w hw => ?_⟩
        · unfold zH_weigh_69_50_63
          rw [if_pos (by rw [jn_in (by omega)]; omega), jwt_c, hx, ir_let, if_pos (by rw [jn_in (by omega)]; omega), jn_clamp (by omega), up_eq, jn_add, show jn i + (1 : Int32) = jn (i + 1) from jn_add i 1]
          rfl
        · show iq_upI K 71 i _ 71 w = _
          by_cases e : w = i
          · subst e; rw [up_eq]
          · rw [up_ni e, aK 71 w (by decide), h3 w (by omega)]
      dsimp only
      unfold zH_weigh_69_50_l14_b
      rw [if_neg (by rw [jl14, jn_le (by omega) (by omega)]; omega)]
      have bt : (((jb (mW m) (pMay m g y (gSt m g y (gB g y) none))) >>> (jn i &&& 31)) &&& (1 : Int32) = 0) = ((decide (i < mW m) && pMay m g y (gSt m g y (gB g y) none) i) = false) := by
        rw [jt_bit (by omega), jt_jb (by omega)]
      cases p : (decide (i < mW m) && pMay m g y (gSt m g y (gB g y) none) i) with
      | false =>
        rw [p] at bt
        rw [if_pos (by rw [bt])]
        exact b63 0 J (jch_rf _ J) (by unfold gWt; rw [p, if_neg (by decide)]; rfl)
      | true =>
        rw [p] at bt
        rw [if_neg (by rw [bt]; decide)]
        have hiW : i < mW m := by
          cases q : decide (i < mW m) with
          | true => exact of_decide_eq_true q
          | false => rw [q] at p; cases p
        have hU1 := jRU_ch hU a (by decide)
        have hG1 : jRG J 50 51 52 58 g := jRG_ch hG a (by decide)
        obtain ⟨K1, e1, c1, u1⟩ := jc_fillC5 (d := gD g) hm hU1 hg hG1 hy hiW
        obtain ⟨K2, e2, c2⟩ := jc_give (r := v) (v := jvl m g y i (gD g)) (by omega) (hm.2.2.2.2.2.2.1 v hv) ((jRU_ch hU1 c1 (by decide)).2.2.2.2.2.2.2.2.2.2.2.2.2.1 v hv) u1
        rw [jRG_D hG1, e1, Option.bind_some, e2, Option.bind_some]
        exact b63 _ K2 (jch_tr (jch_mo c1 (by decide)) fun k j hk => c2 k j (fun e => hk (by subst e; decide))) (by unfold gWt; rw [p, if_pos rfl])
    · rintro ⟨x5, x6, J⟩ ⟨h1, h2, a, h3⟩
      simp only at h1 h2 a h3
      subst h1
      subst h2
      exact ⟨(jn (gSu m g v y 14), J), rfl, rfl, a, h3⟩
  simp only at k2 k3 k4
  subst k2
  refine ⟨v2, ?_, k3, k4⟩
  unfold zH_weigh_69_50 zH_whatMayCome_69_50
  rw [jc_stateOf5 hm hU hg hG hy, Option.bind_some, q1, Option.bind_some, Option.bind_some]
  dsimp only
  rw [k1, Option.bind_some, gSu_W hm]
theorem jm_rule144C5 {I : iq_I} {m : jMu} {g : jGa} {y w x : Nat} {c : List Int32} (hc : jcode c) (h : jRn I 84 x c) {s2 : Int32} (hb : s2 = jB (gSame m g y w)) :
    ∃ I', zM_rule_76_99_144 (jn x) (6 : Int32) s2 (jR8 I (jn (mK m w)) (jn (mL m w)) (jn w) (jn (gD g)) (jn (gS g y).length) (jn (gTm g y w))) = some ((jev (jvl m g y w (gD g)) c []).headD 0, I') ∧ jch [101, 102] I I' := by
  subst hb
  obtain ⟨I', q1, q2⟩ := jm_reckons (I := iq_upI (jR8 I (jn (mK m w)) (jn (mL m w)) (jn w) (jn (gD g)) (jn (gS g y).length) (jn (gTm g y w))) 101 6 (jB (gSame m g y w))) (v := jvl m g y w (gD g)) hc ⟨h.1, fun i hi => by rw [up_nk (by decide), jR8_nk (by decide)]; exact h.2 i hi⟩ (fun k hk => by
    have q : k = 0 ∨ k = 1 ∨ k = 2 ∨ k = 3 ∨ k = 4 ∨ k = 5 ∨ k = 6 := by omega
    unfold jR8
    rcases q with rfl | rfl | rfl | rfl | rfl | rfl | rfl
    · rw [up_ni (by decide), up_ni (by decide), up_ni (by decide), up_ni (by decide), up_ni (by decide), up_ni (by decide), up_eq]; rfl
    · rw [up_ni (by decide), up_ni (by decide), up_ni (by decide), up_ni (by decide), up_ni (by decide), up_eq]; rfl
    · rw [up_ni (by decide), up_ni (by decide), up_ni (by decide), up_ni (by decide), up_eq]; rfl
    · rw [up_ni (by decide), up_ni (by decide), up_ni (by decide), up_eq]; rfl
    · rw [up_ni (by decide), up_ni (by decide), up_eq]; rfl
    · rw [up_ni (by decide), up_eq]; rfl
    · rw [up_eq]; rfl)
  refine ⟨I', ?_, jch_tr (jch_up jR8_ch (by decide)) fun k i hk => q2 k i (fun e => hk (by subst e; decide))⟩
  unfold zM_rule_76_99_144
  rw [if_pos (by decide), ir_let]
  have q1' : zM_reckons (jn x) (iq_upI (jR8 I (jn (mK m w)) (jn (mL m w)) (jn w) (jn (gD g)) (jn (gS g y).length) (jn (gTm g y w))) 101 (Int32.toNatClampNeg 6) (jB (gSame m g y w))) = some ((jev (jvl m g y w (gD g)) c []).headD 0, I') := q1
  rw [q1', Option.bind_some]
theorem jm_ruleC5 {I : iq_I} {m : jMu} {g : jGa} (hm : mOk m) (hN : jRN I m) (hg : gOk m g) (hR : jRR (I 99) g) {y w x : Nat} {c : List Int32} (hy : y < gY g) (hw : w < mW m) (hc : jcode c) (h : jRn I 84 x c) :
    ∃ I', zM_rule_76_99 (jn x) (jn y) (jn w) I = some ((jev (jvl m g y w (gD g)) c []).headD 0, I') ∧ jch [101, 102] I I' := by
  have h5 := hg.1
  have h14 := hm.2.1
  have h40 := hg.2.2.1 y hy
  have i14 : iq_in (jn w) 14 := by rw [jn_in (by omega)]; omega
  have i206 : iq_in (jn y) 206 := by rw [jn_in (by omega)]; omega
  have kw : (jn w).toNatClampNeg = w := jn_clamp (by omega)
  have ky : (jn y).toNatClampNeg = y := jn_clamp (by omega)
  have e79 := jRN_K hN w hw
  have e78 := jRN_L hN w hw
  have e5 := jRR_D hR
  have ey := jRR_L hR y hy
  unfold zM_rule_76_99
  rw [jm_ruleL5 hm hg hR hy hw, Option.bind_some]
  simp only [if_pos i14, if_pos i206, ir_let]
  simp only [kw, ky, up_nkx 78 101 (by decide), up_nkx 99 101 (by decide), e79, e78, e5, ey]
  show ∃ I', (if jn (gS g y).length ≤ 0 then zM_rule_76_99_143 (jn x) (6 : Int32) (jR8 I (jn (mK m w)) (jn (mL m w)) (jn w) (jn (gD g)) (jn (gS g y).length) (jn (gTm g y w))) else _) = _ ∧ _
  by_cases l0 : (gS g y).length = 0
  · rw [if_pos (by rw [jl0, jn_le (by omega) (by omega)]; omega)]
    unfold zM_rule_76_99_143
    exact jm_rule144C5 hc h (by unfold gSame; rw [decide_eq_false (by omega)]; rfl)
  · have e : jn (gS g y).length - (1 : Int32) = jn ((gS g y).length - 1) := jn_sub (b := 1) (by omega)
    have hwl := hg.2.2.2.1 y ((gS g y).length - 1) hy (by omega)
    have hN8 : jRN (jR8 I (jn (mK m w)) (jn (mL m w)) (jn w) (jn (gD g)) (jn (gS g y).length) (jn (gTm g y w))) m := jRN_ag hN jR8_ag
    have hR8 : jRR ((jR8 I (jn (mK m w)) (jn (mL m w)) (jn w) (jn (gD g)) (jn (gS g y).length) (jn (gTm g y w))) 99) g := jRR_cg hR fun j => jR8_nk (by decide)
    have w1 := jm_wordAt5 hg hR8 hy (i := (gS g y).length - 1) (by omega)
    have w2 := jm_lastLetter hm hN8 hwl
    have w3 := jm_lastLetter hm hN8 hw
    unfold jR8 at w1 w2 w3
    rw [if_neg (by rw [jl0, jn_le (by omega) (by omega)]; omega), e, w1, Option.bind_some, w2, Option.bind_some, w3, Option.bind_some]
    by_cases s : mLast m ((gS g y).getD ((gS g y).length - 1) 0) = mLast m w
    · rw [if_neg (fun h => h s)]
      exact jm_rule144C5 hc h (by unfold gSame; rw [decide_eq_true s, decide_eq_true (by omega)]; rfl)
    · rw [if_pos s]
      unfold zM_rule_76_99_143
      exact jm_rule144C5 hc h (by unfold gSame; rw [decide_eq_false s, Bool.and_false]; rfl)
theorem jm_mayComeC5 {I : iq_I} {m : jMu} {g : jGa} (hm : mOk m) (hN : jRN I m) (hg : gOk m g) (hR : jRR (I 99) g) {y w : Nat} {o : Option Nat} (ho : ∀ s, o = some s → s < mS m) (hy : y < gY g) (hw : w < mW m) :
    ∃ I', zM_mayCome_76_99 (jn y) (jo o) (jn w) I = some (jB (gFree m g y o w && gLaw m g y w (gD g)), I') ∧ jch [101, 102] I I' := by
  have h10 := hm.1
  have h5 := hg.1
  have h40 := hg.2.2.1 y hy
  unfold zM_mayCome_76_99 gFree
  cases o with
  | none => exact ⟨I, by rw [if_pos (show jo none = -1 from rfl)]; rfl, jch_rf _ I⟩
  | some s =>
    have hs := ho s rfl
    rw [jo_some, if_neg (jn_ne (by omega) (by decide)), if_pos (by rw [jn_in (by omega)]; omega), jn_clamp (by omega), jRR_L hR y hy]
    dsimp only
    by_cases l : (gS g y).length < 40
    · rw [if_pos (by rw [jl40, jn_inj (by omega) (by omega)]; omega), jm_leads hm hN hs hw, Option.bind_some]
      cases q : mLd m s w with
      | none => exact ⟨I, by rw [if_pos (show jo none = -1 from rfl)]; rfl, jch_rf _ I⟩
      | some t =>
        have ht := mLd_lt hm hs hw q
        rw [jo_some, if_neg (jn_ne (by omega) (by decide)), jm_canFollow hm hN ht, Option.bind_some, decide_eq_true l]
        dsimp only
        cases mFol m t with
        | false => exact ⟨I, by rw [if_pos (show jB false = 0 from rfl)]; rfl, jch_rf _ I⟩
        | true =>
          rw [if_neg (by decide)]
          unfold gLaw
          cases hC : mC m with
          | none => exact ⟨I, by rw [hN.2.2.2.2.2.2.2.2.2.2.2.2.1 hC, if_pos (Eq.refl (-1 : Int32))]; rfl, jch_rf _ I⟩
          | some c =>
            obtain ⟨x, ex, hx⟩ := hN.2.2.2.2.2.2.2.2.2.2.2.2.2 c hC
            obtain ⟨I1, e1, a1⟩ := jm_ruleC5 hm hN hg hR hy hw (hm.2.2.2.2.2.2.2 c hC) hx
            have hx4 := hx.1
            rw [ex, if_neg (jn_ne (by omega) (by decide)), e1, Option.bind_some]
            dsimp only
            by_cases z : (jev (jvl m g y w (gD g)) c []).headD 0 = 0
            · exact ⟨I1, by rw [if_pos z, decide_eq_false (fun h => h z)]; rfl, a1⟩
            · exact ⟨I1, by rw [if_neg z, decide_eq_true z]; rfl, a1⟩
    · rw [if_neg (by rw [jl40, jn_inj (by omega) (by omega)]; omega), decide_eq_false l]
      refine ⟨I, ?_, jch_rf _ I⟩
      cases mLd m s w with
      | none => rfl
      | some t => dsimp only; rw [Bool.and_false]; rfl
theorem jm_weightC5 {I : iq_I} {m : jMu} {g : jGa} (hm : mOk m) (hN : jRN I m) (hg : gOk m g) (hR : jRR (I 99) g) {v y w : Nat} (hv : v < mV m) (hy : y < gY g) (hw : w < mW m) :
    ∃ I', zM_weight_76_99 (jn v) (jn y) (jo (gSt m g y (gB g y) none)) (jn w) I = some (jn (gWt m g v y w), I') ∧ jch [101, 102] I I' := by
  have h4 := hm.2.2.2.2.2.1
  have ho : ∀ s, gSt m g y (gB g y) none = some s → s < mS m := fun s h => gSt_lt hm hg hy (hg.2.1 y hy) h
  obtain ⟨I1, e1, a1⟩ := jm_mayComeC5 hm hN hg hR ho hy hw
  unfold zM_weight_76_99
  rw [e1, Option.bind_some]
  dsimp only
  have ep : (gFree m g y (gSt m g y (gB g y) none) w && gLaw m g y w (gD g)) = pMay m g y (gSt m g y (gB g y) none) w := rfl
  rw [ep]
  cases p : pMay m g y (gSt m g y (gB g y) none) w with
  | false => exact ⟨I1, by rw [if_neg (fun h => h rfl)]; unfold gWt; rw [p, Bool.and_false, if_neg (by decide)]; rfl, a1⟩
  | true =>
    have hN1 := jRN_ch hN a1 (by decide)
    have hR1 : jRR (I1 99) g := jRR_cg hR fun j => a1 99 j (by decide)
    obtain ⟨x, ex, hx⟩ := hN1.2.2.2.2.2.2.2.2.2.2.2.1 v hv
    obtain ⟨I2, e2, a2⟩ := jm_ruleC5 hm hN1 hg hR1 hy hw (hm.2.2.2.2.2.2.1 v hv) hx
    refine ⟨I2, ?_, jch_tr a1 a2⟩
    rw [if_pos (by decide), if_pos (by rw [jn_in (by omega)]; omega), jn_clamp (by omega), ex, e2, Option.bind_some, jwt_m]
    unfold gWt
    rw [p, Bool.and_true, decide_eq_true hw, if_pos rfl]
theorem jm_weightsC5 {I : iq_I} {m : jMu} {g : jGa} (hm : mOk m) (hN : jRN I m) (hB : jRB I g) (hg : gOk m g) (hR : jRR (I 99) g) {v y : Nat} (hv : v < mV m) (hy : y < gY g) :
    ∃ I', zM_weights_76_99 (jn v) (jn y) I = some (jn (gSu m g v y (mW m)), I') ∧ jch [101, 102] I I' := by
  have h14 := hm.2.1
  obtain ⟨⟨v1, v2⟩, k1, k2, k3⟩ : ∃ r, zM_weights_76_99_l14 (jn v) (jn y) (jo (gSt m g y (gB g y) none)) ir_F ((0 : Int32), (0 : Int32), I) = some r ∧ r.1 = jn (gSu m g v y (mW m)) ∧ jch [101, 102] I r.2 := by
    refine js_inv (fun i r => r.1 = jn (gSu m g v y i) ∧ r.2.1 = jn i ∧ jch [101, 102] I r.2.2) (mW m) _ ?_ ?_ (mW m) 0 ((0 : Int32), (0 : Int32), I) ir_F (by omega) ⟨rfl, rfl, jch_rf _ I⟩ (by unfold ir_F; omega)
    · rintro i ⟨x5, x6, J⟩ hi ⟨h1, h2, a⟩
      simp only at h1 h2 a
      subst h1
      subst h2
      have hN1 := jRN_ch hN a (by decide)
      have hR1 : jRR (J 99) g := jRR_cg hR fun j => a 99 j (by decide)
      obtain ⟨J2, e2, a2⟩ := jm_weightC5 hm hN1 hg hR1 hv hy hi
      refine ⟨(jn (gSu m g v y (i + 1)), jn (i + 1), J2), ?_, rfl, rfl, jch_tr a a2⟩
      dsimp only
      unfold zM_weights_76_99_l14_b
      rw [if_neg (by rw [jRN_W hN1, jn_le (by omega) (by omega)]; omega), e2, Option.bind_some]
      dsimp only
      rw [jn_add, show jn i + (1 : Int32) = jn (i + 1) from jn_add i 1]
      rfl
    · rintro ⟨x5, x6, J⟩ ⟨h1, h2, a⟩
      simp only at h1 h2 a
      subst h1
      subst h2
      refine ⟨(jn (gSu m g v y (mW m)), J), ?_, rfl, a⟩
      dsimp only
      unfold zM_weights_76_99_l14_b
      rw [if_pos (by rw [jRN_W (jRN_ch hN a (by decide)), jn_le (by omega) (by omega)]; omega)]
  simp only at k2 k3
  subst k2
  refine ⟨v2, ?_, k3⟩
  unfold zM_weights_76_99
  rw [jm_stateNow5 hm hN hg hB hR hy, Option.bind_some, k1, Option.bind_some]
