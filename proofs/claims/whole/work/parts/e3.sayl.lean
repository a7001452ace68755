/-! ===== lines: saying, the words and the line ===== -/
def cSa (w : (iq_I × iq_J) ⊕ (iq_I × iq_J)) : Option (iq_I × iq_J) := (ir_sm w (fun a16 => zM_readsSaying_193 a16.1 a16.2) (fun b17 => some b17)).bind fun q => zM_line_311 q.1 q.2
theorem jm_193b {I : iq_I} {J : iq_J} (hb : ¬ I 76 18 = 0) : zM_readsSaying_193 I J = some (I, J) := by
  unfold zM_readsSaying_193
  rw [jm_bad hb, Option.bind_some, if_pos rfl]
theorem cSa_b {I : iq_I} {J : iq_J} (hb : ¬ I 76 18 = 0) : cSa (.inr (I, J)) = some (I, J) := by
  unfold cSa
  show (some (I, J)).bind _ = _
  rw [Option.bind_some, jm_311b hb]
abbrev jSO : Type := (Nat × Nat) ⊕ (List Nat × Nat)
def SSt (m : jMu) (n q : Nat) : jSO → Prop
  | .inl (kd, pl) => 0 < kd ∧ kd < 10 ∧ pl ≤ n
  | .inr (ws, q') => q ≤ q' ∧ q' ≤ n ∧ ws.length ≤ 40 ∧ ∀ i, i < ws.length → ws.getD i 0 < mW m
def SSc (f : Nat → Nat) (n q : Nat) (m : jMu) (C : Nat → Bool) (g : jGa) (b s : Nat) (ws : List Nat) (k : Nat) (o : jSO) : Prop := ∀ I sz, DC I f n q m C (gSy g b ws) sz → ∀ N, k < N → match o with
  | .inl (kd, pl) => ∃ I', zR_readSaying_l73 (jn (gY g)) N (jn s, jn ws.length, I) = some (.inr (0, I')) ∧ I' 61 1 = jn kd ∧ I' 61 0 = jn pl ∧ frC I I'
  | .inr (ws', q') => ∃ I', zR_readSaying_l73 (jn (gY g)) N (jn s, jn ws.length, I) = some (.inl I') ∧ DC I' f n q' m C (gSy g b ws') sz ∧ frC I I'
def SSm (f : Nat → Nat) (n q : Nat) (m : jMu) (C : Nat → Bool) (g : jGa) (b s : Nat) (ws : List Nat) (k : Nat) (o : jSO) : Prop := ∀ I J tp, SM I J f n q m C g tp b ws → ∀ N, k < N → match o with
  | .inl (kd, pl) => ∃ w, (zM_readsSaying_l58 (jn (gY g)) N (jn s, I, J)).bind cSa = some w ∧ Flt kd pl I J w
  | .inr (ws', q') => ∃ I' J', zM_readsSaying_l58 (jn (gY g)) N (jn s, I, J) = some (.inl (I', J')) ∧ SM I' J' f n q' m C g tp b ws' ∧ jgm I I' ∧ (∀ k j, ¬ k = 76 → J' k j = J k j)
theorem jm_131b {x1 x2 x3 : Int32} {I : iq_I} {J : iq_J} (hb : ¬ I 76 18 = 0) : zM_readsSaying_131 x1 x2 x3 I J = some (.inr (.inr (I, J))) := by
  unfold zM_readsSaying_131
  rw [jm_bad hb, Option.bind_some, if_neg (fun h => h rfl)]
theorem zR_l73_len {m : jMu} {l : Nat} (h : l ≤ 40) : ¬ (40 : Int32) < jn l := by rw [jl40, jn_lt (by omega) (by omega)]; omega
theorem sayStop {f : Nat → Nat} {n : Nat} {m : jMu} {C : Nat → Bool} {g : jGa} {b : Nat} (hd : dOk m g) (h5 : gY g < 5) (hb : b < mS m) {k q s : Nat} {ws : List Nat} (hl : ws.length ≤ 40) (hq : q ≤ n) (hw : ∀ i, i < ws.length → ws.getD i 0 < mW m) (t2 : ¬ tt f n q = 2) : ∃ o, SSt m n q o ∧ SSc f n q m C g b s ws k o ∧ SSm f n q m C g b s ws k o := by
  have hm := hd.1
  have h10 := hm.1
  have h14 := hm.2.1
  have ta1 := ta_sp (f := f) hq
  have t4 := tt_le (f := f) (n := n) (p := q)
  have hn2 : ¬ jn (tt f n q) = (2 : Int32) := by rw [jl2, jn_inj (by omega) (by omega)]; exact t2
  have mE : ∀ I J tp N, SM I J f n q m C g tp b ws → zM_readsSaying_l58 (jn (gY g)) (N + 1) (jn s, I, J) = some (.inl (I, J)) := fun I J tp N hS => by
    refine js_0 ?_
    dsimp only
    unfold zM_readsSaying_l58_b
    rw [jm_good hS.1.2.1, Option.bind_some, if_neg (by decide), hS.1.1.2.2.2.2.1, if_pos hn2]
  cases s59 : sgn f n q 59 with
  | true =>
    refine ⟨.inr (ws, q), ⟨Nat.le_refl _, hq, hl, hw⟩, fun I sz hD N hN => ?_, fun I J tp hS N hN => ?_⟩
    · obtain ⟨N', rfl⟩ : ∃ N', N = N' + 1 := ⟨N - 1, by omega⟩
      have c59 : zT_isSign (59 : Int32) I = some 1 := (jc_isSign hD.1 (c := 59) (by decide)).trans (by rw [s59]; rfl)
      refine ⟨I, js_0 ?_, hD, frC_rf I⟩
      dsimp only
      unfold zR_readSaying_l73_b
      rw [if_neg (zR_l73_len (m := m) hl), c59, Option.bind_some, if_pos (by decide)]
    · obtain ⟨N', rfl⟩ : ∃ N', N = N' + 1 := ⟨N - 1, by omega⟩
      exact ⟨I, J, mE I J tp N' hS, hS, jgm_rf I, fun _ _ _ => rfl⟩
  | false =>
    refine ⟨.inl (1, ta f n q), ⟨by decide, by decide, ta1.2.1⟩, fun I sz hD N hN => ?_, fun I J tp hS N hN => ?_⟩
    · obtain ⟨N', rfl⟩ : ∃ N', N = N' + 1 := ⟨N - 1, by omega⟩
      have c59 : zT_isSign (59 : Int32) I = some 0 := (jc_isSign hD.1 (c := 59) (by decide)).trans (by rw [s59]; rfl)
      have tb : tbr f n q (mW m) = 1 := tbr_1 t2
      rcases jc_isTold hD.1 (mW m) (by omega) with ⟨b1, -⟩ | ⟨-, -, I1, e1, g1, g2, g3⟩
      · omega
      · rw [tb] at g1
        refine ⟨I1, js_0 ?_, g1, g2, fun a j q => g3 a j (by omega)⟩
        dsimp only
        unfold zR_readSaying_l73_b zR_isWordOfSaying zR_isWordOfSaying_30
        rw [if_neg (zR_l73_len (m := m) hl), c59, Option.bind_some, if_neg (fun h => h rfl), hD.1.2.2.1, if_pos hn2, hD.2.1.2.2.1, e1, Option.bind_some, if_neg (fun h => h rfl), Option.bind_some, if_neg (fun h => h rfl)]
    · obtain ⟨N', rfl⟩ : ∃ N', N = N' + 1 := ⟨N - 1, by omega⟩
      have hE := jm_sayEnd hS
      obtain ⟨I2, e2, b2, fl, -⟩ := jm_fl (J := J) hE.1 hE.2.1 (kd := 1) (by decide) (by decide)
      have e2 : zM_wrong (1 : Int32) (iq_upI I 76 33 (jn (gY g + 1))) = some I2 := e2
      have c59 : zM_isSign (59 : Int32) (iq_upI I 76 33 (jn (gY g + 1))) = some 0 := (jm_isSign hE.1 (c := 59) (by decide)).trans (by rw [s59]; rfl)
      refine ⟨(I2, J), ?_, Flt_tr fl (jgm_up (jgm_rf I) rfl) (fun _ _ _ => rfl)⟩
      rw [mE I J tp N' hS, Option.bind_some]
      unfold cSa
      show (zM_readsSaying_193 I J).bind _ = _
      unfold zM_readsSaying_193
      rw [jm_good hS.1.2.1, Option.bind_some, if_neg (by decide), hS.1.2.2.2.1, show jn (gY g) + (1 : Int32) = jn (gY g + 1) from jn_add _ 1, ir_let, Option.bind_some]
      unfold zM_line_311 zM_need
      dsimp only
      rw [c59, Option.bind_some, jm_good hE.2.1, Option.bind_some, if_pos (by decide), if_pos rfl, e2, Option.bind_some, Option.bind_some]
theorem sayLoop {f : Nat → Nat} {n : Nat} {m : jMu} {C : Nat → Bool} {g : jGa} {b : Nat} (hd : dOk m g) (h5 : gY g < 5) (hb : b < mS m) : ∀ k q s ws, ws.length + k = 40 → q ≤ n → s < mS m → (∀ i, i < ws.length → ws.getD i 0 < mW m) → ∃ o, SSt m n q o ∧ SSc f n q m C g b s ws k o ∧ SSm f n q m C g b s ws k o := by
  have hm := hd.1
  have h10 := hm.1
  have h14 := hm.2.1
  intro k
  induction k with
  | zero =>
    intro q s ws hk hq hs hw
    have ta1 := ta_sp (f := f) hq
    have hl : ws.length = 40 := by omega
    have hg := gOk_sy (b := b) (ws := ws) hd.2.1 h5 hb (by omega) hw
    by_cases t2 : tt f n q = 2
    · have s59 : sgn f n q 59 = false := by
        cases e : sgn f n q 59 with
        | false => rfl
        | true => have := (sgn_t e).1; omega
      refine ⟨.inl (2, ta f n q), ⟨by decide, by decide, ta1.2.1⟩, fun I sz hD N hN => ?_, fun I J tp hS N hN => ?_⟩
      · obtain ⟨N', rfl⟩ : ∃ N', N = N' + 1 := ⟨N - 1, by omega⟩
        obtain ⟨I1, e1, g1, g2, g3⟩ := jc_ref hD.1 2
        have c59 : zT_isSign (59 : Int32) I = some 0 := (jc_isSign hD.1 (c := 59) (by decide)).trans (by rw [s59]; rfl)
        have e1 : ((zR_refuse (2 : Int32) I).bind fun q => if q.1 = 0 ∨ q.1 = 1 then some (q.1, q.2) else none) = some (0, I1) := e1
        have el := jc_lengthOf5 hg hD.2.2.1 (s := gY g) (by rw [gSy_Y]; omega)
        rw [gSy_S, hl] at el
        refine ⟨I1, js_0 ?_, g1, g2, fun a j q => g3 a j (by omega)⟩
        dsimp only
        unfold zR_readSaying_l73_b zR_isWordOfSaying
        rw [hl, if_neg (by decide), c59, Option.bind_some, if_neg (fun h => h rfl), hD.1.2.2.1, if_neg (by rw [t2]; decide), el, Option.bind_some, if_neg (by decide), e1, Option.bind_some, if_neg (fun h => h rfl)]
      · obtain ⟨N', rfl⟩ : ∃ N', N = N' + 1 := ⟨N - 1, by omega⟩
        obtain ⟨I1, e1, b1, fl, fr⟩ := jm_fl (J := J) hS.1.1 hS.1.2.1 (kd := 2) (by decide) (by decide)
        have e1 : zM_wrong (2 : Int32) I = some I1 := e1
        have eh : zM_oneHere (I1 76 30) I1 = some (0, I1) := by
          unfold zM_oneHere zM_oneHere_54
          rw [jm_bad b1, Option.bind_some, if_neg (fun h => h rfl)]
        have eb : zM_readsSaying_l58 (jn (gY g)) (N' + 1) (jn s, I, J) = some (.inr (I1, J)) := by
          refine js_0 ?_
          dsimp only
          unfold zM_readsSaying_l58_b
          rw [jm_good hS.1.2.1, Option.bind_some, if_neg (by decide), hS.1.1.2.2.2.2.1, if_neg (by rw [t2]; exact fun h => h rfl), if_pos (by rw [jn_in (by omega)]; omega), jn_clamp (by omega), hS.2.2.1, hl, if_neg (fun h => h rfl), e1, Option.bind_some]
          unfold zM_readsSaying_89
          rw [eh, Option.bind_some]
          dsimp only
          rw [jm_bad b1, Option.bind_some, if_pos rfl, jm_131b b1]
        refine ⟨(I1, J), ?_, fl⟩
        rw [eb, Option.bind_some, cSa_b b1]
    · exact sayStop hd h5 hb (by omega) hq hw t2
  | succ k ih =>
    intro q s ws hk hq hs hw
    have ta1 := ta_sp (f := f) hq
    have tz1 := tz_sp (f := f) hq
    have hl : ws.length < 40 := by omega
    have hg := gOk_sy (b := b) (ws := ws) hd.2.1 h5 hb (by omega) hw
    by_cases t2 : tt f n q = 2
    · have s59 : sgn f n q 59 = false := by
        cases e : sgn f n q 59 with
        | false => rfl
        | true => have := (sgn_t e).1; omega
      have tz3 := tz1.2.2.1 (by rw [t2]; decide)
      have cW : ∀ I sz, DC I f n q m C (gSy g b ws) sz → zR_readSaying_l73_b (jn (gY g)) (jn s) (jn ws.length) I = (zR_isWordOfSaying_30 (jn s) I).bind fun q7 => if ¬ q7.1 = 0 then ((zT_number q7.2).bind fun q8 => (zU_leadsTo_38 (jn s) q8 q7.2).bind fun q9 => (zT_number q7.2).bind fun q10 => (zG_putIn_50 (jn (gY g)) (jn ws.length) q10 q7.2).bind fun q11 => (zT_next q11).bind fun q12 => some (.inl (q9, (jn ws.length + (1 : Int32)), q12))) else (some (.inr (.inr ((0 : Int32), q7.2)))) := fun I sz hD => by
        have c59 : zT_isSign (59 : Int32) I = some 0 := (jc_isSign hD.1 (c := 59) (by decide)).trans (by rw [s59]; rfl)
        have el := jc_lengthOf5 hg hD.2.2.1 (s := gY g) (by rw [gSy_Y]; omega)
        rw [gSy_S] at el
        unfold zR_readSaying_l73_b zR_isWordOfSaying
        rw [if_neg (zR_l73_len (m := m) (by omega)), c59, Option.bind_some, if_neg (fun h => h rfl), hD.1.2.2.1, if_neg (by rw [t2]; exact fun h => h rfl), el, Option.bind_some, if_pos (by rw [jl40, jn_lt (by omega) (by omega)]; exact hl)]
      have mW' : ∀ I J tp, SM I J f n q m C g tp b ws → zM_readsSaying_l58_b (jn (gY g)) (jn s) I J = zM_readsSaying_89 (jn (gY g)) (jn s) I J := fun I J tp hS => by
        unfold zM_readsSaying_l58_b
        rw [jm_good hS.1.2.1, Option.bind_some, if_neg (by decide), hS.1.1.2.2.2.2.1, if_neg (by rw [t2]; exact fun h => h rfl), if_pos (by rw [jn_in (by omega)]; omega), jn_clamp (by omega), hS.2.2.1, if_pos (by rw [jl40, jn_inj (by omega) (by omega)]; omega)]
      by_cases z1 : tbr f n q (mW m) = 0
      · obtain ⟨-, l4, vW⟩ := tbr_z z1
        have hkw := (hm.2.2.1 _ vW).2.2
        cases ld : mLd m s (tn f n q) with
        | none =>
          refine ⟨.inl (6, ta f n q), ⟨by decide, by decide, ta1.2.1⟩, fun I sz hD N hN => ?_, fun I J tp hS N hN => ?_⟩
          · obtain ⟨N', rfl⟩ : ∃ N', N = N' + 1 := ⟨N - 1, by omega⟩
            rcases jc_isTold hD.1 (mW m) (by omega) with ⟨-, -, -, -, e3, e4⟩ | ⟨b1, -⟩
            · obtain ⟨I1, e1, g1, g2, g3⟩ := jc_ref hD.1 6
              have e1 : ((zR_refuse (6 : Int32) I).bind fun q => if q.1 = 0 ∨ q.1 = 1 then some (q.1, q.2) else none) = some (0, I1) := e1
              have lt := jc_leadsTo38 hm hD.2.1 hs vW
              rw [ld] at lt
              refine ⟨I1, js_0 ?_, g1, g2, fun a j q => g3 a j (by omega)⟩
              dsimp only
              rw [cW I sz hD]
              unfold zR_isWordOfSaying_30
              rw [hD.2.1.2.2.1, e3, Option.bind_some, if_pos (show ¬ (1 : Int32) = 0 by decide)]
              dsimp only
              rw [e4, Option.bind_some, lt, Option.bind_some, if_neg (fun h => h rfl), e1, Option.bind_some, if_neg (fun h => h rfl)]
            · omega
          · obtain ⟨N', rfl⟩ : ∃ N', N = N' + 1 := ⟨N - 1, by omega⟩
            obtain ⟨I1, e1, b1, fl, fr⟩ := jm_fl (J := J) hS.1.1 hS.1.2.1 (kd := 6) (by decide) (by decide)
            have e1 : zM_wrong (6 : Int32) I = some I1 := e1
            have eh := (jm_oneHere hS.1.1 hS.1.2.1 (mW m) (by omega)).1 z1
            have ek : I 89 (tn f n q) = jn (mK m (tn f n q)) := hS.1.2.2.1.2.2.2.2.2.2.1 _ vW
            have er : I 90 (8 * s + mK m (tn f n q)) = jo (mR m s (mK m (tn f n q))) := hS.1.2.2.1.2.2.2.2.2.2.2.2.1 s _ (by omega) hkw
            have ld' : mR m s (mK m (tn f n q)) = none := ld
            rw [ld'] at er
            have eb : zM_readsSaying_l58 (jn (gY g)) (N' + 1) (jn s, I, J) = some (.inr (I1, J)) := by
              refine js_0 ?_
              dsimp only
              rw [mW' I J tp hS]
              unfold zM_readsSaying_89
              rw [hS.1.2.2.1.2.2.1, eh, Option.bind_some]
              dsimp only
              have kt : (jn (tn f n q)).toNatClampNeg = tn f n q := jn_clamp (by omega)
              have ia : (8 : Int32) * jn s + jn (mK m (tn f n q)) = jn (8 * s + mK m (tn f n q)) := by rw [jl8, jn_mul, jn_add]
              simp only [kt, ek, ia]
              rw [jm_good hS.1.2.1, Option.bind_some, if_neg (by decide), if_pos (by rw [jn_in (by omega)]; omega), if_pos (by rw [jn_in (by omega)]; omega), jn_clamp (by omega), er, if_neg (fun h => h rfl), e1, Option.bind_some, jm_131b b1]
            refine ⟨(I1, J), ?_, fl⟩
            rw [eb, Option.bind_some, cSa_b b1]
        | some t =>
          have ht := mLd_lt hm hs vW ld
          have li : (ws.insertIdx ws.length (tn f n q)).length = ws.length + 1 := jl_insl (Nat.le_refl _)
          obtain ⟨o, st, hc, hmm⟩ := ih (tz f n q) t (ws.insertIdx ws.length (tn f n q)) (by omega) tz1.2.1 ht (fun i hi => by
            rw [li] at hi
            rw [jl_ins (Nat.le_refl _)]
            by_cases e : i < ws.length
            · rw [if_pos e]; exact hw i e
            · rw [if_neg e, if_pos (by omega)]; exact vW)
          have cS : ∀ I sz, DC I f n q m C (gSy g b ws) sz → ∃ I2, DC I2 f n (tz f n q) m C (gSy g b (ws.insertIdx ws.length (tn f n q))) sz ∧ frC I I2 ∧ ∀ N, zR_readSaying_l73 (jn (gY g)) (N + 1) (jn s, jn ws.length, I) = zR_readSaying_l73 (jn (gY g)) N (jn t, jn (ws.insertIdx ws.length (tn f n q)).length, I2) := fun I sz hD => by
            rcases jc_isTold hD.1 (mW m) (by omega) with ⟨-, -, -, -, e3, e4⟩ | ⟨b1, -⟩
            · have lt := jc_leadsTo38 hm hD.2.1 hs vW
              rw [ld, jo_some] at lt
              obtain ⟨I1, e5, d1, f1⟩ := jc_putNext (c := tn f n q) hD hg h5 hl
              obtain ⟨I2, e6, d2, f2⟩ := DC_next d1
              refine ⟨I2, d2, frC_tr f1 f2, fun N => js_1 ?_⟩
              dsimp only
              rw [cW I sz hD]
              unfold zR_isWordOfSaying_30
              rw [hD.2.1.2.2.1, e3, Option.bind_some, if_pos (show ¬ (1 : Int32) = 0 by decide)]
              dsimp only
              rw [e4, Option.bind_some, lt, Option.bind_some, if_pos (jn_ne (by omega) (by decide)), Option.bind_some, if_pos (show ¬ (1 : Int32) = 0 by decide)]
              dsimp only
              rw [e4, Option.bind_some, lt, Option.bind_some, Option.bind_some, e5, Option.bind_some, e6, Option.bind_some, show jn ws.length + (1 : Int32) = jn (ws.length + 1) from jn_add _ 1, li]
            · omega
          have mS' : ∀ I J tp, SM I J f n q m C g tp b ws → ∃ I2 J2, SM I2 J2 f n (tz f n q) m C g tp b (ws.insertIdx ws.length (tn f n q)) ∧ jgm I I2 ∧ (∀ k j, ¬ k = 76 → J2 k j = J k j) ∧ ∀ N, zM_readsSaying_l58 (jn (gY g)) (N + 1) (jn s, I, J) = zM_readsSaying_l58 (jn (gY g)) N (jn t, I2, J2) := fun I J tp hS => by
            have eh := (jm_oneHere hS.1.1 hS.1.2.1 (mW m) (by omega)).1 z1
            have ek : I 89 (tn f n q) = jn (mK m (tn f n q)) := hS.1.2.2.1.2.2.2.2.2.2.1 _ vW
            have er : I 90 (8 * s + mK m (tn f n q)) = jo (mR m s (mK m (tn f n q))) := hS.1.2.2.1.2.2.2.2.2.2.2.2.1 s _ (by omega) hkw
            have ld' : mR m s (mK m (tn f n q)) = some t := ld
            rw [ld', jo_some] at er
            have s1 := jm_putNext (c := tn f n q) hS hd.2.1 h5 hl
            obtain ⟨I2, J2, e2, m2, g2, j2⟩ := ML_next s1.1.1
            have d2 : SM I2 J2 f n (tz f n q) m C g tp b (ws.insertIdx ws.length (tn f n q)) := ⟨⟨m2, by rw [g2 _ _ (by omega), s1.1.2.1], dN_f s1.1.2.2.1 (fun j q1 q2 => g2 _ _ (by omega)) (fun k j q => g2 _ _ (by omega)), dR_f s1.1.2.2.2 (g2 _ _ (by omega)) (fun k j q => g2 _ _ (by omega))⟩, by rw [g2 _ _ (by omega)]; exact s1.2.1, by rw [g2 _ _ (by omega)]; exact s1.2.2.1, fun i hi => by rw [g2 _ _ (by omega)]; exact s1.2.2.2 i hi⟩
            refine ⟨I2, J2, d2, jgm_tr (jgm_up (jgm_up (jgm_rf I) rfl) rfl) (jgm_go g2), j2, fun N => js_1 ?_⟩
            have e94 : iq_upI I 94 (6 + 40 * gY g + ws.length) (jn (tn f n q)) 94 (gY g) = jn ws.length := by rw [up_ni (by omega)]; exact hS.2.2.1
            have ek2 : iq_upI (iq_upI I 94 (6 + 40 * gY g + ws.length) (jn (tn f n q))) 94 (gY g) (jn (ws.length + 1)) 89 (tn f n q) = jn (mK m (tn f n q)) := by rw [up_nk (by decide), up_nk (by decide)]; exact ek
            have er2 : iq_upI (iq_upI I 94 (6 + 40 * gY g + ws.length) (jn (tn f n q))) 94 (gY g) (jn (ws.length + 1)) 90 (8 * s + mK m (tn f n q)) = jn t := by rw [up_nk (by decide), up_nk (by decide)]; exact er
            have i206 : iq_in (jn (gY g)) 206 := by rw [jn_in (by omega)]; omega
            have i14 : iq_in (jn (tn f n q)) 14 := by rw [jn_in (by omega)]; omega
            have i80 : iq_in (jn (8 * s + mK m (tn f n q))) 80 := by rw [jn_in (by omega)]; omega
            have kg : (jn (gY g)).toNatClampNeg = gY g := jn_clamp (by omega)
            have kt : (jn (tn f n q)).toNatClampNeg = tn f n q := jn_clamp (by omega)
            dsimp only
            rw [mW' I J tp hS]
            have ia : (8 : Int32) * jn s + jn (mK m (tn f n q)) = jn (8 * s + mK m (tn f n q)) := by rw [jl8, jn_mul, jn_add]
            have ib : (6 : Int32) + (40 : Int32) * jn (gY g) + jn ws.length = jn (6 + 40 * gY g + ws.length) := by rw [jl6, jl40, jn_mul, jn_add, jn_add]
            have ka : (jn (8 * s + mK m (tn f n q))).toNatClampNeg = 8 * s + mK m (tn f n q) := jn_clamp (by omega)
            have kb : (jn (6 + 40 * gY g + ws.length)).toNatClampNeg = 6 + 40 * gY g + ws.length := jn_clamp (by omega)
            have i206' : iq_in (jn (6 + 40 * gY g + ws.length)) 206 := by rw [jn_in (by omega)]; omega
            have tne : ¬ jn t = (-1 : Int32) := jn_ne (by omega) (by decide)
            unfold zM_readsSaying_89
            rw [hS.1.2.2.1.2.2.1, eh, Option.bind_some]
            dsimp only
            simp only [kt, ek, ia, ka, er]
            rw [jm_good hS.1.2.1, Option.bind_some, if_neg (by decide), if_pos i14, if_pos i80, if_pos tne]
            unfold zM_readsSaying_131
            simp only [kg, kt, hS.2.2.1, ib, kb]
            rw [jm_good hS.1.2.1, Option.bind_some, if_pos (by decide), if_pos i206, if_pos i206', ir_let, if_pos i206, if_pos i206, e94, show jn ws.length + (1 : Int32) = jn (ws.length + 1) from jn_add _ 1, ir_let]
            simp only [ek2, ia, ka, er2]
            rw [if_pos i14, if_pos i80, e2, Option.bind_some]
          cases o with
          | inl ft =>
            refine ⟨.inl ft, st, fun I sz hD N hN => ?_, fun I J tp hS N hN => ?_⟩
            · obtain ⟨N', rfl⟩ : ∃ N', N = N' + 1 := ⟨N - 1, by omega⟩
              obtain ⟨I2, d2, f2, e2⟩ := cS I sz hD
              obtain ⟨I3, e3, g1, g2, f3⟩ := hc I2 sz d2 N' (by omega)
              exact ⟨I3, by rw [e2, e3], g1, g2, frC_tr f2 f3⟩
            · obtain ⟨N', rfl⟩ : ∃ N', N = N' + 1 := ⟨N - 1, by omega⟩
              obtain ⟨I2, J2, d2, f2, j2, e2⟩ := mS' I J tp hS
              obtain ⟨w, e3, fl⟩ := hmm I2 J2 tp d2 N' (by omega)
              exact ⟨w, by rw [e2, e3], Flt_tr fl f2 j2⟩
          | inr ok =>
            obtain ⟨ws', q'⟩ := ok
            obtain ⟨s1, s2, s3⟩ := st
            refine ⟨.inr (ws', q'), ⟨by omega, s2, s3⟩, fun I sz hD N hN => ?_, fun I J tp hS N hN => ?_⟩
            · obtain ⟨N', rfl⟩ : ∃ N', N = N' + 1 := ⟨N - 1, by omega⟩
              obtain ⟨I2, d2, f2, e2⟩ := cS I sz hD
              obtain ⟨I3, e3, d3, f3⟩ := hc I2 sz d2 N' (by omega)
              exact ⟨I3, by rw [e2, e3], d3, frC_tr f2 f3⟩
            · obtain ⟨N', rfl⟩ : ∃ N', N = N' + 1 := ⟨N - 1, by omega⟩
              obtain ⟨I2, J2, d2, f2, j2, e2⟩ := mS' I J tp hS
              obtain ⟨I3, J3, e3, d3, f3, j3⟩ := hmm I2 J2 tp d2 N' (by omega)
              exact ⟨I3, J3, by rw [e2, e3], d3, jgm_tr f2 f3, fun k j q => by rw [j3 k j q, j2 k j q]⟩
      · have z1' : 0 < tbr f n q (mW m) := by omega
        refine ⟨.inl (tbr f n q (mW m), ta f n q), ⟨z1', tbr_10, ta1.2.1⟩, fun I sz hD N hN => ?_, fun I J tp hS N hN => ?_⟩
        · obtain ⟨N', rfl⟩ : ∃ N', N = N' + 1 := ⟨N - 1, by omega⟩
          rcases jc_isTold hD.1 (mW m) (by omega) with ⟨b1, -⟩ | ⟨-, -, I1, e1, g1, g2, g3⟩
          · omega
          · refine ⟨I1, js_0 ?_, g1, g2, fun a j q => g3 a j (by omega)⟩
            dsimp only
            rw [cW I sz hD]
            unfold zR_isWordOfSaying_30
            rw [hD.2.1.2.2.1, e1, Option.bind_some, if_neg (fun h => h rfl), Option.bind_some, if_neg (fun h => h rfl)]
        · obtain ⟨N', rfl⟩ : ∃ N', N = N' + 1 := ⟨N - 1, by omega⟩
          obtain ⟨I1, e1, b1, fl, fr⟩ := (jm_oneHere hS.1.1 hS.1.2.1 (mW m) (by omega)).2 z1'
          have eb : zM_readsSaying_l58 (jn (gY g)) (N' + 1) (jn s, I, J) = some (.inr (I1, J)) := by
            refine js_0 ?_
            dsimp only
            rw [mW' I J tp hS]
            unfold zM_readsSaying_89 zM_readsSaying_131
            rw [hS.1.2.2.1.2.2.1, e1, Option.bind_some]
            dsimp only
            rw [jm_bad b1, Option.bind_some, if_pos rfl, Option.bind_some, if_neg (fun h => h rfl)]
          refine ⟨(I1, J), ?_, fl⟩
          rw [eb, Option.bind_some, cSa_b b1]
    · exact sayStop hd h5 hb (by omega) hq hw t2
