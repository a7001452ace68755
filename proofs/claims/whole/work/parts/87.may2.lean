/-! ===== rules: the class fills its values ===== -/
theorem jc_fill49 {I : iq_I} {m : jMu} {g : jGa} (hm : mOk m) (hU : jRU I m) (hg : gOk m g) (hG : jRG I 16 17 18 24 g) {y w d : Nat} (hy : y < gY g) (hw : w < mW m) {s0 : Int32} {b : Bool} (hb : s0 = jB b) (hbg : gSame m g y w = b) :
    ∃ I', zH_fillValues_69_16_49 (jn y) (jn w) (jn d) (jn (gS g y).length) s0 I = some I' ∧ jag I I' ∧ ∀ k, k < 7 → I' 70 k = jvl m g y w d k := by
  have a4 : jag I (iq_upI I 70 0 (jn (mK m w))) := jag_up (jag_rf I) rfl
  have a6 : jag I (iq_upI (iq_upI I 70 0 (jn (mK m w))) 70 1 (jn (mL m w))) := jag_up a4 rfl
  have a7 : jag I (iq_upI (iq_upI (iq_upI I 70 0 (jn (mK m w))) 70 1 (jn (mL m w))) 70 2 (jn w)) := jag_up a6 rfl
  have a8 : jag I (iq_upI (iq_upI (iq_upI (iq_upI I 70 0 (jn (mK m w))) 70 1 (jn (mL m w))) 70 2 (jn w)) 70 3 (jn d)) := jag_up a7 rfl
  have a9 : jag I (iq_upI (iq_upI (iq_upI (iq_upI (iq_upI I 70 0 (jn (mK m w))) 70 1 (jn (mL m w))) 70 2 (jn w)) 70 3 (jn d)) 70 4 (jn (gS g y).length)) := jag_up a8 rfl
  have t := jc_timesIn hm hg (jRG_ag (fun _ => rfl) (fun _ => rfl) (fun _ => rfl) (fun _ => rfl) hG a9) hy hw
  have l := jc_lengthOf4 hm (jRU_ag hU a4) hw
  have a11 := jag_up (k := 70) (i := 5) (v := jn (gTm g y w)) a9 rfl
  have g130 : ∀ (x : Int32) (J : iq_I), zH_fillValues_69_16_130 (6 : Int32) x J = some (iq_upI J 70 6 x) := fun x J => by
    unfold zH_fillValues_69_16_130
    rw [if_pos (by decide), ir_let]
    rfl
  refine ⟨_, ?_, jag_up (k := 70) (i := 6) (v := jB b) a11 rfl, ?_⟩
  · unfold zH_fillValues_69_16_49
    rw [jc_kindOf hm hU hw, Option.bind_some, ir_let, l, Option.bind_some, ir_let, ir_let, ir_let, ir_let, t, Option.bind_some, ir_let]
    subst hb
    cases b with
    | false => rw [if_pos (by rfl)]; exact g130 _ _
    | true => rw [if_neg (by decide)]; exact g130 _ _
  · intro k hk
    have q : k = 0 ∨ k = 1 ∨ k = 2 ∨ k = 3 ∨ k = 4 ∨ k = 5 ∨ k = 6 := by omega
    rcases q with rfl | rfl | rfl | rfl | rfl | rfl | rfl
    · rw [up_ni (by decide), up_ni (by decide), up_ni (by decide), up_ni (by decide), up_ni (by decide), up_ni (by decide), up_eq]; rfl
    · rw [up_ni (by decide), up_ni (by decide), up_ni (by decide), up_ni (by decide), up_ni (by decide), up_eq]; rfl
    · rw [up_ni (by decide), up_ni (by decide), up_ni (by decide), up_ni (by decide), up_eq]; rfl
    · rw [up_ni (by decide), up_ni (by decide), up_ni (by decide), up_eq]; rfl
    · rw [up_ni (by decide), up_ni (by decide), up_eq]; rfl
    · rw [up_ni (by decide), up_eq]; rfl
    · rw [up_eq, ← hbg]; rfl
theorem jc_fill {I : iq_I} {m : jMu} {g : jGa} (hm : mOk m) (hU : jRU I m) (hg : gOk m g) (hG : jRG I 16 17 18 24 g) {y w d : Nat} (hy : y < gY g) (hw : w < mW m) :
    ∃ I', zH_fillValues_69_16 (jn y) (jn w) (jn d) I = some I' ∧ jag I I' ∧ ∀ k, k < 7 → I' 70 k = jvl m g y w d k := by
  have h5 := hg.1
  have h40 := hg.2.2.1 y hy
  unfold zH_fillValues_69_16
  rw [jc_lengthOf hg hG hy, Option.bind_some]
  by_cases l0 : (gS g y).length = 0
  · have q : zG_wordAt_16 (jn y) (jn (gS g y).length - (1 : Int32)) I = some (-1 : Int32) := by
      unfold zG_wordAt_16
      rw [if_neg (by rw [jl0, jn_lt (by omega) (by omega)]; omega), jRG_Y hG, if_neg (by rw [jn_le (by omega) (by omega)]; omega), l0, if_pos (by decide)]
    rw [q, Option.bind_some, if_pos (Eq.refl (-1 : Int32))]
    unfold zH_fillValues_69_16_48
    exact jc_fill49 (b := false) hm hU hg hG hy hw rfl (by unfold gSame; rw [decide_eq_false (by omega)]; rfl)
  · have e : jn (gS g y).length - (1 : Int32) = jn ((gS g y).length - 1) := jn_sub (b := 1) (by omega)
    have hwl := hg.2.2.2.1 y ((gS g y).length - 1) hy (by omega)
    have h14 := hm.2.1
    rw [e, jc_wordAt hg hG hy (by omega), Option.bind_some, if_neg (jn_ne (by omega) (by decide)), jc_lastLetter hm hU hwl, Option.bind_some, jc_lastLetter hm hU hw, Option.bind_some]
    by_cases s : mLast m ((gS g y).getD ((gS g y).length - 1) 0) = mLast m w
    · rw [if_neg (fun h => h s)]
      exact jc_fill49 (b := true) hm hU hg hG hy hw rfl (by unfold gSame; rw [decide_eq_true s, decide_eq_true (by omega)]; rfl)
    · rw [if_pos s]
      unfold zH_fillValues_69_16_48
      exact jc_fill49 (b := false) hm hU hg hG hy hw rfl (by unfold gSame; rw [decide_eq_false s, Bool.and_false])
