/-! ===== may a word come ===== -/
def gLaw (m : jMu) (g : jGa) (y w d : Nat) : Bool := match mC m with
  | none => true
  | some c => decide (¬ (jev (jvl m g y w d) c []).headD 0 = 0)
def gFree (m : jMu) (g : jGa) (y : Nat) (o : Option Nat) (w : Nat) : Bool := match o with
  | none => false
  | some s => match mLd m s w with
    | none => false
    | some t => mFol m t && decide ((gS g y).length < 40)
theorem jc_isLawful {I : iq_I} {m : jMu} {g : jGa} (hm : mOk m) (hU : jRU I m) (hg : gOk m g) (hG : jRG I 16 17 18 24 g) {y w d : Nat} (hy : y < gY g) (hw : w < mW m) :
    ∃ I', zH_isLawful_69_16 (jn y) (jn w) (jn d) I = some (jB (gLaw m g y w d), I') ∧ jag I I' := by
  unfold zH_isLawful_69_16 gLaw
  rw [jRU_l hU]
  cases hC : mC m with
  | none =>
    refine ⟨I, ?_, jag_rf I⟩
    rw [if_pos (Eq.refl (none : Option (List Int32))), if_neg (fun h => h rfl)]
    rfl
  | some c =>
    obtain ⟨I1, e1, a1, v1⟩ := jc_fill (d := d) hm hU hg hG hy hw
    obtain ⟨I2, e2, a2⟩ := jc_give (r := 4) (v := jvl m g y w d) (by decide) (hm.2.2.2.2.2.2.2 c hC) ((jRU_ag hU a1).2.2.2.2.2.2.2.2.2.2.2.2.2.2 c hC) v1
    have e2 : zE_give (4 : Int32) I1 = some ((jev (jvl m g y w d) c []).headD 0, I2) := e2
    refine ⟨I2, ?_, jag_tr a1 fun k i hk => a2 k i (fun e => by subst e; exact absurd (show jsc 12 i = true from rfl) (by rw [hk]; decide))⟩
    have hn : ¬ some c = (none : Option (List Int32)) := fun h => by cases h
    rw [if_neg hn, if_pos (by decide), e1, Option.bind_some, e2, Option.bind_some]
    dsimp only
    by_cases q : (jev (jvl m g y w d) c []).headD 0 = 0
    · rw [if_pos q, decide_eq_false (fun h => h q)]; rfl
    · rw [if_neg q, decide_eq_true q]; rfl
theorem jc_isFree {I : iq_I} {m : jMu} {g : jGa} (hm : mOk m) (hU : jRU I m) (hg : gOk m g) (hG : jRG I 16 17 18 24 g) {y w : Nat} {o : Option Nat} (ho : ∀ s, o = some s → s < mS m) (hy : y < gY g) (hw : w < mW m) :
    zH_isFree_69_16 (jn y) (jo o) (jn w) I = some (jB (gFree m g y o w)) := by
  have h10 := hm.1
  have h40 := hg.2.2.1 y hy
  unfold zH_isFree_69_16 gFree
  cases o with
  | none => rw [jc_leadsTo0, Option.bind_some, if_pos (show jo none = -1 from rfl)]; rfl
  | some s =>
    have hs := ho s rfl
    rw [jo_some, jc_leadsTo hm hU hs hw, Option.bind_some]
    dsimp only
    cases q : mLd m s w with
    | none => rw [if_pos (show jo none = -1 from rfl)]; rfl
    | some t =>
      have ht := mLd_lt hm hs hw q
      rw [jo_some, if_neg (jn_ne (by omega) (by decide)), jc_someFollows hm hU ht, Option.bind_some, jc_lengthOf hg hG hy, Option.bind_some]
      dsimp only
      cases mFol m t with
      | false => rw [if_pos (show jB false = 0 from rfl)]; rfl
      | true =>
        rw [if_neg (by decide)]
        by_cases l : (gS g y).length < 40
        · rw [if_neg (by rw [jl40, jn_le (by omega) (by omega)]; omega), decide_eq_true l]; rfl
        · rw [if_pos (by rw [jl40, jn_le (by omega) (by omega)]; omega), decide_eq_false l]; rfl
theorem jm_mayCome {I : iq_I} {m : jMu} {g : jGa} (hm : mOk m) (hN : jRN I m) (hg : gOk m g) (hR : jRR (I 98) g) {y w : Nat} {o : Option Nat} (ho : ∀ s, o = some s → s < mS m) (hy : y < gY g) (hw : w < mW m) :
    ∃ I', zM_mayCome_76_98 (jn y) (jo o) (jn w) I = some (jB (gFree m g y o w && gLaw m g y w (gD g)), I') ∧ jag I I' ∧ ∀ j, I' 76 j = I 76 j := by
  have h10 := hm.1
  have h5 := hg.1
  have h40 := hg.2.2.1 y hy
  unfold zM_mayCome_76_98 gFree
  cases o with
  | none => exact ⟨I, by rw [if_pos (show jo none = -1 from rfl)]; rfl, jag_rf I, fun _ => rfl⟩
  | some s =>
    have hs := ho s rfl
    rw [jo_some, if_neg (jn_ne (by omega) (by decide)), if_pos (by rw [jn_in (by omega)]; omega), jn_clamp (by omega), jRR_L hR y hy]
    dsimp only
    by_cases l : (gS g y).length < 40
    · rw [if_pos (by rw [jl40, jn_inj (by omega) (by omega)]; omega), jm_leads hm hN hs hw, Option.bind_some]
      cases q : mLd m s w with
      | none => exact ⟨I, by rw [if_pos (show jo none = -1 from rfl)]; rfl, jag_rf I, fun _ => rfl⟩
      | some t =>
        have ht := mLd_lt hm hs hw q
        rw [jo_some, if_neg (jn_ne (by omega) (by decide)), jm_canFollow hm hN ht, Option.bind_some, decide_eq_true l]
        dsimp only
        cases mFol m t with
        | false => exact ⟨I, by rw [if_pos (show jB false = 0 from rfl)]; rfl, jag_rf I, fun _ => rfl⟩
        | true =>
          rw [if_neg (by decide)]
          unfold gLaw
          cases hC : mC m with
          | none => exact ⟨I, by rw [hN.2.2.2.2.2.2.2.2.2.2.2.2.1 hC, if_pos (Eq.refl (-1 : Int32))]; rfl, jag_rf I, fun _ => rfl⟩
          | some c =>
            obtain ⟨x, ex, hx⟩ := hN.2.2.2.2.2.2.2.2.2.2.2.2.2 c hC
            obtain ⟨I1, e1, a1, b1⟩ := jm_rule hm hN hg hR hy hw (hm.2.2.2.2.2.2.2 c hC) hx
            have hx4 := hx.1
            rw [ex, if_neg (jn_ne (by omega) (by decide)), e1, Option.bind_some]
            dsimp only
            by_cases z : (jev (jvl m g y w (gD g)) c []).headD 0 = 0
            · exact ⟨I1, by rw [if_pos z, decide_eq_false (fun h => h z)]; rfl, a1, b1⟩
            · exact ⟨I1, by rw [if_neg z, decide_eq_true z]; rfl, a1, b1⟩
    · rw [if_neg (by rw [jl40, jn_inj (by omega) (by omega)]; omega), decide_eq_false l]
      refine ⟨I, ?_, jag_rf I, fun _ => rfl⟩
      cases mLd m s w with
      | none => rfl
      | some t => dsimp only; rw [Bool.and_false]; rfl
