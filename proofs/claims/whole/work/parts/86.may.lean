/-! ===== rules: the values they are asked about ===== -/
/-- the last letter of a word -/
def mLast (m : jMu) (w : Nat) : Int32 := mT m w (mL m w - 1)
theorem jc_lastLetter {I : iq_I} {m : jMu} (hm : mOk m) (h : jRU I m) {w : Nat} (hw : w < mW m) : zU_lastLetter (jn w) I = some (mLast m w) := by
  have h14 := hm.2.1
  have hL := hm.2.2.1 w hw
  have h1 := hL.1
  have h2 := hL.2.1
  have i1 : iq_in (jn w) 14 := by rw [jn_in (by omega)]; omega
  have e : jn w * (9 : Int32) + jn (mL m w) - (1 : Int32) = jn (w * 9 + (mL m w - 1)) := by
    rw [show (9 : Int32) = jn 9 from rfl, show (1 : Int32) = jn 1 from rfl, jn_mul, jn_add, jn_sub (by omega), show w * 9 + mL m w - 1 = w * 9 + (mL m w - 1) by omega]
  have i2 : iq_in (jn (w * 9 + (mL m w - 1))) 126 := by rw [jn_in (by omega)]; omega
  have kw : (jn w).toNatClampNeg = w := jn_clamp (by omega)
  unfold zU_lastLetter
  rw [if_neg (by rw [jl0, jn_lt (by omega) (by omega)]; omega), jRU_W h, if_neg (by rw [jn_le (by omega) (by omega)]; omega)]
  simp only [if_pos i1]
  rw [kw, jRU_L h w hw, if_neg (by rw [jl0, jn_le (by omega) (by omega)]; omega), if_pos (by rw [jl9, jn_le (by omega) (by omega)]; omega), e, if_pos i2, jn_clamp (by omega), jRU_T h w _ hw (by omega)]
  rfl
theorem jm_lastLetter {I : iq_I} {m : jMu} (hm : mOk m) (h : jRN I m) {w : Nat} (hw : w < mW m) : zM_lastLetter (jn w) I = some (mLast m w) := by
  have h14 := hm.2.1
  have hL := hm.2.2.1 w hw
  have h1 := hL.1
  have h2 := hL.2.1
  have i1 : iq_in (jn w) 14 := by rw [jn_in (by omega)]; omega
  have e : (9 : Int32) * jn w + jn (mL m w) - (1 : Int32) = jn (9 * w + (mL m w - 1)) := by
    rw [show (9 : Int32) = jn 9 from rfl, show (1 : Int32) = jn 1 from rfl, jn_mul, jn_add, jn_sub (by omega), show 9 * w + mL m w - 1 = 9 * w + (mL m w - 1) by omega]
  have i2 : iq_in (jn (9 * w + (mL m w - 1))) 126 := by rw [jn_in (by omega)]; omega
  have kw : (jn w).toNatClampNeg = w := jn_clamp (by omega)
  unfold zM_lastLetter
  rw [if_pos i1, kw, jRN_L h w hw, e, if_pos i2, jn_clamp (by omega), jRN_T h w _ hw (by omega)]
  rfl
theorem jc_lengthOf4 {I : iq_I} {m : jMu} (hm : mOk m) (h : jRU I m) {w : Nat} (hw : w < mW m) : zU_lengthOf_4 (jn w) I = some (jn (mL m w)) := by
  have h14 := hm.2.1
  unfold zU_lengthOf_4
  rw [if_neg (by rw [jl0, jn_lt (by omega) (by omega)]; omega), jRU_W h, if_pos (by rw [jn_lt (by omega) (by omega)]; exact hw), if_pos (by rw [jn_in (by omega)]; omega), jn_clamp (by omega), jRU_L h w hw]
/-- what a rule may ask, of word w for saying y on day d -/
def gSame (m : jMu) (g : jGa) (y w : Nat) : Bool := decide (0 < (gS g y).length) && decide (mLast m ((gS g y).getD ((gS g y).length - 1) 0) = mLast m w)
def jvl (m : jMu) (g : jGa) (y w d : Nat) : Nat → Int32
  | 0 => jn (mK m w)
  | 1 => jn (mL m w)
  | 2 => jn w
  | 3 => jn d
  | 4 => jn (gS g y).length
  | 5 => jn (gTm g y w)
  | _ => jB (gSame m g y w)
