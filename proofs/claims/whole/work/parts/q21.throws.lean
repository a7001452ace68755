/-! ===== throw new E("..") as a step ===== -/
def iq_b13 : ByteArray := ⟨#[0x2a, 0x2b, 0xb7, 0x00, 0x0d, 0xb1]⟩
def iq_b7 : ByteArray := ⟨#[0x2a, 0x2b, 0xb7, 0x00, 0x07, 0xb1]⟩
def iq_ow0 : List Cond := (iq_own "OpenSaying" 157 "java/util/NoSuchElementException" 13 iq_b13).filter vx_no
def iq_ow1 : List Cond := (iq_own "OpenSaying" 86 "java/lang/IllegalArgumentException" 7 iq_b7).filter vx_no
theorem iq_ow0_in : ∀ w ∈ iq_ow0, w ∈ iq_U ∨ w ∈ iq_V := by decide +kernel
theorem iq_ow1_in : ∀ w ∈ iq_ow1, w ∈ iq_U ∨ w ∈ iq_V := by decide +kernel
