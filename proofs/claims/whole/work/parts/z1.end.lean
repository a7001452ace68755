/-! ===== the claim ===== -/
theorem iq_pure : iq_Pure := by
  intro L xs hL
  obtain ⟨I', J', X', e, a1, a2⟩ := jl_law (J := zJ0 (fun _ _ => 0)) (X := (114, 34380, false)) hL (jInv_0 (fun k i => if k = 0 then xs i else 0))
  obtain ⟨n, hn⟩ := zi_law L (fun k i => if k = 0 then xs i else 0) (fun _ _ => 0) _ (zL_law_ok L 0 _ _ _ e)
  refine ⟨72, n, (iq_sh L, I', J', X'), by decide, hn, ?_, ?_⟩
  · show X'.1 ≤ 601024
    have b : X'.1 ≤ 114 + 512 := a1
    omega
  · show X'.2.1 ≤ 7293034
    have b : X'.2.1 ≤ 34380 + 3072 := a2
    omega
theorem i_vc : Claimed_1_1 ∧ Claimed_1_2 := iq_vc iq_pure
