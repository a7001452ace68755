/-! ===== a row that the parts m30 on need ===== -/
theorem iq_th_inr {tab : iq_T} {ow kd pc : Nat} {M : iq_M} {o : iq_S ⊕ (iq_R × iq_M)} (h : iq_th tab ow kd pc M = some o) : o = .inr (.inr kd, (M.1, M.2.1, M.2.2.1, M.2.2.2.1 + 1, M.2.2.2.2.1 + 6, true)) := by
  unfold iq_th at h
  repeat' (split at h)
  all_goals (first | (cases h; done) | (cases h; rfl))
