/-! ===== what holds when the loop begins ===== -/
theorem z8c {k : Nat} (h : k < 8) : k = 0 ∨ k = 1 ∨ k = 2 ∨ k = 3 ∨ k = 4 ∨ k = 5 ∨ k = 6 ∨ k = 7 := by omega
set_option maxRecDepth 100000 in
theorem z0_7 (I : iq_I) {k : Nat} (h : k < 8) : zI0 I 7 k = 0 := rfl
set_option maxRecDepth 100000 in
theorem z0_15 (I : iq_I) {k : Nat} (h : k < 8) : zI0 I 15 k = 1 := by
  rcases z8c h with rfl | rfl | rfl | rfl | rfl | rfl | rfl | rfl <;> rfl
set_option maxRecDepth 100000 in
theorem z0_81 (I : iq_I) {k : Nat} (h : k < 8) : zI0 I 81 k = 1 := by
  rcases z8c h with rfl | rfl | rfl | rfl | rfl | rfl | rfl | rfl <;> rfl
set_option maxRecDepth 100000 in
theorem z0_U (I : iq_I) : jRU (zI0 I) m0 :=
  ⟨rfl, rfl, rfl, rfl, rfl, fun w hw => absurd hw (Nat.not_lt_zero _), fun w hw => absurd hw (Nat.not_lt_zero _), fun k hk => z0_7 I hk, fun w i hw => absurd hw (Nat.not_lt_zero _), fun s k hs => absurd hs (Nat.not_lt_zero _), fun k hk => z0_15 I hk, rfl, rfl, fun v hv => absurd hv (Nat.not_lt_zero _), fun c hc => nomatch hc⟩
set_option maxRecDepth 100000 in
theorem z0_N (I : iq_I) : jRN (zI0 I) m0 :=
  ⟨rfl, rfl, rfl, rfl, rfl, fun w hw => absurd hw (Nat.not_lt_zero _), fun w hw => absurd hw (Nat.not_lt_zero _), fun w i hw => absurd hw (Nat.not_lt_zero _), fun s k hs => absurd hs (Nat.not_lt_zero _), fun k hk => z0_81 I hk, rfl, fun v hv => absurd hv (Nat.not_lt_zero _), fun _ => rfl, fun c hc => nomatch hc⟩
set_option maxRecDepth 100000 in
theorem z0_A (I : iq_I) : jAl (zI0 I) m0 g0 16 17 18 24 19 20 21 22 23 25 26 98 54 100 108 63 :=
  ⟨dOk_0.2.1, ⟨rfl, rfl, fun s hs => absurd hs (Nat.not_lt_zero _), fun s hs => absurd hs (Nat.not_lt_zero _), fun s i hs => absurd hs (Nat.not_lt_zero _)⟩, ⟨rfl, fun s hs => absurd hs (Nat.not_lt_zero _), fun s i hs => absurd hs (Nat.not_lt_zero _)⟩, ⟨0, Nat.zero_le _, rfl, rfl, fun _ => g0, rfl, fun k hk => absurd hk (Nat.not_lt_zero _)⟩, ⟨0, Nat.zero_le _, rfl, rfl, fun i hi => absurd hi (Nat.not_lt_zero _)⟩⟩
set_option maxRecDepth 100000 in
theorem jInv_0 (I : iq_I) : jInv (zI0 I) :=
  ⟨m0, g0, dOk_0.1, z0_U I, z0_N I, ⟨rfl, fun s hs => absurd hs (Nat.not_lt_zero _)⟩, z0_A I, ⟨rfl, Or.inl rfl⟩, ⟨0, Nat.zero_le _, rfl, rfl, fun i hi => absurd hi (Nat.not_lt_zero _)⟩, rfl, rfl, rfl, rfl⟩
