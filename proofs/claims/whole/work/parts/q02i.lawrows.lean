/-! ===== the law's own rows are its instructions ===== -/
theorem iq_ck {α : Type} {P : α → Prop} {l : List α} (k n : Nat) (h1 : ∀ e ∈ (l.drop k).take n, P e) (h2 : ∀ e ∈ l.drop (k + n), P e) : ∀ e ∈ l.drop k, P e := by
  intro e he
  rw [← List.take_append_drop n (l.drop k), List.drop_drop] at he
  rcases List.mem_append.mp he with h | h
  · exact h1 e h
  · exact h2 e h
theorem iq_dl0 : ∀ e ∈ (tb_L_law.drop 0).take 50, decode code e.1 = .ok e.2 := by decide +kernel
theorem iq_dl50 : ∀ e ∈ (tb_L_law.drop 50).take 50, decode code e.1 = .ok e.2 := by decide +kernel
theorem iq_dl100 : ∀ e ∈ (tb_L_law.drop 100).take 50, decode code e.1 = .ok e.2 := by decide +kernel
theorem iq_dl150 : ∀ e ∈ (tb_L_law.drop 150).take 50, decode code e.1 = .ok e.2 := by decide +kernel
theorem iq_dl200 : ∀ e ∈ (tb_L_law.drop 200).take 50, decode code e.1 = .ok e.2 := by decide +kernel
theorem iq_dl250 : ∀ e ∈ (tb_L_law.drop 250).take 50, decode code e.1 = .ok e.2 := by decide +kernel
theorem iq_dl300 : ∀ e ∈ (tb_L_law.drop 300).take 50, decode code e.1 = .ok e.2 := by decide +kernel
theorem iq_dl350 : ∀ e ∈ (tb_L_law.drop 350).take 50, decode code e.1 = .ok e.2 := by decide +kernel
theorem iq_dl400 : ∀ e ∈ (tb_L_law.drop 400).take 50, decode code e.1 = .ok e.2 := by decide +kernel
theorem iq_dl450 : ∀ e ∈ (tb_L_law.drop 450).take 50, decode code e.1 = .ok e.2 := by decide +kernel
theorem iq_dl500 : ∀ e ∈ (tb_L_law.drop 500).take 50, decode code e.1 = .ok e.2 := by decide +kernel
theorem iq_dl550 : ∀ e ∈ (tb_L_law.drop 550).take 50, decode code e.1 = .ok e.2 := by decide +kernel
theorem iq_dl600 : ∀ e ∈ (tb_L_law.drop 600).take 50, decode code e.1 = .ok e.2 := by decide +kernel
theorem iq_dl650 : ∀ e ∈ (tb_L_law.drop 650).take 50, decode code e.1 = .ok e.2 := by decide +kernel
theorem iq_dl700 : ∀ e ∈ (tb_L_law.drop 700).take 50, decode code e.1 = .ok e.2 := by decide +kernel
theorem iq_dl750 : ∀ e ∈ (tb_L_law.drop 750).take 50, decode code e.1 = .ok e.2 := by decide +kernel
theorem iq_dl800 : ∀ e ∈ (tb_L_law.drop 800).take 50, decode code e.1 = .ok e.2 := by decide +kernel
theorem iq_dl850 : ∀ e ∈ (tb_L_law.drop 850).take 50, decode code e.1 = .ok e.2 := by decide +kernel
theorem iq_dl900 : ∀ e ∈ (tb_L_law.drop 900).take 50, decode code e.1 = .ok e.2 := by decide +kernel
theorem iq_dl950 : ∀ e ∈ (tb_L_law.drop 950).take 50, decode code e.1 = .ok e.2 := by decide +kernel
theorem iq_dl1000 : ∀ e ∈ (tb_L_law.drop 1000).take 50, decode code e.1 = .ok e.2 := by decide +kernel
theorem iq_dl1050 : ∀ e ∈ (tb_L_law.drop 1050).take 50, decode code e.1 = .ok e.2 := by decide +kernel
theorem iq_dl1100 : ∀ e ∈ (tb_L_law.drop 1100).take 50, decode code e.1 = .ok e.2 := by decide +kernel
theorem iq_dl1150 : ∀ e ∈ (tb_L_law.drop 1150).take 50, decode code e.1 = .ok e.2 := by decide +kernel
theorem iq_dl1200 : ∀ e ∈ (tb_L_law.drop 1200).take 50, decode code e.1 = .ok e.2 := by decide +kernel
theorem iq_dl1250 : ∀ e ∈ (tb_L_law.drop 1250).take 50, decode code e.1 = .ok e.2 := by decide +kernel
theorem iq_dl1300 : ∀ e ∈ (tb_L_law.drop 1300).take 50, decode code e.1 = .ok e.2 := by decide +kernel
theorem iq_dl1350 : ∀ e ∈ (tb_L_law.drop 1350).take 50, decode code e.1 = .ok e.2 := by decide +kernel
theorem iq_dl1400 : ∀ e ∈ (tb_L_law.drop 1400).take 50, decode code e.1 = .ok e.2 := by decide +kernel
theorem iq_dl1450 : ∀ e ∈ (tb_L_law.drop 1450).take 50, decode code e.1 = .ok e.2 := by decide +kernel
theorem iq_dl1500 : ∀ e ∈ (tb_L_law.drop 1500).take 50, decode code e.1 = .ok e.2 := by decide +kernel
set_option maxRecDepth 100000 in
theorem iq_dlx : ∀ e ∈ tb_L_law.drop 1550, decode code e.1 = .ok e.2 := by decide +kernel
theorem iq_d357 : ∀ e ∈ iq_tab 357, decode (iq_cc 357) e.1 = .ok e.2 := iq_ck 0 50 iq_dl0 (iq_ck 50 50 iq_dl50 (iq_ck 100 50 iq_dl100 (iq_ck 150 50 iq_dl150 (iq_ck 200 50 iq_dl200 (iq_ck 250 50 iq_dl250 (iq_ck 300 50 iq_dl300 (iq_ck 350 50 iq_dl350 (iq_ck 400 50 iq_dl400 (iq_ck 450 50 iq_dl450 (iq_ck 500 50 iq_dl500 (iq_ck 550 50 iq_dl550 (iq_ck 600 50 iq_dl600 (iq_ck 650 50 iq_dl650 (iq_ck 700 50 iq_dl700 (iq_ck 750 50 iq_dl750 (iq_ck 800 50 iq_dl800 (iq_ck 850 50 iq_dl850 (iq_ck 900 50 iq_dl900 (iq_ck 950 50 iq_dl950 (iq_ck 1000 50 iq_dl1000 (iq_ck 1050 50 iq_dl1050 (iq_ck 1100 50 iq_dl1100 (iq_ck 1150 50 iq_dl1150 (iq_ck 1200 50 iq_dl1200 (iq_ck 1250 50 iq_dl1250 (iq_ck 1300 50 iq_dl1300 (iq_ck 1350 50 iq_dl1350 (iq_ck 1400 50 iq_dl1400 (iq_ck 1450 50 iq_dl1450 (iq_ck 1500 50 iq_dl1500 iq_dlx))))))))))))))))))))))))))))))
