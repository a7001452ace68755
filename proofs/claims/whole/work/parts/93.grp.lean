/-! ===== groups of cells ===== -/
/-- which part of the state a cell belongs to: 0 scratch, 1 the class's museum, 2 the reference's, 3 where sayings begin, 4 gallery, acts and seen, 5 the image, 6 the tape, 7 the fault, 8 what was refused -/
def ut (k i : Nat) : Nat := bif jsc k i then 0 else bif 4 ≤ k && k ≤ 15 then 1 else bif (77 ≤ k && k ≤ 82) || k == 84 || (k == 76 && (i == 1 || i == 7 || i == 2 || i == 3 || i == 57 || i == 4 || i == 6)) then 2 else bif k == 83 || (k == 76 && i == 5) then 3 else bif (16 ≤ k && k ≤ 26) || k == 98 || k == 100 || k == 108 || (k == 76 && (i == 54 || i == 63)) then 4 else bif (27 ≤ k && k ≤ 37) || k == 111 || k == 112 || k == 113 || (k == 76 && (i == 68 || i == 69 || i == 70)) || (k == 1 && i == 13) then 5 else bif k == 2 || k == 85 || (k == 1 && i == 11) || (k == 76 && i == 17) then 6 else bif (k == 1 && i == 12) || (k == 76 && i == 19) then 7 else bif k == 3 || k == 86 then 8 else 9
/-- alike but for some groups -/
def jad (L : List Nat) (I I' : iq_I) : Prop := ∀ k i, ¬ ut k i ∈ L → I' k i = I k i
theorem jad_rf (L : List Nat) (I : iq_I) : jad L I I := fun _ _ _ => rfl
theorem jad_tr {L : List Nat} {I I' I'' : iq_I} (h : jad L I I') (h' : jad L I' I'') : jad L I I'' := fun k i hk => (h' k i hk).trans (h k i hk)
theorem jad_mo {L L' : List Nat} {I I' : iq_I} (h : jad L I I') (hL : ∀ x, x ∈ L → x ∈ L') : jad L' I I' := fun k i hk => h k i fun e => hk (hL _ e)
theorem jad_up {L : List Nat} {I I' : iq_I} (h : jad L I I') {k i : Nat} {v : Int32} (hk : ut k i ∈ L) : jad L I (iq_upI I' k i v) := fun a j ha => by
  unfold iq_upI
  by_cases e : a = k
  · rw [if_pos e]
    by_cases e2 : j = i
    · subst e; subst e2; exact absurd hk ha
    · rw [if_neg e2]; exact h a j ha
  · rw [if_neg e]; exact h a j ha
theorem ut_sc {k i : Nat} (h : jsc k i = true) : ut k i = 0 := by unfold ut; rw [h]; rfl
theorem jad_ag {L : List Nat} {I I' : iq_I} (h : jag I I') (hL : 0 ∈ L) : jad L I I' := fun k i hk => h k i (by
  cases e : jsc k i with
  | false => rfl
  | true => rw [ut_sc e] at hk; exact absurd hL hk)
theorem jRU_ad {L : List Nat} {I I' : iq_I} {m : jMu} (h : jRU I m) (a : jad L I I') (hL : ¬ 1 ∈ L) : jRU I' m := by
  obtain ⟨h1, h2, h3, h4, h5, h6, h7, h8, h9, h10, h11, h12, h13, h14, h15⟩ := h
  refine ⟨?_, ?_, ?_, ?_, ?_, fun w hw => ?_, fun w hw => ?_, fun k hk => ?_, fun w i hw hi => ?_, fun s k hs hk => ?_, fun k hk => ?_, ?_, ?_, fun v hv => ?_, fun c hc => ?_⟩
  · rw [a 4 0 hL, h1]
  · rw [a 4 1 hL, h2]
  · rw [a 4 2 hL, h3]
  · rw [a 4 3 hL, h4]
  · rw [a 4 4 hL, h5]
  · rw [a 5 _ hL, h6 w hw]
  · rw [a 6 _ hL, h7 w hw]
  · rw [a 7 _ hL, h8 k hk]
  · rw [a 13 _ hL, h9 w i hw hi]
  · rw [a 14 _ hL, h10 s k hs hk]
  · rw [a 15 _ hL, h11 k hk]
  · rw [a 8 0 hL, h12]
  · rw [a 8 1 hL, h13]
  · obtain ⟨x, p1, p2, p3, p4⟩ := h14 v hv
    exact ⟨x, by rw [a 10 _ hL, p1], by rw [a 11 _ hL, p2], p3, fun i hi => by rw [a 9 _ hL, p4 i hi]⟩
  · obtain ⟨x, p1, p2, p3, p4⟩ := h15 c hc
    exact ⟨x, by rw [a 10 _ hL, p1], by rw [a 11 _ hL, p2], p3, fun i hi => by rw [a 9 _ hL, p4 i hi]⟩
theorem jRN_ad {L : List Nat} {I I' : iq_I} {m : jMu} (h : jRN I m) (a : jad L I I') (hL : ¬ 2 ∈ L) : jRN I' m := by
  obtain ⟨h1, h2, h3, h4, h5, h6, h7, h8, h9, h10, h11, h12, h13, h14⟩ := h
  refine ⟨?_, ?_, ?_, ?_, ?_, fun w hw => ?_, fun w hw => ?_, fun w i hw hi => ?_, fun s k hs hk => ?_, fun k hk => ?_, ?_, fun v hv => ?_, fun c => ?_, fun c hc => ?_⟩
  · rw [a 76 1 hL, h1]
  · rw [a 76 7 hL, h2]
  · rw [a 76 2 hL, h3]
  · rw [a 76 3 hL, h4]
  · rw [a 76 57 hL, h5]
  · rw [a 78 _ hL, h6 w hw]
  · rw [a 79 _ hL, h7 w hw]
  · rw [a 77 _ hL, h8 w i hw hi]
  · rw [a 80 _ hL, h9 s k hs hk]
  · rw [a 81 _ hL, h10 k hk]
  · rw [a 76 4 hL, h11]
  · obtain ⟨x, p1, p2, p3⟩ := h12 v hv
    exact ⟨x, by rw [a 82 _ hL, p1], p2, fun i hi => by rw [a 84 _ hL, p3 i hi]⟩
  · rw [a 76 6 hL, h13 c]
  · obtain ⟨x, p1, p2, p3⟩ := h14 c hc
    exact ⟨x, by rw [a 76 6 hL, p1], p2, fun i hi => by rw [a 84 _ hL, p3 i hi]⟩
theorem jRB_ad {L : List Nat} {I I' : iq_I} {g : jGa} (h : jRB I g) (a : jad L I I') (hL : ¬ 3 ∈ L) : jRB I' g := ⟨by rw [a 76 5 hL, h.1], fun s hs => by rw [a 83 _ hL, h.2 s hs]⟩
theorem jRG_ad {L : List Nat} {I I' : iq_I} {o b l w : Nat} {g : jGa} (ho : ∀ i, ¬ ut o i ∈ L) (hb : ∀ i, ¬ ut b i ∈ L) (hl : ∀ i, ¬ ut l i ∈ L) (hw : ∀ i, ¬ ut w i ∈ L) (h : jRG I o b l w g) (a : jad L I I') : jRG I' o b l w g :=
  ⟨by rw [a o _ (ho _), h.1], by rw [a o _ (ho _), h.2.1], fun s hs => by rw [a b _ (hb _), h.2.2.1 s hs], fun s hs => by rw [a l _ (hl _), h.2.2.2.1 s hs], fun s i hs hi => by rw [a w _ (hw _), h.2.2.2.2 s i hs hi]⟩
theorem jAl_ad {L : List Nat} {I I' : iq_I} {m : jMu} {g : jGa} {o b l w a0 a1 a2 a3 a4 s1 s2 r n h q e : Nat} (hz : jAl I m g o b l w a0 a1 a2 a3 a4 s1 s2 r n h q e) (a : jad L I I')
    (c : ∀ x, x ∈ [o, b, l, w, a0, a1, a2, a3, a4, s1, s2, r, h, q] → ∀ i, ¬ ut x i ∈ L) (cn : ¬ ut 76 n ∈ L) (ce : ¬ ut 76 e ∈ L) : jAl I' m g o b l w a0 a1 a2 a3 a4 s1 s2 r n h q e := by
  obtain ⟨h1, h2, h3, ⟨k, k1, k2, k3, G, k4, k5⟩, ⟨d, d1, d2, d3, d4⟩⟩ := hz
  have C : ∀ x i, x ∈ [o, b, l, w, a0, a1, a2, a3, a4, s1, s2, r, h, q] → I' x i = I x i := fun x i hx => a x i (c x hx i)
  refine ⟨h1, jRG_ad (c _ (by simp)) (c _ (by simp)) (c _ (by simp)) (c _ (by simp)) h2 a, jRR_cg h3 (fun j => C r j (by simp)), ⟨k, k1, by rw [C _ _ (by simp), k2], by rw [a _ _ cn, k3], G, k4, fun i hi => ?_⟩, ⟨d, d1, by rw [C _ _ (by simp), d2], by rw [a _ _ ce, d3], fun i hi => ?_⟩⟩
  · obtain ⟨p1, p2, p3⟩ := k5 i hi
    refine ⟨p1, jRR_cg p2 (fun j => C h _ (by simp)), ?_⟩
    rw [C a1 _ (by simp), C a2 _ (by simp), C a3 _ (by simp), C a4 _ (by simp)]
    exact p3
  · obtain ⟨x, y, p1, p2, p3, p4, p5, p6⟩ := d4 i hi
    exact ⟨x, y, p1, p2, by rw [C _ _ (by simp), p3], by rw [C _ _ (by simp), p4], by rw [C _ _ (by simp), p5], by rw [C _ _ (by simp), p6]⟩
/-- gallery, acts and what is seen, between two calls -/
def jMn (I : iq_I) (m : jMu) (g : jGa) : Prop := jAl I m g 16 17 18 24 19 20 21 22 23 25 26 98 54 100 108 63
def jIm (I : iq_I) (m : jMu) (g : jGa) : Prop := I 1 13 = I 76 68 ∧ (I 1 13 = 0 ∨ (I 1 13 = 1 ∧ ∃ g', gY g' = gY g ∧ (∀ s, s < gY g → gB g' s = gB g s) ∧ jAl I m g' 27 28 29 35 30 31 32 33 34 36 37 111 69 112 113 70))
def jTp (I : iq_I) : Prop := ∃ t : Nat, t ≤ 700 ∧ I 1 11 = jn t ∧ I 76 17 = jn t ∧ ∀ i, i < t → I 85 i = I 2 i ∧ ∃ b, b < 256 ∧ I 2 i = jn b
def jFl (I : iq_I) : Prop := I 76 19 = I 1 12
def jRf (I : iq_I) : Prop := I 86 0 = I 3 0 ∧ I 86 1 = I 3 1 ∧ I 86 2 = I 3 2
theorem jInv_iff {I : iq_I} : jInv I ↔ ∃ (m : jMu) (g : jGa), mOk m ∧ jRU I m ∧ jRN I m ∧ jRB I g ∧ jMn I m g ∧ jIm I m g ∧ jTp I ∧ jFl I ∧ jRf I := Iff.rfl
theorem jMn_ad {L : List Nat} {I I' : iq_I} {m : jMu} {g : jGa} (h : jMn I m g) (a : jad L I I') (hL : ¬ 4 ∈ L) : jMn I' m g := by
  refine jAl_ad h a ?_ hL hL
  intro x hx i
  simp at hx
  rcases hx with rfl | rfl | rfl | rfl | rfl | rfl | rfl | rfl | rfl | rfl | rfl | rfl | rfl | rfl <;> exact hL
theorem jIm_ad {L : List Nat} {I I' : iq_I} {m : jMu} {g : jGa} (h : jIm I m g) (a : jad L I I') (hL : ¬ 5 ∈ L) : jIm I' m g := by
  obtain ⟨h6, h7⟩ := h
  refine ⟨by rw [a 1 13 hL, a 76 68 hL, h6], ?_⟩
  rw [a 1 13 hL]
  rcases h7 with h7 | ⟨h7, g', y1, y2, y3⟩
  · exact Or.inl h7
  · refine Or.inr ⟨h7, g', y1, y2, jAl_ad y3 a ?_ hL hL⟩
    intro x hx i
    simp at hx
    rcases hx with rfl | rfl | rfl | rfl | rfl | rfl | rfl | rfl | rfl | rfl | rfl | rfl | rfl | rfl <;> exact hL
theorem jIm_g {I : iq_I} {m : jMu} {g g2 : jGa} (h : jIm I m g) (hY : gY g2 = gY g) (hB : ∀ s, s < gY g → gB g2 s = gB g s) : jIm I m g2 := by
  obtain ⟨h6, h7⟩ := h
  refine ⟨h6, ?_⟩
  rcases h7 with h7 | ⟨h7, g', y1, y2, y3⟩
  · exact Or.inl h7
  · exact Or.inr ⟨h7, g', by rw [y1, hY], fun s hs => by rw [y2 s (by omega), hB s (by omega)], y3⟩
theorem jRB_g {I : iq_I} {g g2 : jGa} (h : jRB I g) (hY : gY g2 = gY g) (hB : ∀ s, s < gY g → gB g2 s = gB g s) : jRB I g2 :=
  ⟨by rw [h.1, hY], fun s hs => by rw [h.2 s (by omega), hB s (by omega)]⟩
theorem jTp_ad {L : List Nat} {I I' : iq_I} (h : jTp I) (a : jad L I I') (hL : ¬ 6 ∈ L) : jTp I' := by
  obtain ⟨t, t1, t2, t3, t4⟩ := h
  exact ⟨t, t1, by rw [a 1 11 hL, t2], by rw [a 76 17 hL, t3], fun i hi => by rw [a 85 i hL, a 2 i hL]; exact t4 i hi⟩
theorem jFl_ad {L : List Nat} {I I' : iq_I} (h : jFl I) (a : jad L I I') (hL : ¬ 7 ∈ L) : jFl I' := by
  unfold jFl; rw [a 76 19 hL, a 1 12 hL]; exact h
theorem jRf_ad {L : List Nat} {I I' : iq_I} (h : jRf I) (a : jad L I I') (hL : ¬ 8 ∈ L) : jRf I' := by
  unfold jRf; rw [a 86 0 hL, a 86 1 hL, a 86 2 hL, a 3 0 hL, a 3 1 hL, a 3 2 hL]; exact h
