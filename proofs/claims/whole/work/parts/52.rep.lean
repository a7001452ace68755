/-! ===== what the two objects stand for ===== -/
/-- a museum: states, words, arcs told, ends, letters of a word, its kind, its letters, arcs, prices, visitors, habits, law -/
abbrev jMu : Type := Nat × Nat × Int32 × (Nat → Bool) × (Nat → Nat) × (Nat → Nat) × (Nat → Nat → Int32) × (Nat → Nat → Option Nat) × (Nat → Nat) × Nat × (Nat → List Int32) × Option (List Int32)
def mS (m : jMu) : Nat := m.1
def mW (m : jMu) : Nat := m.2.1
def mA (m : jMu) : Int32 := m.2.2.1
def mE (m : jMu) : Nat → Bool := m.2.2.2.1
def mL (m : jMu) : Nat → Nat := m.2.2.2.2.1
def mK (m : jMu) : Nat → Nat := m.2.2.2.2.2.1
def mT (m : jMu) : Nat → Nat → Int32 := m.2.2.2.2.2.2.1
def mR (m : jMu) : Nat → Nat → Option Nat := m.2.2.2.2.2.2.2.1
def mP (m : jMu) : Nat → Nat := m.2.2.2.2.2.2.2.2.1
def mV (m : jMu) : Nat := m.2.2.2.2.2.2.2.2.2.1
def mH (m : jMu) : Nat → List Int32 := m.2.2.2.2.2.2.2.2.2.2.1
def mC (m : jMu) : Option (List Int32) := m.2.2.2.2.2.2.2.2.2.2.2
def mTold (m : jMu) (k : Nat) : Bool := jex (mW m) fun w => decide (mK m w = k)
/-- a rule's steps: how many numbers wait before and behind -/
def jdp : List Int32 → Nat → Option Nat
  | [], d => some d
  | c :: t, d => if -8 < c then (if d < 64 then jdp t (d + 1) else none) else if c = -8 then (if 0 < d then jdp t d else none) else (if 1 < d then jdp t (d - 1) else none)
def jcode (c : List Int32) : Prop := jdp c 0 = some 1 ∧ ∀ x ∈ c, -16 ≤ x
def mOk (m : jMu) : Prop := mS m ≤ 10 ∧ mW m ≤ 14 ∧ (∀ w, w < mW m → mL m w ≤ 9 ∧ 1 ≤ mL m w ∧ mK m w < 8) ∧ (∀ s k t, s < mS m → k < 8 → mR m s k = some t → t < mS m) ∧ (∀ k, k < 8 → mP m k ≤ 9) ∧ mV m ≤ 4 ∧ (∀ v, v < mV m → jcode (mH m v)) ∧ (∀ c, mC m = some c → jcode c)
/-- sayings: how many, where each begins, their words, the day -/
abbrev jGa : Type := Nat × (Nat → Nat) × (Nat → List Nat) × Nat
def gY (g : jGa) : Nat := g.1
def gB (g : jGa) : Nat → Nat := g.2.1
def gS (g : jGa) : Nat → List Nat := g.2.2.1
def gD (g : jGa) : Nat := g.2.2.2
def gOk (m : jMu) (g : jGa) : Prop := gY g ≤ 5 ∧ (∀ s, s < gY g → gB g s < mS m) ∧ (∀ s, s < gY g → (gS g s).length ≤ 40) ∧ (∀ s i, s < gY g → i < (gS g s).length → (gS g s).getD i 0 < mW m) ∧ gD g < 7
/-- the class's rule r, of the rules at o (steps at p, begins at b, ends at e) -/
def jRu (I : iq_I) (p b e r : Nat) (c : List Int32) : Prop := ∃ x, I b r = jn x ∧ I e r = jn (x + c.length) ∧ x + c.length ≤ 700 ∧ ∀ i, i < c.length → I p (x + i) = c.getD i 0
/-- the class's museum stands at 4 .. 15 -/
def jRU (I : iq_I) (m : jMu) : Prop :=
  I 4 0 = jn (mS m) ∧ I 4 1 = jb (mS m) (mE m) ∧ I 4 2 = jn (mW m) ∧ I 4 3 = mA m ∧ I 4 4 = jb 8 (mTold m) ∧
  (∀ w, w < mW m → I 5 w = jn (mL m w)) ∧ (∀ w, w < mW m → I 6 w = jn (mK m w)) ∧ (∀ k, k < 8 → I 7 k = jn (jcn (mW m) fun w => decide (mK m w = k))) ∧
  (∀ w i, w < mW m → i < mL m w → I 13 (w * 9 + i) = mT m w i) ∧ (∀ s k, s < mS m → k < 8 → I 14 (s * 8 + k) = jo (mR m s k)) ∧ (∀ k, k < 8 → I 15 k = jn (mP m k)) ∧
  I 8 0 = jn (mV m) ∧ I 8 1 = (if mC m = none then 0 else 1) ∧ (∀ v, v < mV m → jRu I 9 10 11 v (mH m v)) ∧ (∀ c, mC m = some c → jRu I 9 10 11 4 c)
/-- how the reference writes a step -/
def jenc (x : Int32) : List Int32 := if 0 ≤ x then [1, x] else if -8 < x then [2, -1 - x] else if x = -8 then [3] else if x = -9 then [5] else if x = -10 then [4] else if x = -11 then [6] else if x = -12 then [7] else if x = -13 then [8] else if x = -14 then [9] else if x = -15 then [10] else [11]
def jencs : List Int32 → List Int32
  | [] => [0]
  | x :: t => jenc x ++ jencs t
/-- the reference's rule at x in row p -/
def jRn (I : iq_I) (p x : Nat) (c : List Int32) : Prop := x + (jencs c).length ≤ 4000 ∧ ∀ i, i < (jencs c).length → I p (x + i) = (jencs c).getD i 0
/-- the reference's museum stands at 76 .. 84 -/
def jRN (I : iq_I) (m : jMu) : Prop :=
  I 76 1 = jn (mS m) ∧ I 76 7 = jb (mS m) (mE m) ∧ I 76 2 = jn (mW m) ∧ I 76 3 = mA m ∧ I 76 57 = 0 ∧
  (∀ w, w < mW m → I 78 w = jn (mL m w)) ∧ (∀ w, w < mW m → I 79 w = jn (mK m w)) ∧
  (∀ w i, w < mW m → i < mL m w → I 77 (9 * w + i) = mT m w i) ∧ (∀ s k, s < mS m → k < 8 → I 80 (8 * s + k) = jo (mR m s k)) ∧ (∀ k, k < 8 → I 81 k = jn (mP m k)) ∧
  I 76 4 = jn (mV m) ∧ (∀ v, v < mV m → ∃ x, I 82 v = jn x ∧ jRn I 84 x (mH m v)) ∧ (mC m = none → I 76 6 = -1) ∧ (∀ c, mC m = some c → ∃ x, I 76 6 = jn x ∧ jRn I 84 x c)
/-- the class's gallery at o, begins at b, lengths at l, words at w -/
def jRG (I : iq_I) (o b l w : Nat) (g : jGa) : Prop := I o 0 = jn (gY g) ∧ I o 1 = jn (gD g) ∧ (∀ s, s < gY g → I b s = jn (gB g s)) ∧ (∀ s, s < gY g → I l s = jn (gS g s).length) ∧ (∀ s i, s < gY g → i < (gS g s).length → I w (s * 40 + i) = jn ((gS g s).getD i 0))
/-- the reference's row of it -/
def jRR (r : Nat → Int32) (g : jGa) : Prop := r 5 = jn (gD g) ∧ (∀ s, s < gY g → r s = jn (gS g s).length) ∧ (∀ s i, s < gY g → i < (gS g s).length → r (6 + 40 * s + i) = jn ((gS g s).getD i 0))
def jRB (I : iq_I) (g : jGa) : Prop := I 76 5 = jn (gY g) ∧ (∀ s, s < gY g → I 83 s = jn (gB g s))
/-- an act of the class, d s p w, undone on g gives g' -/
def jUn (d s p w : Int32) (m : jMu) (g g' : jGa) : Prop :=
  gY g' = gY g ∧ (∀ y, y < gY g → gB g' y = gB g y) ∧
  ((d = 0 ∧ ∃ a b, s = jn a ∧ p = jn b ∧ a < gY g ∧ b < (gS g a).length ∧ gD g' = gD g ∧ ∀ y, y < gY g → gS g' y = if y = a then (gS g a).eraseIdx b else gS g y) ∨
   (d = 1 ∧ ∃ a b c, s = jn a ∧ p = jn b ∧ w = jn c ∧ a < gY g ∧ b ≤ (gS g a).length ∧ (gS g a).length < 40 ∧ c < mW m ∧ gD g' = gD g ∧ ∀ y, y < gY g → gS g' y = if y = a then (gS g a).insertIdx b c else gS g y) ∨
   (d = 2 ∧ gD g' = (gD g + 6) % 7 ∧ ∀ y, y < gY g → gS g' y = gS g y))
/-- gallery, acts and what is seen: the class's at o b l w, acts at a0 .. , seen at s1 s2; the reference's row r, acts held at n, rows at h, seen at q, how many at e -/
def jAl (I : iq_I) (m : jMu) (g : jGa) (o b l w a0 a1 a2 a3 a4 s1 s2 : Nat) (r n h q e : Nat) : Prop :=
  gOk m g ∧ jRG I o b l w g ∧ jRR (I r) g ∧
  (∃ a : Nat, a ≤ 40 ∧ I a0 0 = jn a ∧ I 76 n = jn a ∧ ∃ G : Nat → jGa, G a = g ∧ ∀ k, k < a → gOk m (G k) ∧ jRR (fun j => I h (206 * k + j)) (G k) ∧ jUn (I a1 k) (I a2 k) (I a3 k) (I a4 k) m (G (k + 1)) (G k)) ∧
  (∃ c : Nat, c ≤ 3 ∧ I o 2 = jn c ∧ I 76 e = jn c ∧ ∀ i, i < c → ∃ x y, x < gY g ∧ y < mW m ∧ I s1 i = jn x ∧ I s2 i = jn y ∧ I q (2 * i) = jn x ∧ I q (2 * i + 1) = jn y)
/-- what holds between two calls -/
def jInv (I : iq_I) : Prop := ∃ (m : jMu) (g : jGa), mOk m ∧ jRU I m ∧ jRN I m ∧ jRB I g ∧
  jAl I m g 16 17 18 24 19 20 21 22 23 25 26 98 54 100 108 63 ∧
  (I 1 13 = I 76 68 ∧ (I 1 13 = 0 ∨ (I 1 13 = 1 ∧ ∃ g', gY g' = gY g ∧ (∀ s, s < gY g → gB g' s = gB g s) ∧ jAl I m g' 27 28 29 35 30 31 32 33 34 36 37 111 69 112 113 70))) ∧
  (∃ t : Nat, t ≤ 700 ∧ I 1 11 = jn t ∧ I 76 17 = jn t ∧ ∀ i, i < t → I 85 i = I 2 i ∧ ∃ b, b < 256 ∧ I 2 i = jn b) ∧
  I 76 19 = I 1 12 ∧ I 86 0 = I 3 0 ∧ I 86 1 = I 3 1 ∧ I 86 2 = I 3 2
/-! cells whose contents don't matter between two calls -/
def jsc (k i : Nat) : Bool := k == 12 || (38 ≤ k && k ≤ 62) || (64 ≤ k && k ≤ 68) || (70 ≤ k && k ≤ 71) || (73 ≤ k && k ≤ 75) || (87 ≤ k && k ≤ 97) || k == 99 || (101 ≤ k && k ≤ 107) || (109 ≤ k && k ≤ 110) || (k == 63 && 6 ≤ i) || (k == 72 && 4 ≤ i) || (k == 76 && (i == 0 || i == 18 || (21 ≤ i && i ≤ 39) || i == 67))
def jag (I I' : iq_I) : Prop := ∀ k i, jsc k i = false → I' k i = I k i
theorem jag_rf (I : iq_I) : jag I I := fun _ _ _ => rfl
theorem jag_tr {I I' I'' : iq_I} (h : jag I I') (h' : jag I' I'') : jag I I'' := fun k i hk => (h' k i hk).trans (h k i hk)
theorem jag_up {I I' : iq_I} (h : jag I I') {k i : Nat} {v : Int32} (hk : jsc k i = true) : jag I (iq_upI I' k i v) := fun a j ha => by
  unfold iq_upI
  by_cases e : a = k
  · rw [if_pos e]
    by_cases e2 : j = i
    · subst e; subst e2; rw [hk] at ha; cases ha
    · rw [if_neg e2]; exact h a j ha
  · rw [if_neg e]; exact h a j ha
theorem jRU_ag {I I' : iq_I} {m : jMu} (h : jRU I m) (a : jag I I') : jRU I' m := by
  obtain ⟨h1, h2, h3, h4, h5, h6, h7, h8, h9, h10, h11, h12, h13, h14, h15⟩ := h
  refine ⟨?_, ?_, ?_, ?_, ?_, fun w hw => ?_, fun w hw => ?_, fun k hk => ?_, fun w i hw hi => ?_, fun s k hs hk => ?_, fun k hk => ?_, ?_, ?_, fun v hv => ?_, fun c hc => ?_⟩
  · rw [a 4 0 rfl, h1]
  · rw [a 4 1 rfl, h2]
  · rw [a 4 2 rfl, h3]
  · rw [a 4 3 rfl, h4]
  · rw [a 4 4 rfl, h5]
  · rw [a 5 _ rfl, h6 w hw]
  · rw [a 6 _ rfl, h7 w hw]
  · rw [a 7 _ rfl, h8 k hk]
  · rw [a 13 _ rfl, h9 w i hw hi]
  · rw [a 14 _ rfl, h10 s k hs hk]
  · rw [a 15 _ rfl, h11 k hk]
  · rw [a 8 0 rfl, h12]
  · rw [a 8 1 rfl, h13]
  · obtain ⟨x, p1, p2, p3, p4⟩ := h14 v hv
    exact ⟨x, by rw [a 10 _ rfl, p1], by rw [a 11 _ rfl, p2], p3, fun i hi => by rw [a 9 _ rfl, p4 i hi]⟩
  · obtain ⟨x, p1, p2, p3, p4⟩ := h15 c hc
    exact ⟨x, by rw [a 10 _ rfl, p1], by rw [a 11 _ rfl, p2], p3, fun i hi => by rw [a 9 _ rfl, p4 i hi]⟩
theorem jRN_ag {I I' : iq_I} {m : jMu} (h : jRN I m) (a : jag I I') : jRN I' m := by
  obtain ⟨h1, h2, h3, h4, h5, h6, h7, h8, h9, h10, h11, h12, h13, h14⟩ := h
  refine ⟨?_, ?_, ?_, ?_, ?_, fun w hw => ?_, fun w hw => ?_, fun w i hw hi => ?_, fun s k hs hk => ?_, fun k hk => ?_, ?_, fun v hv => ?_, fun c => ?_, fun c hc => ?_⟩
  · rw [a 76 1 rfl, h1]
  · rw [a 76 7 rfl, h2]
  · rw [a 76 2 rfl, h3]
  · rw [a 76 3 rfl, h4]
  · rw [a 76 57 rfl, h5]
  · rw [a 78 _ rfl, h6 w hw]
  · rw [a 79 _ rfl, h7 w hw]
  · rw [a 77 _ rfl, h8 w i hw hi]
  · rw [a 80 _ rfl, h9 s k hs hk]
  · rw [a 81 _ rfl, h10 k hk]
  · rw [a 76 4 rfl, h11]
  · obtain ⟨x, p1, p2, p3⟩ := h12 v hv
    exact ⟨x, by rw [a 82 _ rfl, p1], p2, fun i hi => by rw [a 84 _ rfl, p3 i hi]⟩
  · rw [a 76 6 rfl, h13 c]
  · obtain ⟨x, p1, p2, p3⟩ := h14 c hc
    exact ⟨x, by rw [a 76 6 rfl, p1], p2, fun i hi => by rw [a 84 _ rfl, p3 i hi]⟩
theorem jRB_ag {I I' : iq_I} {g : jGa} (h : jRB I g) (a : jag I I') : jRB I' g := ⟨by rw [a 76 5 rfl, h.1], fun s hs => by rw [a 83 _ rfl, h.2 s hs]⟩
theorem jRG_ag {I I' : iq_I} {o b l w : Nat} {g : jGa} (ho : ∀ i, jsc o i = false) (hb : ∀ i, jsc b i = false) (hl : ∀ i, jsc l i = false) (hw : ∀ i, jsc w i = false) (h : jRG I o b l w g) (a : jag I I') : jRG I' o b l w g :=
  ⟨by rw [a o _ (ho _), h.1], by rw [a o _ (ho _), h.2.1], fun s hs => by rw [a b _ (hb _), h.2.2.1 s hs], fun s hs => by rw [a l _ (hl _), h.2.2.2.1 s hs], fun s i hs hi => by rw [a w _ (hw _), h.2.2.2.2 s i hs hi]⟩
theorem jRR_cg {r r' : Nat → Int32} {g : jGa} (h : jRR r g) (e : ∀ j, r' j = r j) : jRR r' g :=
  ⟨by rw [e, h.1], fun s hs => by rw [e, h.2.1 s hs], fun s i hs hi => by rw [e, h.2.2 s i hs hi]⟩
theorem jAl_ag {I I' : iq_I} {m : jMu} {g : jGa} {o b l w a0 a1 a2 a3 a4 s1 s2 r n h q e : Nat} (hz : jAl I m g o b l w a0 a1 a2 a3 a4 s1 s2 r n h q e) (a : jag I I')
    (c : ∀ x, x ∈ [o, b, l, w, a0, a1, a2, a3, a4, s1, s2, r, h, q] → ∀ i, jsc x i = false) (cn : jsc 76 n = false) (ce : jsc 76 e = false) : jAl I' m g o b l w a0 a1 a2 a3 a4 s1 s2 r n h q e := by
  obtain ⟨h1, h2, h3, ⟨k, k1, k2, k3, G, k4, k5⟩, ⟨d, d1, d2, d3, d4⟩⟩ := hz
  have C : ∀ x i, x ∈ [o, b, l, w, a0, a1, a2, a3, a4, s1, s2, r, h, q] → I' x i = I x i := fun x i hx => a x i (c x hx i)
  refine ⟨h1, jRG_ag (c _ (by simp)) (c _ (by simp)) (c _ (by simp)) (c _ (by simp)) h2 a, jRR_cg h3 (fun j => C r j (by simp)), ⟨k, k1, by rw [C _ _ (by simp), k2], by rw [a _ _ cn, k3], G, k4, fun i hi => ?_⟩, ⟨d, d1, by rw [C _ _ (by simp), d2], by rw [a _ _ ce, d3], fun i hi => ?_⟩⟩
  · obtain ⟨p1, p2, p3⟩ := k5 i hi
    refine ⟨p1, jRR_cg p2 (fun j => C h _ (by simp)), ?_⟩
    rw [C a1 _ (by simp), C a2 _ (by simp), C a3 _ (by simp), C a4 _ (by simp)]
    exact p3
  · obtain ⟨x, y, p1, p2, p3, p4, p5, p6⟩ := d4 i hi
    exact ⟨x, y, p1, p2, by rw [C _ _ (by simp), p3], by rw [C _ _ (by simp), p4], by rw [C _ _ (by simp), p5], by rw [C _ _ (by simp), p6]⟩
theorem jInv_ag {I I' : iq_I} (h : jInv I) (a : jag I I') : jInv I' := by
  obtain ⟨m, g, h1, h2, h3, h4, h5, ⟨h6, h7⟩, ⟨t, t1, t2, t3, t4⟩, h8, h9, h10, h11⟩ := h
  refine ⟨m, g, h1, jRU_ag h2 a, jRN_ag h3 a, jRB_ag h4 a, jAl_ag h5 a ?_ rfl rfl, ⟨?_, ?_⟩, ⟨t, t1, ?_, ?_, fun i hi => ?_⟩, ?_, ?_, ?_, ?_⟩
  · intro x hx i
    simp at hx
    rcases hx with rfl | rfl | rfl | rfl | rfl | rfl | rfl | rfl | rfl | rfl | rfl | rfl | rfl | rfl <;> rfl
  · rw [a 1 13 rfl, a 76 68 rfl, h6]
  · rw [a 1 13 rfl]
    rcases h7 with h7 | ⟨h7, g', y1, y2, y3⟩
    · exact Or.inl h7
    · refine Or.inr ⟨h7, g', y1, y2, jAl_ag y3 a ?_ rfl rfl⟩
      intro x hx i
      simp at hx
      rcases hx with rfl | rfl | rfl | rfl | rfl | rfl | rfl | rfl | rfl | rfl | rfl | rfl | rfl | rfl <;> rfl
  · rw [a 1 11 rfl, t2]
  · rw [a 76 17 rfl, t3]
  · rw [a 85 _ rfl, a 2 _ rfl]; exact t4 i hi
  · rw [a 76 19 rfl, a 1 12 rfl, h8]
  · rw [a 86 0 rfl, a 3 0 rfl, h9]
  · rw [a 86 1 rfl, a 3 1 rfl, h10]
  · rw [a 86 2 rfl, a 3 2 rfl, h11]
