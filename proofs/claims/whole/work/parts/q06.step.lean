/-! ===== the steps of the abstract machine are steps of the machine: locals, stack, numbers, branches ===== -/
abbrev iq_A (G : iq_G) : Nat → Prop := fun q => iq_bs G ≤ q
def iq_tys (G : iq_G) : List (ClassId × FieldType) := [(G.2.1.1, .int), (G.2.1.2.1, .long), (G.2.1.2.2, .boolean)]
/-- the heap holds the world of M; nothing below the base was written since s; as long as no garbage was made the heap ends where the last cell does -/
def iq_Rel (G : iq_G) (s : State) (c0 s0 : Nat) (M : iq_M) (H : Heap) (locs : List Loc) : Prop :=
  va_P G.1 vwCl (iq_wl G M) H ∧ (∃ n, M.1[0]? = some (103, [n])) ∧ M.1.length ≤ 5000 ∧ (c0 ≤ M.2.2.2.1 ∧ s0 ≤ M.2.2.2.2.1) ∧ (M.2.2.2.2.2 = false → s.heap.size + (M.2.2.2.1 - c0) = iq_bs G + (M.1.length - 1)) ∧ va_S (iq_A G) s.heap H locs
def iq_ps (G : iq_G) : Nat → iq_L → List (Nat × Value)
  | _, [] => []
  | i, none :: t => iq_ps G (i + 1) t
  | i, some v :: t => (i, iq_cv G v) :: iq_ps G (i + 1) t
theorem iq_ps_mem {G : iq_G} : ∀ {L : iq_L} {i : Nat} {q : Nat × Value}, q ∈ iq_ps G i L ↔ ∃ j v, L[j]? = some (some v) ∧ q = (i + j, iq_cv G v)
  | [], i, q => by simp [iq_ps]
  | none :: t, i, q => by
    rw [iq_ps, iq_ps_mem]
    constructor
    · rintro ⟨j, v, h, rfl⟩
      exact ⟨j + 1, v, by simpa using h, by congr 1; omega⟩
    · rintro ⟨j, v, h, rfl⟩
      cases j with
      | zero => simp at h
      | succ j => exact ⟨j, v, by simpa using h, by congr 1; omega⟩
  | some w :: t, i, q => by
    rw [iq_ps, List.mem_cons, iq_ps_mem]
    constructor
    · rintro (rfl | ⟨j, v, h, rfl⟩)
      · exact ⟨0, w, by simp, rfl⟩
      · exact ⟨j + 1, v, by simpa using h, by congr 1; omega⟩
    · rintro ⟨j, v, h, rfl⟩
      cases j with
      | zero =>
        simp at h
        subst h
        exact Or.inl rfl
      | succ j => exact Or.inr ⟨j, v, by simpa using h, by congr 1; omega⟩
def iq_LR (G : iq_G) (ls : Array Slot) (nL : Nat) (L : iq_L) : Prop := L.length = nL ∧ lv_has ls nL (iq_ps G 0 L)
theorem iq_LR_get {G : iq_G} {ls : Array Slot} {nL : Nat} {L : iq_L} (h : iq_LR G ls nL L) {i : Nat} {v : Value} (hv : iq_get L i = some v) : ls[i]? = some (.val (iq_cv G v)) := by
  have h1 : L[i]? = some (some v) := by
    unfold iq_get at hv
    split at hv
    · rename_i w hw; rw [hw]; cases hv; rfl
    · cases hv
  have := h.2.2.2 (0 + i, iq_cv G v) (iq_ps_mem.mpr ⟨i, v, h1, rfl⟩)
  simpa using this
theorem iq_cat (G : iq_G) : ∀ v : Value, (∀ k, v ≠ .ref k) → (iq_cv G v).category = v.category
  | .int _, _ => rfl
  | .long _, _ => rfl
  | .float _, _ => rfl
  | .double _, _ => rfl
  | .null, _ => rfl
  | .ref k, h => absurd rfl (h k)
  | .retAddr _, _ => rfl
theorem iq_cv_long {G : iq_G} (hG : G.2.2.2.2.2.category = 1) : ∀ {v : Value}, (iq_cv G v).category = 2 → v.category = 2
  | .int _, h => h
  | .long _, h => h
  | .float _, h => h
  | .double _, h => h
  | .null, h => h
  | .retAddr _, h => h
  | .ref k, h => by
    by_cases hk : k = 7000
    · rw [show iq_cv G (.ref k) = G.2.2.2.2.2 by simp [iq_cv, hk], hG] at h
      cases h
    · rw [show iq_cv G (.ref k) = .ref (iq_ad G k) by simp [iq_cv, hk]] at h
      cases h
theorem iq_blt {a b : Nat} (h : Nat.blt a b = true) : a < b := Nat.le_of_ble_eq_true h
theorem iq_LR_sub {G : iq_G} {ls : Array Slot} {nL : Nat} {L : iq_L} {l : List (Nat × Value)} (hl : L.length = nL) (h : lv_has ls nL l) (hs : ∀ j v, L[j]? = some (some v) → (j, iq_cv G v) ∈ l) : iq_LR G ls nL L := by
  refine ⟨hl, h.1, h.2.1, fun q hq => ?_⟩
  obtain ⟨j, v, hj, rfl⟩ := iq_ps_mem.mp hq
  have := h.2.2 _ (hs j v hj)
  simpa using this
theorem iq_st1_len (L : iq_L) (i : Nat) (v : Value) : (iq_st1 L i v).length = L.length := by
  unfold iq_st1
  split
  · simp
  · split <;> simp
theorem iq_st1_get {L : iq_L} {i j : Nat} {v w : Value} (hi : i < L.length) (h : (iq_st1 L i v)[j]? = some (some w)) : (j = i ∧ w = v) ∨ (j ≠ i ∧ L[j]? = some (some w) ∧ (j + 1 = i → w.category ≠ 2)) := by
  by_cases hji : j = i
  · subst hji
    left
    refine ⟨rfl, ?_⟩
    have : (iq_st1 L j v)[j]? = some (some v) := by
      unfold iq_st1
      split
      · simp [hi]
      · split <;> simp [hi]
    rw [this] at h
    cases h
    rfl
  · right
    refine ⟨hji, ?_⟩
    cases i with
    | zero =>
      have h2 : (L.set 0 (some v))[j]? = some (some w) := h
      rw [List.getElem?_set_ne (by omega)] at h2
      exact ⟨h2, fun q => by omega⟩
    | succ i0 =>
      have key : ∀ X : iq_L, X = L.set i0 none ∨ (X = L ∧ ∀ u, L[i0]? = some (some u) → u.category ≠ 2) → (X.set (i0 + 1) (some v))[j]? = some (some w) → L[j]? = some (some w) ∧ (j + 1 = i0 + 1 → w.category ≠ 2) := by
        intro X hX h2
        rw [List.getElem?_set_ne (by omega)] at h2
        rcases hX with rfl | ⟨rfl, hX⟩
        · by_cases hj : j = i0
          · subst hj
            rw [List.getElem?_set_self (by omega)] at h2
            cases h2
          · rw [List.getElem?_set_ne (by omega)] at h2
            exact ⟨h2, fun q => by omega⟩
        · refine ⟨h2, fun q => ?_⟩
          have : j = i0 := by omega
          subst this
          exact hX w h2
      simp only [iq_st1] at h
      split at h
      · exact key _ (Or.inl rfl) h
      · exact key _ (Or.inl rfl) h
      · rename_i h1 h2
        refine key L (Or.inr ⟨rfl, fun u hu hc => ?_⟩) h
        cases u <;> simp [Value.category] at hc
        · exact h1 _ hu
        · exact h2 _ hu
/-- what a store of one word leaves, as the rows of the kit have it -/
theorem iq_LR_st1 {G : iq_G} {ls ls' : Array Slot} {nL : Nat} {L : iq_L} {i : Nat} {v : Value} (h : iq_LR G ls nL L) (hi : i < nL)
    (h' : lv_has ls' nL ((i, iq_cv G v) :: (iq_ps G 0 L).filter (fun q => !(q.1 == i) && !(q.1 + 1 == i && q.2.category == 2)))) (hG : G.2.2.2.2.2.category = 1) : iq_LR G ls' nL (iq_st1 L i v) := by
  refine iq_LR_sub (by rw [iq_st1_len]; exact h.1) h' fun j w hj => ?_
  rcases iq_st1_get (by rw [h.1]; exact hi) hj with ⟨rfl, rfl⟩ | ⟨hji, hL, hc⟩
  · exact List.mem_cons_self
  · refine List.mem_cons_of_mem _ (List.mem_filter.mpr ⟨iq_ps_mem.mpr ⟨j, w, hL, by simp⟩, ?_⟩)
    simp only [Bool.and_eq_true, Bool.not_eq_true', beq_eq_false_iff_ne, ne_eq, Bool.and_eq_false_iff]
    refine ⟨hji, ?_⟩
    by_cases hj1 : j + 1 = i
    · exact Or.inr fun h2 => hc hj1 (iq_cv_long hG h2)
    · exact Or.inl hj1
theorem iq_LR_st2 {G : iq_G} {ls ls' : Array Slot} {nL : Nat} {L : iq_L} {i : Nat} {v : Value} (h : iq_LR G ls nL L) (hi : i + 1 < nL)
    (h' : lv_has ls' nL ((i, iq_cv G v) :: (iq_ps G 0 L).filter (fun q => !(q.1 == i) && (!(q.1 == i + 1) && !(q.1 + 1 == i && q.2.category == 2))))) (hG : G.2.2.2.2.2.category = 1) : iq_LR G ls' nL (iq_st2 L i v) := by
  have hlen : (iq_st2 L i v).length = L.length := by simp [iq_st2, iq_st1_len]
  refine iq_LR_sub (by rw [hlen]; exact h.1) h' fun j w hj => ?_
  unfold iq_st2 at hj
  by_cases h1 : j = i + 1
  · subst h1
    rw [List.getElem?_set_self (by rw [iq_st1_len, h.1]; exact hi)] at hj
    cases hj
  · rw [List.getElem?_set_ne (by omega)] at hj
    rcases iq_st1_get (by rw [h.1]; omega) hj with ⟨rfl, rfl⟩ | ⟨hji, hL, hc⟩
    · exact List.mem_cons_self
    · refine List.mem_cons_of_mem _ (List.mem_filter.mpr ⟨iq_ps_mem.mpr ⟨j, w, hL, by simp⟩, ?_⟩)
      simp only [Bool.and_eq_true, Bool.not_eq_true', beq_eq_false_iff_ne, ne_eq, Bool.and_eq_false_iff]
      refine ⟨hji, h1, ?_⟩
      by_cases hj1 : j + 1 = i
      · exact Or.inr fun h2 => hc hj1 (iq_cv_long hG h2)
      · exact Or.inl hj1
def iq_W (p : Program) (l : Launch) (e : Env) (R : Room) (s : State) (m : MethodId) (args : Array Value) (below : List Frame) (meth : Method) (c : Code) (Q : State → Prop) (G : iq_G) (nL c0 s0 : Nat) (σ : iq_S) : Prop :=
  ∀ (H : Heap) (locs : List Loc) (ls : Array Slot), iq_Rel G s c0 s0 σ.2.2.2 H locs → iq_LR G ls nL σ.2.1 → W p l e R s m args below meth c H locs (σ.2.2.2.2.2.2.1 - c0) (σ.2.2.2.2.2.2.2.1 - s0) Q (F0 m σ.1 ls (σ.2.2.1.map (iq_cv G)))
/-- the classes of the arrays -/
def iq_Fc (G : iq_G) (U : State) : Prop := ∀ q ∈ iq_tys G, U.vm.findClass ("[" ++ q.2.toString) = some q.1
/-- what stays through a method's walk -/
def iq_Cx (G : iq_G) (p : Program) (s : State) (m : MethodId) (args : Array Value) (meth : Method) (c : Code) (R : Room) (mi : Nat) : Prop :=
  p.tables.exec = Jvm.exec ∧ c.code = iq_cc mi ∧ c.maxLocals = iq_ml mi ∧ s.vm.findClass (iq_nm (iq_ow mi)) = some m.cls ∧ (∀ w ∈ iq_U, w.before args s = true) ∧ meth.locks = false ∧ meth.sig.returnType = iq_rty mi ∧ (iq_ini mi = true → meth.name = "<init>") ∧
  va_K G.1 vwCl (iq_tys G) s ∧ G.2.2.2.2.2.category = 1 ∧ (20 ≤ R.frames ∧ iq_Fc G s) ∧ 300 ≤ R.locals ∧ iq_bs G ≤ s.heap.size
section Steps
variable {p : Program} {l : Launch} {e : Env} {R : Room} {s : State} {m : MethodId} {args : Array Value} {below : List Frame} {meth : Method} {c : Code} {Q : State → Prop} {G : iq_G} {mi c0 s0 pc : Nat} {L : iq_L} {S : List Value} {M : iq_M} {o : iq_S ⊕ (iq_R × iq_M)}
theorem iq_x_iconst (C : iq_Cx G p s m args meth c R mi) {n : Int} (hd : decode (iq_cc mi) pc = .ok (.iconst n, 1)) (k : iq_W p l e R s m args below meth c Q G (iq_ml mi) c0 s0 (pc + 1, L, .int (Int32.ofInt n) :: S, M)) : iq_W p l e R s m args below meth c Q G (iq_ml mi) c0 s0 (pc, L, S, M) :=
  fun H locs ls hR hL => lv_iconst C.1 C.2.1 hd rfl (k H locs ls hR hL)
theorem iq_x_bipush (C : iq_Cx G p s m args meth c R mi) {n : Int} (hd : decode (iq_cc mi) pc = .ok (.bipush n, 2)) (k : iq_W p l e R s m args below meth c Q G (iq_ml mi) c0 s0 (pc + 2, L, .int (Int8.ofInt n).toInt32 :: S, M)) : iq_W p l e R s m args below meth c Q G (iq_ml mi) c0 s0 (pc, L, S, M) :=
  fun H locs ls hR hL => lv_bipush C.1 C.2.1 hd rfl (k H locs ls hR hL)
theorem iq_x_sipush (C : iq_Cx G p s m args meth c R mi) {n : Int} (hd : decode (iq_cc mi) pc = .ok (.sipush n, 3)) (k : iq_W p l e R s m args below meth c Q G (iq_ml mi) c0 s0 (pc + 3, L, .int (Int16.ofInt n).toInt32 :: S, M)) : iq_W p l e R s m args below meth c Q G (iq_ml mi) c0 s0 (pc, L, S, M) :=
  fun H locs ls hR hL => lv_sipush C.1 C.2.1 hd rfl (k H locs ls hR hL)
theorem iq_x_lconst (C : iq_Cx G p s m args meth c R mi) {n : Fin 2} (hd : decode (iq_cc mi) pc = .ok (.lconst n, 1)) (k : iq_W p l e R s m args below meth c Q G (iq_ml mi) c0 s0 (pc + 1, L, .long (Int64.ofNat n.val) :: S, M)) : iq_W p l e R s m args below meth c Q G (iq_ml mi) c0 s0 (pc, L, S, M) :=
  fun H locs ls hR hL => lv_lconst C.1 C.2.1 hd rfl (k H locs ls hR hL)
theorem iq_pu_inl {o : iq_S ⊕ (iq_R × iq_M)} {pc : Nat} {L : iq_L} {S : List Value} {M : iq_M} (h : iq_pu pc L S M = some o) : o = .inl (pc, L, S, M) := (Option.some.inj h).symm
theorem iq_x_load (C : iq_Cx G p s m args meth c R mi) {w i pc' : Nat} (ho : iq_ld w i pc' L S M = some o) (hc : ∀ σ, o = .inl σ → iq_W p l e R s m args below meth c Q G (iq_ml mi) c0 s0 σ)
    (ri : ∀ x, w = 0 → ∀ H locs ls, ls[i]? = some (.val (.int x)) → W p l e R s m args below meth c H locs (M.2.2.2.1 - c0) (M.2.2.2.2.1 - s0) Q (F0 m pc' ls (.int x :: S.map (iq_cv G))) → W p l e R s m args below meth c H locs (M.2.2.2.1 - c0) (M.2.2.2.2.1 - s0) Q (F0 m pc ls (S.map (iq_cv G))))
    (rl : ∀ x, w = 1 → ∀ H locs ls, ls[i]? = some (.val (.long x)) → W p l e R s m args below meth c H locs (M.2.2.2.1 - c0) (M.2.2.2.2.1 - s0) Q (F0 m pc' ls (.long x :: S.map (iq_cv G))) → W p l e R s m args below meth c H locs (M.2.2.2.1 - c0) (M.2.2.2.2.1 - s0) Q (F0 m pc ls (S.map (iq_cv G))))
    (ra : ∀ x, w = 2 → ∀ H locs ls, ls[i]? = some (.val (.ref x)) → W p l e R s m args below meth c H locs (M.2.2.2.1 - c0) (M.2.2.2.2.1 - s0) Q (F0 m pc' ls (.ref x :: S.map (iq_cv G))) → W p l e R s m args below meth c H locs (M.2.2.2.1 - c0) (M.2.2.2.2.1 - s0) Q (F0 m pc ls (S.map (iq_cv G)))) :
    iq_W p l e R s m args below meth c Q G (iq_ml mi) c0 s0 (pc, L, S, M) := by
  intro H locs ls hR hL
  unfold iq_ld at ho
  split at ho
  · rename_i x hx
    split at ho
    · cases ho
      exact ri x rfl H locs ls (iq_LR_get hL hx) (hc _ rfl H locs ls hR hL)
    · cases ho
  · rename_i x hx
    split at ho
    · cases ho
      exact rl x rfl H locs ls (iq_LR_get hL hx) (hc _ rfl H locs ls hR hL)
    · cases ho
  · rename_i x hx
    split at ho
    · rename_i h7
      cases ho
      have hne : x ≠ 7000 := Nat.ne_of_beq_eq_false h7
      have e1 : iq_cv G (.ref x) = .ref (iq_ad G x) := by simp [iq_cv, hne]
      have h1 := iq_LR_get hL hx
      rw [e1] at h1
      have h2 := hc _ rfl H locs ls hR hL
      simp only [List.map_cons, e1] at h2
      exact ra _ rfl H locs ls h1 h2
    · cases ho
  · cases ho
theorem iq_x_store (C : iq_Cx G p s m args meth c R mi) {w i pc' : Nat} (ho : iq_st w i pc' L S M = some o) (hc : ∀ σ, o = .inl σ → iq_W p l e R s m args below meth c Q G (iq_ml mi) c0 s0 σ)
    (ri : ∀ x rest, w = 0 → i < iq_ml mi → ∀ H locs ls lv, lv_has ls (iq_ml mi) lv → (∀ ls', lv_has ls' (iq_ml mi) ((i, Value.int x) :: lv.filter (fun q => !(q.1 == i) && !(q.1 + 1 == i && q.2.category == 2))) → W p l e R s m args below meth c H locs (M.2.2.2.1 - c0) (M.2.2.2.2.1 - s0) Q (F0 m pc' ls' rest)) → W p l e R s m args below meth c H locs (M.2.2.2.1 - c0) (M.2.2.2.2.1 - s0) Q (F0 m pc ls (.int x :: rest)))
    (rl : ∀ x rest, w = 1 → i + 1 < iq_ml mi → ∀ H locs ls lv, lv_has ls (iq_ml mi) lv → (∀ ls', lv_has ls' (iq_ml mi) ((i, Value.long x) :: lv.filter (fun q => !(q.1 == i) && (!(q.1 == i + 1) && !(q.1 + 1 == i && q.2.category == 2)))) → W p l e R s m args below meth c H locs (M.2.2.2.1 - c0) (M.2.2.2.2.1 - s0) Q (F0 m pc' ls' rest)) → W p l e R s m args below meth c H locs (M.2.2.2.1 - c0) (M.2.2.2.2.1 - s0) Q (F0 m pc ls (.long x :: rest)))
    (ra : ∀ x rest, w = 2 → i < iq_ml mi → ∀ H locs ls lv, lv_has ls (iq_ml mi) lv → (∀ ls', lv_has ls' (iq_ml mi) ((i, Value.ref x) :: lv.filter (fun q => !(q.1 == i) && !(q.1 + 1 == i && q.2.category == 2))) → W p l e R s m args below meth c H locs (M.2.2.2.1 - c0) (M.2.2.2.2.1 - s0) Q (F0 m pc' ls' rest)) → W p l e R s m args below meth c H locs (M.2.2.2.1 - c0) (M.2.2.2.2.1 - s0) Q (F0 m pc ls (.ref x :: rest))) :
    iq_W p l e R s m args below meth c Q G (iq_ml mi) c0 s0 (pc, L, S, M) := by
  intro H locs ls hR hL
  have hG := C.2.2.2.2.2.2.2.2.2.1
  unfold iq_st at ho
  split at ho
  · rename_i x S'
    split at ho
    · split at ho
      · rename_i hb
        have hi : i < iq_ml mi := by rw [← hL.1]; exact iq_blt hb
        cases ho
        exact ri x _ rfl hi H locs ls _ hL.2 fun ls' h' => hc _ rfl H locs ls' hR (iq_LR_st1 (v := .int x) hL hi h' hG)
      · cases ho
    · cases ho
  · rename_i x S'
    split at ho
    · split at ho
      · rename_i hb
        have hi : i + 1 < iq_ml mi := by rw [← hL.1]; exact iq_blt hb
        cases ho
        exact rl x _ rfl hi H locs ls _ hL.2 fun ls' h' => hc _ rfl H locs ls' hR (iq_LR_st2 (v := .long x) hL hi h' hG)
      · cases ho
    · cases ho
  · rename_i x S'
    split at ho
    · rename_i h7
      split at ho
      · rename_i hb
        have hi : i < iq_ml mi := by rw [← hL.1]; exact iq_blt hb
        cases ho
        have hne : x ≠ 7000 := Nat.ne_of_beq_eq_false h7
        have e1 : iq_cv G (.ref x) = .ref (iq_ad G x) := by simp [iq_cv, hne]
        simp only [List.map_cons, e1]
        exact ra _ _ rfl hi H locs ls _ hL.2 fun ls' h' => hc _ rfl H locs ls' hR (iq_LR_st1 (v := .ref x) hL hi (by rw [e1]; exact h') hG)
      · cases ho
    · cases ho
  · cases ho
theorem iq_x_b2 {f : Int32 → Int32 → Int32} {pc' : Nat} (ho : iq_b2 f pc' L S M = some o) (hc : ∀ σ, o = .inl σ → iq_W p l e R s m args below meth c Q G (iq_ml mi) c0 s0 σ)
    (r : ∀ x y rest H locs ls, W p l e R s m args below meth c H locs (M.2.2.2.1 - c0) (M.2.2.2.2.1 - s0) Q (F0 m pc' ls (.int (f x y) :: rest)) → W p l e R s m args below meth c H locs (M.2.2.2.1 - c0) (M.2.2.2.2.1 - s0) Q (F0 m pc ls (.int y :: .int x :: rest))) :
    iq_W p l e R s m args below meth c Q G (iq_ml mi) c0 s0 (pc, L, S, M) := by
  intro H locs ls hR hL
  unfold iq_b2 at ho
  split at ho
  · cases ho
    exact r _ _ _ H locs ls (hc _ rfl H locs ls hR hL)
  · cases ho
theorem iq_x_l2 {f : Int64 → Int64 → Int64} {pc' : Nat} (ho : iq_l2 f pc' L S M = some o) (hc : ∀ σ, o = .inl σ → iq_W p l e R s m args below meth c Q G (iq_ml mi) c0 s0 σ)
    (r : ∀ x y rest H locs ls, W p l e R s m args below meth c H locs (M.2.2.2.1 - c0) (M.2.2.2.2.1 - s0) Q (F0 m pc' ls (.long (f x y) :: rest)) → W p l e R s m args below meth c H locs (M.2.2.2.1 - c0) (M.2.2.2.2.1 - s0) Q (F0 m pc ls (.long y :: .long x :: rest))) :
    iq_W p l e R s m args below meth c Q G (iq_ml mi) c0 s0 (pc, L, S, M) := by
  intro H locs ls hR hL
  unfold iq_l2 at ho
  split at ho
  · cases ho
    exact r _ _ _ H locs ls (hc _ rfl H locs ls hR hL)
  · cases ho
theorem iq_tg_eq {pc : Nat} {off : Int} {t : Nat} (h : iq_tg pc off = some t) : (pc : Int) + off = (t : Int) := by
  unfold iq_tg at h
  split at h
  · rename_i t' ht
    cases h
    exact ht
  · cases h
theorem iq_x_br {cnd : Prop} [Decidable cnd] {t : Option Nat} {f : Nat} {S' : List Value} (ho : iq_br cnd t f L S' M = some o) (hc : ∀ σ, o = .inl σ → iq_W p l e R s m args below meth c Q G (iq_ml mi) c0 s0 σ)
    (r : ∀ t', t = some t' → ∀ H locs ls, (cnd → W p l e R s m args below meth c H locs (M.2.2.2.1 - c0) (M.2.2.2.2.1 - s0) Q (F0 m t' ls (S'.map (iq_cv G)))) → (¬ cnd → W p l e R s m args below meth c H locs (M.2.2.2.1 - c0) (M.2.2.2.2.1 - s0) Q (F0 m f ls (S'.map (iq_cv G)))) → W p l e R s m args below meth c H locs (M.2.2.2.1 - c0) (M.2.2.2.2.1 - s0) Q (F0 m pc ls (S.map (iq_cv G)))) :
    iq_W p l e R s m args below meth c Q G (iq_ml mi) c0 s0 (pc, L, S, M) := by
  intro H locs ls hR hL
  unfold iq_br at ho
  split at ho
  · cases ho
  · rename_i t'
    refine r t' rfl H locs ls (fun h => ?_) (fun h => ?_)
    · rw [if_pos h] at ho
      cases ho
      exact hc _ rfl H locs ls hR hL
    · rw [if_neg h] at ho
      cases ho
      exact hc _ rfl H locs ls hR hL
theorem iq_sw_to {x : Int32} {pc : Nat} {dflt : Int} {L : iq_L} {S : List Value} {M : iq_M} : ∀ {os : List Int} {lo : Int} {o : iq_S ⊕ (iq_R × iq_M)}, iq_sw x pc dflt L S M lo os = some o →
    ∃ t, o = .inl (t, L, S, M) ∧ ((∃ (i : Nat) (off : Int), x = Int32.ofInt (lo + i) ∧ os[i]? = some off ∧ (pc : Int) + off = (t : Int)) ∨ ((∀ i : Nat, i < os.length → x ≠ Int32.ofInt (lo + i)) ∧ (pc : Int) + dflt = (t : Int)))
  | [], lo, o, h => by
    unfold iq_sw at h
    split at h
    · rename_i t ht
      cases h
      exact ⟨t, rfl, Or.inr ⟨fun i hi => by simp at hi, iq_tg_eq ht⟩⟩
    · cases h
  | a :: os, lo, o, h => by
    unfold iq_sw at h
    split at h
    · rename_i hx
      split at h
      · rename_i t ht
        cases h
        exact ⟨t, rfl, Or.inl ⟨0, a, by simpa using hx, rfl, iq_tg_eq ht⟩⟩
      · cases h
    · rename_i hx
      obtain ⟨t, rfl, h1⟩ := iq_sw_to h
      refine ⟨t, rfl, ?_⟩
      rcases h1 with ⟨i, off, h1, h2, h3⟩ | ⟨h1, h2⟩
      · exact Or.inl ⟨i + 1, off, by rw [h1]; congr 1; push_cast; omega, by simpa using h2, h3⟩
      · refine Or.inr ⟨fun i hi => ?_, h2⟩
        cases i with
        | zero => simpa using hx
        | succ i =>
          have := h1 i (by simpa using hi)
          rw [show lo + ((i + 1 : Nat) : Int) = lo + 1 + (i : Int) by push_cast; omega]
          exact this
theorem iq_x_switch (C : iq_Cx G p s m args meth c R mi) {d lo hi : Int} {offs : Array Int} {len : Nat} {x : Int32} {S' : List Value} (hd : decode (iq_cc mi) pc = .ok (.tableswitch d lo hi offs, len)) (h1 : lo ≤ hi + 1) (h2 : (hi - lo + 1).toNat = offs.toList.length) (h3 : -1000000 ≤ lo) (h4 : hi ≤ 1000000)
    (ho : iq_sw x pc d L S' M lo offs.toList = some o) (hc : ∀ σ, o = .inl σ → iq_W p l e R s m args below meth c Q G (iq_ml mi) c0 s0 σ) : iq_W p l e R s m args below meth c Q G (iq_ml mi) c0 s0 (pc, L, .int x :: S', M) := by
  intro H locs ls hR hL
  obtain ⟨t, rfl, hq⟩ := iq_sw_to ho
  have K := hc _ rfl H locs ls hR hL
  rcases hq with ⟨i, off, q1, q2, q3⟩ | ⟨q1, q2⟩
  · have hi' : i < offs.toList.length := (List.getElem?_eq_some_iff.mp q2).1
    have e1 : x.toInt = lo + i := by rw [q1, Int32.toInt_ofInt]; exact Int.bmod_eq_of_le (by simp only [Int32.size]; omega) (by simp only [Int32.size]; omega)
    refine lv_tableIn C.1 C.2.1 hd (by omega) (by omega) (off := off) ?_ q3 K
    rw [show (x.toInt - lo).toNat = i by omega, ← Array.getElem?_toList]
    exact q2
  · refine lv_tableOut C.1 C.2.1 hd ?_ q2 K
    by_cases hl : x.toInt < lo
    · exact Or.inl hl
    · by_cases hh : hi < x.toInt
      · exact Or.inr hh
      · exfalso
        refine q1 (x.toInt - lo).toNat (by omega) ?_
        rw [show lo + (((x.toInt - lo).toNat : Nat) : Int) = x.toInt by omega, Int32.ofInt_toInt]
end Steps
