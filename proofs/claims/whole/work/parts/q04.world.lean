/-! ===== the world of the abstract machine: where each id lies, what its cell holds ===== -/
abbrev iq_G : Type := va_G × (ClassId × ClassId × ClassId) × (Nat × Nat) × (Nat → Nat) × (Nat → Nat) × Value
abbrev iq_bs (G : iq_G) : Nat := G.2.2.1.2
def iq_ad (G : iq_G) (k : Nat) : Nat := if k = 0 then G.2.2.1.1 else if k < 5000 then iq_bs G + (k - 1) else if k < 6000 then G.2.2.2.1 (k - 5000) else G.2.2.2.2.1 (k - 6000)
def iq_cv (G : iq_G) : Value → Value
  | .ref k => if k = 7000 then G.2.2.2.2.2 else .ref (iq_ad G k)
  | v => v
def iq_fv (G : iq_G) (M : iq_M) (k i : Nat) : Nat → Value
  | 0 => .null
  | 1 => .int (M.2.1 k i)
  | 2 => .long (M.2.2.1 k i)
  | r + 3 => iq_cv G (.ref r)
def iq_fs (G : iq_G) (M : iq_M) (k : Nat) : Nat → List Nat → List Value
  | _, [] => []
  | i, d :: ds => iq_fv G M k i d :: iq_fs G M k (i + 1) ds
def iq_en (G : iq_G) (M : iq_M) (k : Nat) (e : Nat × List Nat) : va_E :=
  if e.1 = 100 then .inl (G.2.1.1, e.2.headD 0, .inl (M.2.1 k))
  else if e.1 = 101 then .inl (G.2.1.2.1, e.2.headD 0, .inr (.inl (M.2.2.1 k)))
  else if e.1 = 102 then .inl (G.2.1.2.2, e.2.headD 0, .inl (M.2.1 k))
  else .inr (e.1, iq_fs G M k 0 e.2)
def iq_wl (G : iq_G) (M : iq_M) : va_W := (List.range (M.1.length - 1)).map fun j => (iq_bs G + j, iq_en G M (j + 1) (M.1.getD (j + 1) (0, [])))
theorem iq_wl_len (G : iq_G) (M : iq_M) : (iq_wl G M).length = M.1.length - 1 := by simp [iq_wl]
theorem iq_wl_get {G : iq_G} {M : iq_M} {k : Nat} {e : Nat × List Nat} (h : M.1[k]? = some e) (hk : 0 < k) : (iq_wl G M)[k - 1]? = some (iq_bs G + (k - 1), iq_en G M k e) := by
  have hl : k < M.1.length := (List.getElem?_eq_some_iff.mp h).1
  have e1 : k - 1 + 1 = k := by omega
  have hr : (List.range (M.1.length - 1))[k - 1]? = some (k - 1) := by rw [List.getElem?_range]; omega
  simp only [iq_wl, List.getElem?_map, hr, Option.map_some, e1]
  simp [List.getD, h]
theorem iq_wl_at {G : iq_G} {M : iq_M} {j : Nat} {q : Nat × va_E} (h : (iq_wl G M)[j]? = some q) : j < M.1.length - 1 ∧ q = (iq_bs G + j, iq_en G M (j + 1) (M.1.getD (j + 1) (0, []))) := by
  have hl : j < (iq_wl G M).length := (List.getElem?_eq_some_iff.mp h).1
  rw [iq_wl_len] at hl
  refine ⟨hl, ?_⟩
  have hr : (List.range (M.1.length - 1))[j]? = some j := by rw [List.getElem?_range hl]
  simp only [iq_wl, List.getElem?_map, hr, Option.map_some] at h
  exact (Option.some.inj h).symm
theorem iq_wl_D (G : iq_G) (M : iq_M) : va_D (fun q => iq_bs G ≤ q) (iq_wl G M) := by
  refine ⟨fun i j p q hp hq hpq => ?_, fun k q hq => ?_⟩
  · obtain ⟨-, rfl⟩ := iq_wl_at hp
    obtain ⟨-, rfl⟩ := iq_wl_at hq
    simp only at hpq
    omega
  · obtain ⟨-, rfl⟩ := iq_wl_at hq
    simp
theorem iq_wl_set {G : iq_G} {M M' : iq_M} {k : Nat} {v : va_E} (hl : M'.1.length = M.1.length) (hk : 0 < k) (ho : ∀ j, j ≠ k → iq_en G M' j (M'.1.getD j (0, [])) = iq_en G M j (M.1.getD j (0, [])))
    (he : iq_en G M' k (M'.1.getD k (0, [])) = v) : (iq_wl G M).set (k - 1) (iq_bs G + (k - 1), v) = iq_wl G M' := by
  refine List.ext_getElem? fun j => ?_
  rw [List.getElem?_set]
  by_cases hj : k - 1 = j
  · subst hj
    by_cases hlt : k - 1 < (iq_wl G M).length
    · rw [if_pos rfl, if_pos hlt]
      have hlt' : k < M.1.length := by rw [iq_wl_len] at hlt; omega
      have e1 : k - 1 + 1 = k := by omega
      simp only [iq_wl, List.getElem?_map]
      rw [List.getElem?_range (by omega)]
      simp only [Option.map_some, e1, he]
    · rw [if_pos rfl, if_neg hlt]
      have : (iq_wl G M').length ≤ k - 1 := by rw [iq_wl_len, hl, ← iq_wl_len G M]; omega
      rw [List.getElem?_eq_none this]
  · rw [if_neg hj]
    by_cases hlt : j < M.1.length - 1
    · simp only [iq_wl, List.getElem?_map]
      rw [List.getElem?_range (by omega), List.getElem?_range (by omega)]
      simp only [Option.map_some]
      rw [ho (j + 1) (by omega)]
    · have h1 : (iq_wl G M).length ≤ j := by rw [iq_wl_len]; omega
      have h2 : (iq_wl G M').length ≤ j := by rw [iq_wl_len, hl]; omega
      rw [List.getElem?_eq_none h1, List.getElem?_eq_none h2]
theorem iq_wl_app {G : iq_G} {M M' : iq_M} {e : Nat × List Nat} (hM : M'.1 = M.1 ++ [e]) (h1 : 1 ≤ M.1.length) (ho : ∀ j, j < M.1.length → iq_en G M' j (M'.1.getD j (0, [])) = iq_en G M j (M.1.getD j (0, []))) :
    iq_wl G M' = iq_wl G M ++ [(iq_bs G + (M.1.length - 1), iq_en G M' M.1.length e)] := by
  have hl : M'.1.length - 1 = (M.1.length - 1) + 1 := by rw [hM]; simp; omega
  have hg : M'.1.getD M.1.length (0, []) = e := by rw [hM]; simp
  unfold iq_wl
  rw [hl, List.range_succ, List.map_append]
  congr 1
  · refine List.map_congr_left fun j hj => ?_
    have hj' : j < M.1.length - 1 := List.mem_range.mp hj
    rw [ho (j + 1) (by omega)]
  · have e1 : M.1.length - 1 + 1 = M.1.length := by omega
    simp only [List.map_cons, List.map_nil, e1, hg]
theorem iq_fs_len (G : iq_G) (M : iq_M) (k : Nat) : ∀ (ds : List Nat) (i : Nat), (iq_fs G M k i ds).length = ds.length
  | [], _ => rfl
  | _ :: ds, i => by simp [iq_fs, iq_fs_len G M k ds (i + 1)]
theorem iq_fs_get {G : iq_G} {M : iq_M} {k : Nat} : ∀ {ds : List Nat} {i f d : Nat}, ds[f]? = some d → (iq_fs G M k i ds)[f]? = some (iq_fv G M k (i + f) d)
  | [], _, _, _, h => by simp at h
  | a :: ds, i, 0, d, h => by
    simp at h
    subst h
    simp [iq_fs]
  | a :: ds, i, f + 1, d, h => by
    have := iq_fs_get (G := G) (M := M) (k := k) (ds := ds) (i := i + 1) (f := f) (d := d) (by simpa using h)
    simp only [iq_fs, List.getElem?_cons_succ, this]
    congr 2
    omega
theorem iq_fs_set {G : iq_G} {M M' : iq_M} {k f : Nat} {v : Value} (i0 : Nat) : ∀ {ds ds' : List Nat} {i : Nat}, ds'.length = ds.length → (∀ j d d', i + j ≠ i0 + f → ds[j]? = some d → ds'[j]? = some d' → iq_fv G M' k (i + j) d' = iq_fv G M k (i + j) d) →
    (∀ j d', i + j = i0 + f → ds'[j]? = some d' → iq_fv G M' k (i + j) d' = v) → i0 = i → (iq_fs G M k i ds).set f v = iq_fs G M' k i ds' := by
  intro ds ds' i hl h1 h2 h0
  subst h0
  refine List.ext_getElem? fun j => ?_
  by_cases hj : j < ds.length
  · have hd : ds[j]? = some ds[j] := List.getElem?_eq_getElem hj
    have hd' : ds'[j]? = some (ds'[j]'(by omega)) := List.getElem?_eq_getElem (by omega)
    rw [iq_fs_get hd', List.getElem?_set]
    by_cases hf : f = j
    · subst hf
      rw [if_pos rfl, if_pos (by rw [iq_fs_len]; exact hj), h2 f _ rfl hd']
    · rw [if_neg hf, iq_fs_get hd, h1 j _ _ (by omega) hd hd']
  · have a1 : ((iq_fs G M k i0 ds).set f v).length ≤ j := by rw [List.length_set, iq_fs_len]; omega
    have a2 : (iq_fs G M' k i0 ds').length ≤ j := by rw [iq_fs_len, hl]; omega
    rw [List.getElem?_eq_none a1, List.getElem?_eq_none a2]
