/-! ===== the law's start: what the Statement gives, as the abstract machine's world ===== -/
def iq_tm (i : Nat) : Term := match iq_srs[i]? with
  | some q => .string (iq_nm q.1) q.2.1
  | none => .int 0
abbrev iq_tv (i : Nat) : Term := .field (iq_tm i) "java/lang/String" "value" "[B"
def iq_strw (i : Nat) : List Cond := [.exactly (iq_tm i) "java/lang/String", .eq (.field (iq_tm i) "java/lang/String" "coder" "B") (.int 0), .arrayOf (iq_tv i) .byte, .eq (.length (iq_tv i)) (.int (Int32.ofNat (iq_lens.getD i 0)))] ++ (List.range (iq_lens.getD i 0)).map fun j => .eq (.elem (iq_tv i) (.int (Int32.ofNat j))) (.int ((iq_txs.getD i []).getD j 0))
theorem iq_nar : (flatC (Jvm.Cond.and given_1 narrow_1)).drop 35 = (List.range 33).flatMap iq_strw := by decide +kernel
theorem iq_nar_at {args : Array Value} {s : State} (h : (Jvm.Cond.and given_1 narrow_1).before args s = true) {i : Nat} (hi : i < 33) : ∀ w ∈ iq_strw i, w.before args s = true := fun w hw =>
  flat_of_before _ h w (List.mem_of_mem_drop (i := 35) (by rw [iq_nar]; exact List.mem_flatMap.mpr ⟨i, List.mem_range.mpr hi, hw⟩))
theorem iq_lens_lt : ∀ i, i < 33 → iq_lens.getD i 0 < 100 := by decide +kernel
theorem iq_lens_eq : ∀ i, i < 33 → iq_lens.getD i 0 = (iq_txs.getD i []).length := by decide +kernel
theorem iq_txs_inj : ∀ i, i < 33 → ∀ j, j < 33 → iq_txs.getD i [] = iq_txs.getD j [] → i = j := by decide +kernel
theorem iq_getDi {l : List Int32} {k : Nat} (h : k < l.length) : l.getD k 0 = l[k] := by simp [List.getD, h]
theorem iq_S1 {args : Array Value} {s : State} {A : Nat → Prop} (h : (Jvm.Cond.and given_1 narrow_1).before args s = true) (hA : ∀ a : Nat, a < s.heap.size → ¬ A a) : ∃ adK adV : Nat → Nat, vk_S 33 iq_lens iq_txs adK adV A s s.heap ∧ ∀ i : Nat, i < 33 → (iq_tm i).eval args s none [] s = some (.ref (adK i)) := by
  have one : ∀ i : Nat, ∃ q : Nat × Nat, i < 33 → (va_O "java/lang/String" q.1 A s s.heap ∧ va_OF "java/lang/String" "coder" "B" (.int 0) q.1 A s s.heap ∧ va_OF "java/lang/String" "value" "[B" (.ref q.2) q.1 A s s.heap ∧ va_T .byte q.2 (iq_lens.getD i 0) (fun j => .int ((iq_txs.getD i []).getD j 0)) A s s.heap) ∧ (iq_tm i).eval args s none [] s = some (.ref q.1) := by
    intro i
    by_cases hi : i < 33
    · have hw := iq_nar_at h hi
      have hl := iq_lens_lt i hi
      obtain ⟨aK, aV, hS, he⟩ := vk_Sof (args := args) (s := s) (N := 1) (tm := fun _ => iq_tm i) (len := [iq_lens.getD i 0]) (byt := [iq_txs.getD i []]) (A := A)
        (fun k hk => by
          have : k = 0 := by omega
          subst this
          show iq_lens.getD i 0 < 2 ^ 31
          omega)
        (fun k _ => hw _ (by simp [iq_strw])) (fun k _ => hw _ (by simp [iq_strw])) (fun k _ => hw _ (by simp [iq_strw]))
        (fun k hk => by
          have : k = 0 := by omega
          subst this
          exact hw _ (by simp [iq_strw]))
        (fun k hk j hj => by
          have : k = 0 := by omega
          subst this
          exact hw _ (List.mem_append_right _ (List.mem_map.mpr ⟨j, List.mem_range.mpr hj, rfl⟩)))
        (fun a b ha hb hab => absurd (show a = b by omega) hab) hA
      have h0 := hS.1 0 (by decide)
      exact ⟨(aK 0, aV 0), fun _ => ⟨h0, he 0 (by decide)⟩⟩
    · exact ⟨(0, 0), fun h => absurd h hi⟩
  obtain ⟨ad, had⟩ := Classical.axiomOfChoice one
  refine ⟨fun i => (ad i).1, fun i => (ad i).2, ⟨fun i hi => (had i hi).1, fun i j hi hj e => ?_⟩, fun i hi => (had i hi).2⟩
  obtain ⟨⟨-, -, v1, t1⟩, -⟩ := had i hi
  obtain ⟨⟨-, -, v2, t2⟩, -⟩ := had j hj
  simp only at e
  obtain ⟨cf, k, n, f, cell, a1, -, a3, -, a5, -⟩ := v1
  obtain ⟨cf', k', n', f', cell', b1, -, b3, -, b5, -⟩ := v2
  rw [e] at a3
  cases Option.some.inj (a1.symm.trans b1)
  cases Option.some.inj (a3.symm.trans b3)
  have hv : (ad i).2 = (ad j).2 := by
    have := Option.some.inj (a5.symm.trans b5)
    injection this
  obtain ⟨c1, p1, -, -, p4, p5, p6, -⟩ := t1
  obtain ⟨c2, q1, -, -, q4, q5, q6, -⟩ := t2
  rw [hv] at p1
  cases Option.some.inj (p1.symm.trans q1)
  have hl1 := iq_lens_lt i hi
  have hl2 := iq_lens_lt j hj
  have hle : iq_lens.getD i 0 = iq_lens.getD j 0 := by
    have e1 : Int32.ofNat (iq_lens.getD i 0) = Int32.ofNat (iq_lens.getD j 0) := p5.symm.trans q5
    have e2 := congrArg Int32.toNatClampNeg e1
    rwa [Int32.toNatClampNeg_ofNat_of_lt (by omega), Int32.toNatClampNeg_ofNat_of_lt (by omega)] at e2
  refine iq_txs_inj i hi j hj (List.ext_getElem (by rw [← iq_lens_eq i hi, ← iq_lens_eq j hj, hle]) fun k h1 h2 => ?_)
  have r1 := p6 k (by rw [iq_lens_eq i hi]; exact h1)
  have r2 := q6 k (by rw [iq_lens_eq j hj]; exact h2)
  have r3 := Option.some.inj (r1.symm.trans r2)
  injection r3 with r3
  have g1 := iq_getDi h1
  have g2 := iq_getDi h2
  rw [← g1, ← g2]
  exact r3
theorem iq_inst : ∀ q ∈ vwCl, Cond.instantiable q.1 q.2.2 ∈ lw_tbl := by decide +kernel
/-- the words that the machine's words are of, all in the tables -/
theorem iq_V_in : ∀ w ∈ iq_V, w ∈ lw_tbl := by decide +kernel
def iq_srw : List Cond := iq_srs.map fun q => Cond.stringRef (iq_nm q.1) q.2.1 q.2.2.1
theorem iq_srw_in : ∀ w ∈ iq_srw, w ∈ lw_tbl := by decide +kernel
theorem iq_srs_at : ∀ q ∈ iq_srs, q.2.2.2 < 33 ∧ iq_tm q.2.2.2 = .string (iq_nm q.1) q.2.1 := by decide +kernel
def iq_stw : List Cond := [.laysStatic "java/lang/String" "COMPACT_STRINGS" "Z", .initialized "java/lang/String", .laysStatic "jdk/internal/util/Preconditions" "SIOOBE_FORMATTER" "Ljava/util/function/BiFunction;", .initialized "jdk/internal/util/Preconditions", .laysStatic Bundle.tN "UNASSIGNED_STACK" Bundle.steD, .laysStatic Bundle.tN "SUPPRESSED_SENTINEL" Bundle.listD, .initialized Bundle.tN]
theorem iq_stw_in : ∀ w ∈ iq_stw, w ∈ lw_tbl := by decide +kernel
def iq_nrw : List Cond := [.eq (.static "java/lang/String" "COMPACT_STRINGS" "Z") (.int 1), .isRef (.static "jdk/internal/util/Preconditions" "SIOOBE_FORMATTER" "Ljava/util/function/BiFunction;"), .isRef (.static Bundle.tN "UNASSIGNED_STACK" Bundle.steD), .isRef (.static Bundle.tN "SUPPRESSED_SENTINEL" Bundle.listD), .not (.castable "java/lang/IllegalArgumentException" "java/util/NoSuchElementException")]
theorem iq_nrw_in : ∀ w ∈ iq_nrw, w ∈ flatC (Jvm.Cond.and given_1 narrow_1) := by decide +kernel
