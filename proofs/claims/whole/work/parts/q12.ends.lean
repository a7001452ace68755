/-! ===== the ends of methods: return, throw, what a table catches ===== -/
def iq_xns : List String := ["java/lang/RuntimeException", "java/lang/Exception"]
/-- the only links of exceptions' constructors -/
theorem iq_m6 {ow ic a b : Nat} (h : (ic, (a, b, 6)) ∈ iq_mds ow) : ow = 9 ∧ (ic = 157 ∨ ic = 86) := by
  unfold iq_mds at h
  split at h
  all_goals (simp only [List.mem_cons, Prod.mk.injEq, List.not_mem_nil, or_false] at h)
  all_goals (first | (exfalso; omega) | (exact ⟨rfl, by omega⟩))
theorem iq_at_mem {tab : iq_T} {pc : Nat} {i : Instr} {len : Nat} : iq_at tab pc = some (i, len) → (pc, i, len) ∈ tab := by
  induction tab with
  | nil => intro h; cases h
  | cons e t ih =>
    intro h
    unfold iq_at at h
    split at h
    · rename_i hb
      have := Nat.eq_of_beq_eq_true hb
      obtain ⟨a, b⟩ := e
      simp only at this h
      subst this
      cases h
      exact List.mem_cons_self
    · exact List.mem_cons_of_mem _ (ih h)
/-- the row of a table that takes a throw, and the rows ahead of it that don't -/
theorem iq_hd_row {ow kd pc : Nat} : ∀ {hh : List (Nat × Nat × Nat × Nat)} {h : Nat}, iq_hd ow kd pc hh = some h → ∃ (pre : List (Nat × Nat × Nat × Nat)) (x : Nat × Nat × Nat × Nat) (suf : List (Nat × Nat × Nat × Nat)), hh = pre ++ x :: suf ∧ x.2.2.1 = h ∧ x.1 ≤ pc ∧ pc < x.2.1 ∧ iq_lk (iq_cls ow) x.2.2.2 = some (50 + kd) ∧
    ∀ z ∈ pre, (¬ z.1 ≤ pc ∨ ¬ pc < z.2.1) ∨ (iq_lk (iq_cls ow) z.2.2.2 = some 50 ∧ kd = 1)
  | [], h, hq => by cases hq
  | (a, b, h', ct) :: t, h, hq => by
    unfold iq_hd at hq
    split at hq
    · rename_i h1 h2
      have h1 := Nat.le_of_ble_eq_true h1
      have h2 := iq_blt h2
      split at hq
      · rename_i k hk
        split at hq
        · rename_i hb
          cases hq
          have := Nat.eq_of_beq_eq_true hb
          subst this
          exact ⟨[], (a, b, _, ct), t, rfl, rfl, h1, h2, hk, fun z hz => by cases hz⟩
        · split at hq
          · obtain ⟨pre, x, suf, e1, e2, e3, e4, e5, e6⟩ := iq_hd_row hq
            refine ⟨(a, b, h', ct) :: pre, x, suf, by rw [e1]; rfl, e2, e3, e4, e5, fun z hz => ?_⟩
            rcases List.mem_cons.mp hz with rfl | hz
            · exact Or.inr ⟨hk, rfl⟩
            · exact e6 z hz
          · cases hq
      · cases hq
    · rename_i hno
      obtain ⟨pre, x, suf, e1, e2, e3, e4, e5, e6⟩ := iq_hd_row hq
      refine ⟨(a, b, h', ct) :: pre, x, suf, by rw [e1]; rfl, e2, e3, e4, e5, fun z hz => ?_⟩
      rcases List.mem_cons.mp hz with rfl | hz
      · left
        by_cases q1 : a ≤ pc
        · by_cases q2 : pc < b
          · exact absurd (Nat.ble_eq_true_of_le q2) (hno (Nat.ble_eq_true_of_le q1))
          · exact Or.inr q2
        · exact Or.inl q1
      · exact e6 z hz
section Ends12
variable {p : Program} {l : Launch} {e : Env} {R : Room} {s : State} {m : MethodId} {args : Array Value} {below : List Frame} {meth : Method} {c : Code} {H : Heap} {locs : List Loc} {cells slots : Nat} {Q : State → Prop} {G : iq_G} {mi c0 s0 pc : Nat} {L : iq_L} {S : List Value} {M : iq_M} {o : iq_S ⊕ (iq_R × iq_M)}
theorem iq_caught (C : iq_Cx G p s m args meth c R mi) (hSt : iq_St G s s.heap) (htab : c.exceptionTable.toList = tableOf (iq_hh mi)) {kd h : Nat} (hkd : kd < 2) (hq : iq_hd (iq_ow mi) kd pc (iq_hh mi) = some h) {q : Addr} {ce : Cell} {ls : Array Slot} {rest : List Value} (hcell : H[q]? = some ce) (hv : ce.vm = .none) (hcl : s.vm.findClass (iq_xn kd) = some ce.cls)
    (hct : ∀ e ∈ iq_cls (iq_ow mi), e.1 ≠ 0) (kk : W p l e R s m args below meth c H locs cells slots Q (F0 m h ls [.ref q])) : vx_W p l e R s m args below meth c H locs cells slots Q (F0 m pc ls rest) q := by
  obtain ⟨pre, x, suf, e1, e2, e3, e4, e5, e6⟩ := iq_hd_row hq
  have hmx := iq_lk_mem e5
  have hlink : (Cond.classLink (iq_nm (iq_ow mi)) x.2.2.2 (iq_xn kd)).before args s = true := by
    have hk2 : kd = 0 ∨ kd = 1 := by omega
    rcases iq_cls_ok _ _ hmx with ⟨h1, h2⟩ | ⟨h1, h2⟩ | ⟨CC, TT, N, h1, -⟩
    · simp only at h1
      have : kd = 0 := by omega
      subst this
      exact C.2.2.2.2.1 _ h2
    · simp only at h1
      have : kd = 1 := by omega
      subst this
      exact C.2.2.2.2.1 _ h2
    · have := (iq_cl_ok h1).1
      simp only at this
      omega
  have hcast : (Cond.castable (iq_xn kd) (iq_xn kd)).before args s = true := by
    have hk2 : kd = 0 ∨ kd = 1 := by omega
    rcases hk2 with rfl | rfl
    · exact va_Nw.use rfl (hSt.2.2.2.2.2.2.2 _ (by simp [iq_V, iq_xn]))
    · exact va_Nw.use rfl (hSt.2.2.2.2.2.2.2 _ (by simp [iq_V, iq_xn]))
  have hx2 : x.2.2.1 = h := e2
  refine iq_catch (name := iq_xn kd) C.2.2.2.1 (tableOf pre) ⟨x.1, x.2.1, x.2.2.1, x.2.2.2⟩ (tableOf suf) (by rw [htab, e1]; simp [tableOf]) (fun z hz => ?_) (by simp [covers]; omega) (hct _ hmx) hlink hcast hcell hv hcl (by rw [← hx2] at kk; exact kk)
  simp only [tableOf, List.mem_map] at hz
  obtain ⟨y, hy, rfl⟩ := hz
  rcases e6 y hy with h1 | ⟨hk, rfl⟩
  · left
    simp only [covers]
    rcases h1 with h1 | h1
    · simp; omega
    · simp; omega
  · right
    have hmy := iq_lk_mem hk
    refine ⟨hct _ hmy, ?_⟩
    rcases iq_cls_ok _ _ hmy with ⟨h1, h2⟩ | ⟨h1, h2⟩ | ⟨CC, TT, N, h1, h2, -⟩
    · exact ⟨_, C.2.2.2.2.1 _ h2, hSt.2.2.2.2.2.2.1⟩
    · simp only at h1
      omega
    · have := (iq_cl_ok h1).1
      simp only at this
      omega
end Ends12
