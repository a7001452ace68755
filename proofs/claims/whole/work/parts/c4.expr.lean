/-! ===== expressions: what both sides do to their rows ===== -/
/-- the reference's act for a step of the class; 0 stands for an open bracket -/
def wact (x : Int32) : Int32 := if x = 0 then 14 else if x = -8 then 3 else if x = -9 then 5 else if x = -10 then 4 else if x = -11 then 6 else if x = -12 then 7 else if x = -13 then 8 else if x = -14 then 9 else if x = -15 then 10 else 11
def wst (x : Int32) : Nat := if x = -9 then 1 else if x = -10 then 2 else if x = -8 then 3 else if x = -11 then 4 else if x = -12 then 4 else if x = -13 then 5 else if x = -14 then 5 else 6
def wop (x : Int32) : Prop := x ∈ [(-8 : Int32), -9, -10, -11, -12, -13, -14, -15, -16]
theorem wop_c {x : Int32} (h : wop x) {P : Int32 → Prop} (h1 : P (-8)) (h2 : P (-9)) (h3 : P (-10)) (h4 : P (-11)) (h5 : P (-12)) (h6 : P (-13)) (h7 : P (-14)) (h8 : P (-15)) (h9 : P (-16)) : P x := by
  unfold wop at h
  simp only [List.mem_cons, List.not_mem_nil, or_false] at h
  rcases h with rfl | rfl | rfl | rfl | rfl | rfl | rfl | rfl | rfl <;> assumption
theorem wop_e {x : Int32} (h : wop x) : jenc x = [wact x] := wop_c (P := fun x => jenc x = [wact x]) h (by decide) (by decide) (by decide) (by decide) (by decide) (by decide) (by decide) (by decide) (by decide)
theorem wop_s {x : Int32} (h : wop x) {I : iq_I} : zM_strength (wact x) I = some (jn (wst x)) := wop_c (P := fun x => zM_strength (wact x) I = some (jn (wst x))) h rfl rfl rfl rfl rfl rfl rfl rfl rfl
theorem wop_o {x : Int32} (h : wop x) {I : iq_I} : zM_isOpen (wact x) I = some 0 := wop_c (P := fun x => zM_isOpen (wact x) I = some 0) h rfl rfl rfl rfl rfl rfl rfl rfl rfl
theorem wop_st {x : Int32} (h : wop x) : 1 ≤ wst x ∧ wst x ≤ 6 := wop_c (P := fun x => 1 ≤ wst x ∧ wst x ≤ 6) h (by decide) (by decide) (by decide) (by decide) (by decide) (by decide) (by decide) (by decide) (by decide)
theorem wop_n0 {x : Int32} (h : wop x) : ¬ x = 0 := wop_c (P := fun x => ¬ x = 0) h (by decide) (by decide) (by decide) (by decide) (by decide) (by decide) (by decide) (by decide) (by decide)
theorem wop_16 {x : Int32} (h : wop x) : -16 ≤ x := wop_c (P := fun x => -16 ≤ x) h (by decide) (by decide) (by decide) (by decide) (by decide) (by decide) (by decide) (by decide) (by decide)
theorem wopen_o {I : iq_I} : zM_isOpen (wact 0) I = some 1 := rfl
/-- what waits: acts and open brackets -/
def wokL (W : List Int32) : Prop := ∀ x ∈ W, x = 0 ∨ wop x
/-- steps as the reference writes them, without the end -/
def jes : List Int32 → List Int32
  | [] => []
  | x :: t => jenc x ++ jes t
theorem jes_app : ∀ a b : List Int32, jes (a ++ b) = jes a ++ jes b
  | [], b => rfl
  | x :: t, b => by
    show jenc x ++ jes (t ++ b) = (jenc x ++ jes t) ++ jes b
    rw [jes_app t b, List.append_assoc]
theorem jencs_jes : ∀ c : List Int32, jencs c = jes c ++ [0]
  | [] => rfl
  | x :: t => by
    show jenc x ++ jencs t = (jenc x ++ jes t) ++ [0]
    rw [jencs_jes t, List.append_assoc]
theorem jes_op : ∀ P : List Int32, (∀ x ∈ P, wop x) → (jes P).length = P.length
  | [], _ => rfl
  | x :: t, h => by
    show (jenc x ++ jes t).length = _
    rw [List.length_append, wop_e (h x (by simp)), jes_op t (fun y hy => h y (by simp [hy]))]
    simp [Nat.add_comm]
theorem jgd_l {a b : List Int32} {i : Nat} (h : i < a.length) : (a ++ b).getD i 0 = a.getD i 0 := by
  rw [List.getD_eq_getElem?_getD, List.getD_eq_getElem?_getD, List.getElem?_append_left h]
theorem jgd_r {a b : List Int32} {i : Nat} (h : a.length ≤ i) : (a ++ b).getD i 0 = b.getD (i - a.length) 0 := by
  rw [List.getD_eq_getElem?_getD, List.getD_eq_getElem?_getD, List.getElem?_append_right h]
/-- the reference in the midst of an expression -/
def EX (I : iq_I) (J : iq_J) (f : Nat → Nat) (n p : Nat) (W : List Int32) (d tp : Nat) : Prop :=
  ML I J f n p ∧ I 76 18 = 0 ∧ I 76 38 = jn W.length ∧ (∀ i, i < W.length → I 96 i = wact (W.getD i 0)) ∧ I 76 39 = jn d ∧ I 76 37 = jn tp
/-- what may have changed -/
def jfr (d tp : Nat) (I I' : iq_I) : Prop := ∀ k j, ¬ (k = 76 ∧ ((22 ≤ j ∧ j ≤ 27) ∨ (37 ≤ j ∧ j ≤ 39))) → ¬ (k = 95 ∧ tp ≤ j) → ¬ k = 96 → ¬ (k = 97 ∧ d ≤ j) → I' k j = I k j
theorem jfr_rf (d tp : Nat) (I : iq_I) : jfr d tp I I := fun _ _ _ _ _ _ => rfl
theorem jfr_tr {d tp d' tp' : Nat} {I I' I'' : iq_I} (h : jfr d tp I I') (h' : jfr d' tp' I' I'') (hd : d ≤ d') (ht : tp ≤ tp') : jfr d tp I I'' := fun k j h1 h2 h3 h4 => by
  rw [h' k j h1 (by omega) h3 (by omega), h k j h1 h2 h3 h4]
theorem jfr_go {d tp : Nat} {I I' : iq_I} (h : jgo I I') : jfr d tp I I' := fun k j h1 _ _ _ => h k j (by omega)
theorem EX_go {I I' : iq_I} {J J' : iq_J} {f : Nat → Nat} {n p p' : Nat} {W : List Int32} {d tp : Nat} (h : EX I J f n p W d tp) (hM : ML I' J' f n p') (hg : jgo I I') : EX I' J' f n p' W d tp := by
  obtain ⟨h1, h2, h3, h4, h5, h6⟩ := h
  exact ⟨hM, by rw [hg _ _ (by omega), h2], by rw [hg _ _ (by omega), h3], fun i hi => by rw [hg _ _ (by omega), h4 i hi], by rw [hg _ _ (by omega), h5], by rw [hg _ _ (by omega), h6]⟩
theorem jm_good {I : iq_I} (h : I 76 18 = 0) : zM_isGood I = some 1 := by
  unfold zM_isGood
  rw [h, if_neg (fun h => h rfl)]
theorem jm_bad {I : iq_I} (h : ¬ I 76 18 = 0) : zM_isGood I = some 0 := by
  unfold zM_isGood
  rw [if_pos h]
theorem jm_waitsFor {I : iq_I} {J : iq_J} {f : Nat → Nat} {n p : Nat} {W : List Int32} {d tp : Nat} (h : EX I J f n p W d tp) (hW : W.length < 950) (x : Int32) :
    ∃ I', zM_waitsFor (wact x) I = some I' ∧ EX I' J f n p (W ++ [x]) d tp ∧ (∀ k j, ¬ (k = 76 ∧ j = 38) → ¬ k = 96 → I' k j = I k j) := by
  obtain ⟨h1, h2, h3, h4, h5, h6⟩ := h
  have fr : ∀ k j, ¬ (k = 76 ∧ j = 38) → ¬ k = 96 → iq_upI (iq_upI I 96 W.length (wact x)) 76 38 (jn (W.length + 1)) k j = I k j := fun k j q1 q2 => by
    by_cases e : k = 76
    · subst e; rw [up_ni (by omega), up_nk (by decide)]
    · rw [up_nk e, up_nk q2]
  refine ⟨iq_upI (iq_upI I 96 W.length (wact x)) 76 38 (jn (W.length + 1)), ?_, ⟨ML_f h1 (fun j => fr _ _ (by omega) (by omega)) (fun j q1 q2 => fr _ _ (by omega) (by omega)) rfl, ?_, ?_, fun i hi => ?_, ?_, ?_⟩, fr⟩
  · unfold zM_waitsFor
    rw [h3, if_pos (by rw [jn_in (by omega)]; exact hW), jn_clamp (by omega), ir_let, up_nk (by decide), h3, show jn W.length + (1 : Int32) = jn (W.length + 1) from jn_add _ 1, ir_let]
  · rw [fr _ _ (by omega) (by omega), h2]
  · rw [up_eq, List.length_append]; rfl
  · rw [up_nk (by decide)]
    rw [List.length_append] at hi
    have hi : i < W.length + 1 := hi
    by_cases e : i = W.length
    · subst e; rw [up_eq, jgd_r (Nat.le_refl _), Nat.sub_self]; rfl
    · rw [up_ni e, jgd_l (by omega), h4 i (by omega)]
  · rw [fr _ _ (by omega) (by omega), h5]
  · rw [fr _ _ (by omega) (by omega), h6]
theorem jm_puts {I : iq_I} {tp : Nat} (h : I 76 37 = jn tp) (ht : tp < 4000) (v : Int32) : zM_puts v I = some (iq_upI (iq_upI I 95 tp v) 76 37 (jn (tp + 1))) := by
  unfold zM_puts
  rw [h, if_pos (by rw [jn_in (by omega)]; exact ht), jn_clamp (by omega), ir_let, up_nk (by decide), h, show jn tp + (1 : Int32) = jn (tp + 1) from jn_add _ 1, ir_let]
theorem jm_putsE {I : iq_I} {J : iq_J} {f : Nat → Nat} {n p : Nat} {W : List Int32} {d tp : Nat} (h : EX I J f n p W d tp) (v : Int32) : EX (iq_upI (iq_upI I 95 tp v) 76 37 (jn (tp + 1))) J f n p W d (tp + 1) := by
  obtain ⟨h1, h2, h3, h4, h5, h6⟩ := h
  have fr : ∀ k j, ¬ (k = 76 ∧ j = 37) → ¬ k = 95 → iq_upI (iq_upI I 95 tp v) 76 37 (jn (tp + 1)) k j = I k j := fun k j q1 q2 => by
    by_cases e : k = 76
    · subst e; rw [up_ni (by omega), up_nk (by decide)]
    · rw [up_nk e, up_nk q2]
  exact ⟨ML_f h1 (fun j => fr _ _ (by omega) (by omega)) (fun j q1 q2 => fr _ _ (by omega) (by omega)) rfl, by rw [fr _ _ (by omega) (by omega), h2], by rw [fr _ _ (by omega) (by omega), h3], fun i hi => by rw [fr _ _ (by omega) (by omega), h4 i hi], by rw [fr _ _ (by omega) (by omega), h5], up_eq⟩
/-- the rows of what waits and of what is out, good or not -/
def WO (I : iq_I) (W : List Int32) (tp : Nat) : Prop := I 76 38 = jn W.length ∧ (∀ i, i < W.length → I 96 i = wact (W.getD i 0)) ∧ I 76 37 = jn tp
theorem WO_of {I : iq_I} {J : iq_J} {f : Nat → Nat} {n p : Nat} {W : List Int32} {d tp : Nat} (h : EX I J f n p W d tp) : WO I W tp := ⟨h.2.2.1, h.2.2.2.1, h.2.2.2.2.2⟩
/-- the top of what waits is an open bracket, or weaker than k -/
def weak (W : List Int32) (k : Nat) : Prop := ∀ V x, W = V ++ [x] → x = 0 ∨ wst x < k
theorem jl_sn {P : List Int32} (h : ¬ P = []) : ∃ Q x, P = Q ++ [x] := ⟨P.dropLast, P.getLast h, (List.dropLast_concat_getLast h).symm⟩
theorem jm_dropsL (L : Nat) (hL : L ≤ 6) : ∀ (P W : List Int32) (I : iq_I) (tp N : Nat), (∀ x ∈ P, wop x ∧ L ≤ wst x) → wokL W → weak W L → WO I (W ++ P) tp → (W ++ P).length < 950 → tp + P.length < 4000 → P.length < N →
    ∃ I', zM_drops_l0 (jn L) N I = some I' ∧ WO I' W (tp + P.length) ∧ (∀ i, i < P.length → I' 95 (tp + i) = (jes P.reverse).getD i 0) ∧ (∀ k j, ¬ (k = 76 ∧ (j = 37 ∨ j = 38)) → ¬ (k = 95 ∧ tp ≤ j) → I' k j = I k j) := by
  intro P
  generalize hl : P.length = l
  induction l generalizing P with
  | zero =>
    intro W I tp N hP hw hk hO hW ht hN
    have : P = [] := List.eq_nil_of_length_eq_zero hl
    subst this
    obtain ⟨N, rfl⟩ : ∃ N', N = N' + 1 := ⟨N - 1, by omega⟩
    rw [List.append_nil] at hO hW
    obtain ⟨o1, o2, o3⟩ := id hO
    refine ⟨I, js_0 ?_, hO, fun i hi => by omega, fun _ _ _ _ => rfl⟩
    unfold zM_drops_l0_b
    rw [o1]
    by_cases w0 : W = []
    · subst w0; rw [if_pos (by decide)]
    · obtain ⟨Q, x, e⟩ := jl_sn w0
      have lx : W.length = Q.length + 1 := by rw [e, List.length_append]; rfl
      have gx : W.getD (W.length - 1) 0 = x := by rw [lx, e, jgd_r (by omega), show Q.length + 1 - 1 - Q.length = 0 by omega]; rfl
      rw [if_neg (by rw [jl0, jn_le (by omega) (by omega)]; omega), jl1, jn_sub (by omega)]
      simp only [if_pos (show iq_in (jn (W.length - 1)) 950 by rw [jn_in (by omega)]; omega)]
      rw [jn_clamp (by omega), o2 _ (by omega), gx]
      rcases hw x (by rw [e]; simp) with hx | hx
      · subst hx
        rw [wopen_o, Option.bind_some, if_pos (by decide)]
      · rw [wop_o hx, Option.bind_some, if_neg (fun h => h rfl), wop_s hx, Option.bind_some]
        rcases hk Q x e with h | h
        · exact absurd h (wop_n0 hx)
        · have := wop_st hx
          rw [if_pos (by rw [jn_lt (by omega) (by omega)]; exact h)]
  | succ l ih =>
    intro W I tp N hP hw hk hO hW ht hN
    obtain ⟨N, rfl⟩ : ∃ N', N = N' + 1 := ⟨N - 1, by omega⟩
    obtain ⟨Q, x, e⟩ := jl_sn (P := P) (fun h => by rw [h] at hl; cases hl)
    subst e
    have lq : Q.length = l := by rw [List.length_append] at hl; exact Nat.succ.inj hl
    obtain ⟨o1, o2, o3⟩ := id hO
    obtain ⟨hx, hxs⟩ := hP x (by simp)
    have sx := wop_st hx
    have len : (W ++ (Q ++ [x])).length = W.length + l + 1 := by rw [List.length_append, List.length_append, lq]; rfl
    rw [len] at o1 hW
    have gx : (W ++ (Q ++ [x])).getD (W.length + l) 0 = x := by
      rw [← List.append_assoc, jgd_r (by rw [List.length_append]; omega), List.length_append, lq, Nat.sub_self]; rfl
    have u38 : iq_upI I 76 38 (jn (W.length + l)) 76 38 = jn (W.length + l) := up_eq
    have u37 : iq_upI I 76 38 (jn (W.length + l)) 76 37 = jn tp := by rw [up_ni (by decide), o3]
    have u96 : ∀ j, iq_upI I 76 38 (jn (W.length + l)) 96 j = I 96 j := fun j => up_nk (by decide)
    have o96 : I 96 (W.length + l) = wact x := by rw [o2 _ (by rw [len]; omega), gx]
    have iw : iq_in (jn (W.length + l)) 950 := by rw [jn_in (by omega)]; omega
    have kw : (jn (W.length + l)).toNatClampNeg = W.length + l := jn_clamp (by omega)
    have body : zM_drops_l0_b (jn L) I = some (.inl (iq_upI (iq_upI (iq_upI I 76 38 (jn (W.length + l))) 95 tp (wact x)) 76 37 (jn (tp + 1)))) := by
      unfold zM_drops_l0_b
      rw [o1, if_neg (by rw [jl0, jn_le (by omega) (by omega)]; omega), show jn (W.length + l + 1) - (1 : Int32) = jn (W.length + l) from (jn_sub (b := 1) (by omega)).trans (by rw [Nat.add_sub_cancel])]
      simp only [if_pos iw]
      rw [kw, o96, wop_o hx, Option.bind_some, if_neg (fun h => h rfl), wop_s hx, Option.bind_some, if_neg (by rw [jn_lt (by omega) (by omega)]; omega), ir_let, u38, if_pos iw, kw, u96, o96, jm_puts u37 (by omega), Option.bind_some]
    have fr1 : ∀ k j, ¬ (k = 76 ∧ (j = 37 ∨ j = 38)) → ¬ (k = 95 ∧ tp ≤ j) → iq_upI (iq_upI (iq_upI I 76 38 (jn (W.length + l))) 95 tp (wact x)) 76 37 (jn (tp + 1)) k j = I k j := fun k j q1 q2 => by
      by_cases e : k = 76
      · subst e; rw [up_ni (by omega), up_nk (by decide), up_ni (by omega)]
      · rw [up_nk e]
        by_cases e2 : k = 95
        · subst e2; rw [up_ni (by omega), up_nk (by decide)]
        · rw [up_nk e2, up_nk e]
    obtain ⟨I', e1, e2, e3, e4⟩ := ih Q lq W (iq_upI (iq_upI (iq_upI I 76 38 (jn (W.length + l))) 95 tp (wact x)) 76 37 (jn (tp + 1))) (tp + 1) N (fun y hy => hP y (by simp [hy])) hw hk
      ⟨by rw [up_ni (by decide), up_nk (by decide), up_eq, List.length_append, lq], fun i hi => by
        rw [List.length_append, lq] at hi
        rw [fr1 96 i (by omega) (by omega), o2 i (by rw [len]; omega), ← List.append_assoc, jgd_l (by rw [List.length_append, lq]; omega)], up_eq⟩ (by rw [List.length_append, lq]; omega) (by omega) (by omega)
    refine ⟨I', (js_1 body).trans e1, ?_, fun i hi => ?_, fun k j q1 q2 => ?_⟩
    · rw [show tp + (l + 1) = tp + 1 + l by omega]; exact e2
    · rw [List.reverse_append]
      show _ = (jenc x ++ jes Q.reverse).getD i 0
      rw [wop_e hx]
      cases i with
      | zero =>
        rw [e4 95 (tp + 0) (by omega) (by omega), up_nk (by decide), Nat.add_zero, up_eq]
        rfl
      | succ i =>
        rw [show tp + (i + 1) = tp + 1 + i by omega, e3 i (by omega)]
        rfl
    · rw [e4 k j q1 (by omega), fr1 k j q1 q2]
theorem jm_drops {L : Nat} (hL : L ≤ 6) {P W : List Int32} {I : iq_I} {J : iq_J} {f : Nat → Nat} {n p d tp : Nat} (hP : ∀ x ∈ P, wop x ∧ L ≤ wst x) (hw : wokL W) (hk : weak W L) (h : EX I J f n p (W ++ P) d tp) (hW : (W ++ P).length < 950) (ht : tp + P.length < 4000) :
    ∃ I', zM_drops (jn L) I = some I' ∧ EX I' J f n p W d (tp + P.length) ∧ (∀ i, i < P.length → I' 95 (tp + i) = (jes P.reverse).getD i 0) ∧ (∀ k j, ¬ (k = 76 ∧ (j = 37 ∨ j = 38)) → ¬ (k = 95 ∧ tp ≤ j) → I' k j = I k j) := by
  have lp : P.length ≤ (W ++ P).length := by rw [List.length_append]; omega
  obtain ⟨I', e1, ⟨o1, o2, o3⟩, e3, e4⟩ := jm_dropsL L hL P W I tp ir_F hP hw hk (WO_of h) hW ht (by unfold ir_F; omega)
  obtain ⟨h1, h2, h3, h4, h5, h6⟩ := h
  refine ⟨I', by unfold zM_drops; rw [e1, Option.bind_some], ⟨ML_f h1 (fun j => e4 _ _ (by omega) (by omega)) (fun j q1 q2 => e4 _ _ (by omega) (by omega)) rfl, by rw [e4 _ _ (by omega) (by omega), h2], o1, o2, by rw [e4 _ _ (by omega) (by omega), h5], o3⟩, e3, e4⟩
