/-! ===== expressions: parts, brackets ===== -/
def cBg (f : Nat → Nat) (n p : Nat) : Bool := decide (tt f n p = 2) || (decide (tt f n p = 1) || sgn f n p 40)
theorem jc_canBegin {I : iq_I} {f : Nat → Nat} {n p : Nat} (h : CL I f n p) : zR_canBeginExpr I = some (jB (cBg f n p)) := by
  have t4 := tt_le (f := f) (n := n) (p := p)
  have s : zT_isSign (40 : Int32) I = _ := jc_isSign h (c := 40) (by decide)
  unfold zR_canBeginExpr cBg
  rw [h.2.2.1]
  by_cases t2 : tt f n p = 2
  · rw [if_pos (by rw [t2]; rfl), decide_eq_true t2]; rfl
  · rw [if_neg (by rw [jl2, jn_inj (by omega) (by omega)]; exact t2), decide_eq_false t2]
    by_cases t1 : tt f n p = 1
    · rw [if_pos (by rw [t1]; rfl), decide_eq_true t1]; rfl
    · rw [if_neg (by rw [jl1, jn_inj (by omega) (by omega)]; exact t1), decide_eq_false t1, s, Option.bind_some]
      cases sgn f n p 40 <;> rfl
theorem jm_deeper6 {I : iq_I} {J : iq_J} {f : Nat → Nat} {n p : Nat} {W : List Int32} {tp : Nat} (h : EX I J f n p W 6 tp) : zM_deeper I = zM_wrong (jn (if cBg f n p = true then 2 else 1)) I := by
  have t4 := tt_le (f := f) (n := n) (p := p)
  have s : zM_isSign (40 : Int32) I = _ := jm_isSign h.1 (c := 40) (by decide)
  unfold zM_deeper zM_deeper_56 zM_deeper_61 cBg
  rw [h.2.2.2.2.1, if_pos (by decide), h.1.2.2.2.2.1, jm_wrong h.2.1, jm_wrong h.2.1, jm_wrong h.2.1]
  by_cases t2 : tt f n p = 2
  · rw [if_pos (by rw [t2]; rfl), decide_eq_true t2]; rfl
  · rw [if_neg (by rw [jl2, jn_inj (by omega) (by omega)]; exact t2), decide_eq_false t2]
    by_cases t1 : tt f n p = 1
    · rw [if_pos (by rw [t1]; rfl), decide_eq_true t1]; rfl
    · rw [if_neg (by rw [jl1, jn_inj (by omega) (by omega)]; exact t1), decide_eq_false t1, s, Option.bind_some]
      cases sgn f n p 40 <;> rfl
theorem jm_deeper {I : iq_I} {J : iq_J} {f : Nat → Nat} {n p : Nat} {W : List Int32} {d tp : Nat} (h : EX I J f n p W d tp) (hd : d < 6) : ∃ I', zM_deeper I = some I' ∧ EX I' J f n p W (d + 1) tp ∧ I' 97 (d + 1) = 0 ∧ (∀ k j, ¬ (k = 76 ∧ j = 39) → ¬ (k = 97 ∧ j = d + 1) → I' k j = I k j) := by
  have fr : ∀ k j, ¬ (k = 76 ∧ j = 39) → ¬ (k = 97 ∧ j = d + 1) → iq_upI (iq_upI I 76 39 (jn (d + 1))) 97 (d + 1) 0 k j = I k j := fun k j q1 q2 => by
    by_cases e : k = 97
    · subst e; rw [up_ni (by omega), up_nk (by decide)]
    · rw [up_nk e]
      by_cases e2 : k = 76
      · subst e2; rw [up_ni (by omega)]
      · rw [up_nk e2]
  obtain ⟨h1, h2, h3, h4, h5, h6⟩ := h
  refine ⟨iq_upI (iq_upI I 76 39 (jn (d + 1))) 97 (d + 1) 0, ?_, ⟨ML_f h1 (fun j => fr _ _ (by omega) (by omega)) (fun j _ _ => fr _ _ (by omega) (by omega)) rfl, by rw [fr _ _ (by omega) (by omega), h2], by rw [fr _ _ (by omega) (by omega), h3], fun i hi => by rw [fr _ _ (by omega) (by omega), h4 i hi], by rw [up_nk (by decide), up_eq], by rw [fr _ _ (by omega) (by omega), h6]⟩, up_eq, fr⟩
  unfold zM_deeper
  rw [h5, if_neg (by rw [jl6, jn_le (by omega) (by omega)]; omega), show jn d + (1 : Int32) = jn (d + 1) from jn_add _ 1, ir_let, up_eq, if_pos ⟨by rw [jn_in (by omega)]; omega, Or.inl rfl⟩, jn_clamp (by omega), ir_let]
theorem jm_closes {I : iq_I} {J : iq_J} {f : Nat → Nat} {n p : Nat} {W P : List Int32} {d tp : Nat} (h : EX I J f n p (W ++ [0] ++ P) (d + 1) tp) (hw : wokL W) (hP : ∀ x ∈ P, wop x) (hl : (W ++ [0] ++ P).length < 950) (ht : tp + P.length < 4000) (hd : d < 10) :
    ∃ I' J', zM_closes I J = some (I', J') ∧ EX I' J' f n (tz f n p) W d (tp + P.length) ∧ (∀ i, i < P.length → I' 95 (tp + i) = (jes P.reverse).getD i 0) ∧ (∀ k j, ¬ (k = 76 ∧ ((22 ≤ j ∧ j ≤ 27) ∨ (37 ≤ j ∧ j ≤ 39))) → ¬ (k = 95 ∧ tp ≤ j) → I' k j = I k j) ∧ (∀ k j, ¬ k = 76 → J' k j = J k j) := by
  obtain ⟨I1, e1, x1, d1, f1⟩ := jm_drops (L := 0) (by omega) (fun x hx => ⟨hP x hx, Nat.zero_le _⟩) (wokL_app hw (Or.inl rfl)) weak_0 h hl ht
  obtain ⟨h1, h2, h3, h4, h5, h6⟩ := x1
  have l1 : (W ++ [0]).length = W.length + 1 := List.length_append
  have lw : W.length < 950 := by rw [List.length_append, l1] at hl; omega
  rw [l1] at h3
  have fr : ∀ k j, ¬ (k = 76 ∧ (j = 38 ∨ j = 39)) → iq_upI (iq_upI I1 76 38 (jn W.length)) 76 39 (jn d) k j = I1 k j := fun k j q1 => by
    by_cases e : k = 76
    · subst e; rw [up_ni (by omega), up_ni (by omega)]
    · rw [up_nk e, up_nk e]
  have x2 : EX (iq_upI (iq_upI I1 76 38 (jn W.length)) 76 39 (jn d)) J f n p W d (tp + P.length) := ⟨ML_f h1 (fun j => fr _ _ (by omega)) (fun j _ _ => fr _ _ (by omega)) rfl, by rw [fr _ _ (by omega), h2], by rw [up_ni (by decide), up_eq], fun i hi => by rw [fr _ _ (by omega), h4 i (by rw [l1]; omega), jgd_l hi], up_eq, by rw [fr _ _ (by omega), h6]⟩
  obtain ⟨I2, J2, e2, m2, g2, j2⟩ := ML_next x2.1
  refine ⟨I2, J2, ?_, EX_go x2 m2 g2, fun i hi => ?_, fun k j q1 q2 => ?_, j2⟩
  · have e1 : zM_drops (0 : Int32) I = some I1 := e1
    unfold zM_closes
    rw [e1, Option.bind_some, h3, show jn (W.length + 1) - (1 : Int32) = jn W.length from (jn_sub (b := 1) (by omega)).trans (by rw [Nat.add_sub_cancel]), ir_let, up_ni (by decide), h5, show jn (d + 1) - (1 : Int32) = jn d from (jn_sub (b := 1) (by omega)).trans (by rw [Nat.add_sub_cancel]), ir_let, e2, Option.bind_some]
  · rw [g2 95 _ (by omega), fr _ _ (by omega), d1 i hi]
  · rw [g2 k j (by omega), fr k j (by omega), f1 k j (by omega) q2]
theorem jdp_1 {x : Int32} (h : -8 < x) {d : Nat} (hd : d < 64) : jdp [x] d = some (d + 1) := by
  unfold jdp
  rw [if_pos h, if_pos hd]
  rfl
theorem jn_m8 {v : Nat} (hv : v < 10000) : -8 < jn v ∧ -16 ≤ jn v ∧ jenc (jn v) = [1, jn v] := by
  have h0 : (0 : Int32) ≤ jn v := by rw [jl0, jn_le (by omega) (by omega)]; omega
  refine ⟨?_, ?_, by unfold jenc; rw [if_pos h0]⟩
  · rw [Int32.lt_iff_toInt_lt, jn_toInt (by omega)]
    have : (-8 : Int32).toInt = -8 := rfl
    omega
  · rw [Int32.le_iff_toInt_le, jn_toInt (by omega)]
    have : (-16 : Int32).toInt = -16 := rfl
    omega
theorem jv_m8 : ∀ k : Fin 7, -8 < (-1 : Int32) - jn k.val ∧ -16 ≤ (-1 : Int32) - jn k.val ∧ jenc ((-1 : Int32) - jn k.val) = [2, jn k.val] := by decide
/-- a part of one token that is good: what both sides do -/
theorem partOk {ne : Nat} {f : Nat → Nat} {n p : Nat} {R : Nat → Int32 → iq_I → Option (Int32 × iq_I)} {x : Int32} {v0 v1 : Int32} (hp : p ≤ n) (hn : n ≤ 700) (t0 : ¬ tt f n p = 0) (s40 : sgn f n p 40 = false) (hx : -8 < x ∧ -16 ≤ x ∧ jenc x = [v0, v1])
    (hc : ∀ I, CL I f n p → zR_readPart R (jn ne) I = (zE_step x I).bind fun q => zR_readPart_122 R q)
    (hm : ∀ I J, ML I J f n p → I 76 18 = 0 → zM_part I J = (zM_puts v0 I).bind fun q => (zM_puts v1 q).bind fun q2 => zM_part_91 q2 J) :
    ∃ o, Stt 7 ne f n p o ∧ CSp (zR_readPart R (jn ne)) f n p o ∧ RSp (RBa n) 7 f n (ne + 1) p o := by
  have tz1 := tz_sp (f := f) hp
  have ta1 := ta_sp (f := f) hp
  have tz3 := tz1.2.2.1 t0
  refine ⟨.inr ([x], tz f n p), ⟨by omega, tz1.2.1, by show 1 ≤ _; omega, (fun y hy => by cases List.mem_singleton.mp hy; exact hx.2.1), fun dd hdd => jdp_1 hx.1 (by unfold Bd at hdd; omega), fun k' x' h => Or.inl (by have := opk_w h; omega)⟩, fun I sz hC h42 hsz => ?_, fun I J W tp hE hw hk b1 b2 h4 => ?_⟩
  · obtain ⟨I1, e1, c1, co1⟩ := jc_step hC h42 (by omega) x
    obtain ⟨I2, e2, c2, f2⟩ := CL_next c1
    refine ⟨I2, ?_, c2, ?_⟩
    · rw [hc I hC, e1, Option.bind_some]
      unfold zR_readPart_122
      rw [e2, Option.bind_some]
    · have := CO_tr co1 (CO_62 (sz := sz + [x].length) co1.1 f2)
      rwa [List.append_nil] at this
  · have x1 := jm_putsE hE v0
    have x2 := jm_putsE x1 v1
    obtain ⟨I3, J3, e3, m3, g3, j3⟩ := ML_next x2.1
    have jl : (jes [x]).length = 2 := by show (jenc x ++ []).length = 2; rw [hx.2.2]; rfl
    refine ⟨[x], [], I3, J3, rfl, (fun y hy => by cases hy), ?_, fun i hi => ?_, ?_, j3, fun _ => ?_, fun h => by omega, by rw [jl]; show 2 + 0 ≤ _; omega, Nat.zero_le _, fun w hw' => jm_RBp hE s40 ?_ (fun N hN => hw' N (by omega))⟩
    · rw [List.append_nil, jl]; exact EX_go x2 m3 g3
    · rw [jl] at hi
      show _ = (jenc x ++ []).getD i 0
      rw [hx.2.2, g3 95 _ (by omega)]
      rcases (show i = 0 ∨ i = 1 by omega) with rfl | rfl
      · rw [up_nk (by decide), up_ni (by omega), up_nk (by decide), Nat.add_zero, up_eq]; rfl
      · rw [up_nk (by decide), up_eq]; rfl
    · intro k j q1 q2 q3 q4
      rw [g3 k j (by omega)]
      by_cases e : k = 76
      · subst e; rw [up_ni (by omega), up_nk (by decide), up_ni (by omega), up_nk (by decide)]
      · rw [up_nk e]
        by_cases e2 : k = 95
        · subst e2; rw [up_ni (by omega), up_nk (by decide), up_ni (by omega)]
        · rw [up_nk e2, up_nk e, up_nk e2]
    · rw [g3 97 _ (by omega), up_nk (by decide), up_nk (by decide), up_nk (by decide), up_nk (by decide)]
    · rw [hm I J hE.1 hE.2.1, jm_puts hE.2.2.2.2.2 (by omega), Option.bind_some, jm_puts up_eq (by omega), Option.bind_some]
      unfold zM_part_91
      rw [jm_good x2.2.1, Option.bind_some, if_neg (by decide), e3, Option.bind_some]
/-- a part of one token that is a fault -/
theorem partBad {ne : Nat} {f : Nat → Nat} {n p : Nat} {R : Nat → Int32 → iq_I → Option (Int32 × iq_I)} {kd : Nat} (hp : p ≤ n) (hn : n ≤ 700) (s40 : sgn f n p 40 = false) (hk0 : 0 < kd) (hk : kd < 10)
    (hc : ∀ I, CL I f n p → zR_readPart R (jn ne) I = (zR_refuse (jn kd) I).bind fun q => if q.1 = 0 ∨ q.1 = 1 then some (q.1, q.2) else none)
    (hm : ∀ I J, ML I J f n p → I 76 18 = 0 → (∃ v0 v1 : Int32, zM_part I J = (zM_wrong (jn kd) I).bind fun q0 => (zM_puts v0 q0).bind fun q => (zM_puts v1 q).bind fun q2 => zM_part_91 q2 J) ∨ zM_part I J = (zM_wrong (jn kd) I).bind fun q0 => zM_part_91 q0 J) :
    ∃ o, Stt 7 ne f n p o ∧ CSp (zR_readPart R (jn ne)) f n p o ∧ RSp (RBa n) 7 f n (ne + 1) p o := by
  have ta1 := ta_sp (f := f) hp
  refine ⟨.inl (kd, ta f n p), ⟨hk0, hk, ta1.2.1⟩, fun I sz hC h42 hsz => ?_, fun I J W tp hE hw hk' b1 b2 h4 => ?_⟩
  · obtain ⟨I1, e1, g1, g2, g3⟩ := jc_ref hC kd
    exact ⟨I1, by rw [hc I hC, e1], g1, g2, fun a j q _ _ _ => g3 a j q⟩
  · obtain ⟨I2, e2⟩ : ∃ I2, zM_wrong (jn kd) I = some I2 := ⟨_, jm_wrong hE.2.1⟩
    obtain ⟨u1, u2, u3, u4, u5, u6⟩ := jm_flt hE hw (by omega) (by omega) hk0 hk e2
    rcases hm I J hE.1 hE.2.1 with ⟨v0, v1, e⟩ | e
    · have o37 := u4.2.2
      have fr : ∀ k j, ¬ (k = 76 ∧ j = 37) → ¬ k = 95 → iq_upI (iq_upI (iq_upI (iq_upI I2 95 tp v0) 76 37 (jn (tp + 1))) 95 (tp + 1) v1) 76 37 (jn (tp + 1 + 1)) k j = I2 k j := fun k j q1 q2 => by
        by_cases e : k = 76
        · subst e; rw [up_ni (by omega), up_nk (by decide), up_ni (by omega), up_nk (by decide)]
        · rw [up_nk e, up_nk q2, up_nk e, up_nk q2]
      have bad : ¬ iq_upI (iq_upI (iq_upI (iq_upI I2 95 tp v0) 76 37 (jn (tp + 1))) 95 (tp + 1) v1) 76 37 (jn (tp + 1 + 1)) 76 18 = 0 := by rw [fr _ _ (by omega) (by omega)]; exact u1
      obtain ⟨w, r1, r2, r3, r4, r5⟩ := jm_badR (J := J) bad (W := W) (tp := tp + 1 + 1) ⟨by rw [fr _ _ (by omega) (by omega)]; exact u4.1, fun i hi => by rw [fr _ _ (by omega) (by omega)]; exact u4.2.1 i hi, up_eq⟩ hw (by omega) (by omega)
      refine ⟨w, jm_RBp hE s40 ?_ (fun N hN => (r1 N (by omega)).1), by rw [r2, fr _ _ (by omega) (by omega), u2], by rw [r3, fr _ _ (by omega) (by omega), u3], jfz_tr u5 (jfz_tr (fun k j h1 h2 => fr k j (fun e => by obtain ⟨rfl, rfl⟩ := e; cases h1) (fun e => by subst e; cases h1)) r4), fun k j q => by rw [r5]⟩
      rw [e, e2, Option.bind_some, jm_puts o37 (by omega), Option.bind_some, jm_puts up_eq (by omega), Option.bind_some]
      unfold zM_part_91
      rw [jm_bad bad, Option.bind_some, if_pos rfl]
    · obtain ⟨w, r1, r2, r3, r4, r5⟩ := jm_badR (J := J) u1 u4 hw (by omega) (by omega)
      refine ⟨w, jm_RBp hE s40 ?_ (fun N hN => (r1 N (by omega)).1), by rw [r2, u2], by rw [r3, u3], jfz_tr u5 r4, fun k j q => by rw [r5]⟩
      rw [e, e2, Option.bind_some]
      unfold zM_part_91
      rw [jm_bad u1, Option.bind_some, if_pos rfl]
theorem partJ {ne : Nat} {f : Nat → Nat} {n : Nat} (hn : n ≤ 700) (hne : ne ≤ 5) (R : Nat → Int32 → iq_I → Option (Int32 × iq_I))
    (hE : ne < 5 → ∀ p, p ≤ n → ∃ o, Stt 1 (ne + 1) f n p o ∧ CSp (R 98 (jn (ne + 1))) f n p o ∧ RSp (RA n 1) 1 f n (ne + 2) p o)
    (h6 : ne = 5 → ∀ I, R 98 (jn 6) I = (zR_canBeginExpr I).bind fun q9 => if q9 = 0 then (zR_refuse (1 : Int32) I).bind fun q => if q.1 = 0 ∨ q.1 = 1 then some (q.1, q.2) else none else (zR_refuse (2 : Int32) I).bind fun q => if q.1 = 0 ∨ q.1 = 1 then some (q.1, q.2) else none) :
    ∀ p, p ≤ n → ∃ o, Stt 7 ne f n p o ∧ CSp (zR_readPart R (jn ne)) f n p o ∧ RSp (RBa n) 7 f n (ne + 1) p o := by
  intro p hp
  have tz1 := tz_sp (f := f) hp
  have ta1 := ta_sp (f := f) hp
  have t4 := tt_le (f := f) (n := n) (p := p)
  have F : jB false = 0 := rfl
  cases s40 : sgn f n p 40 with
  | false =>
    have c40 : ∀ I, CL I f n p → zT_isSign (40 : Int32) I = some 0 := fun I h => (jc_isSign h (c := 40) (by decide)).trans (by rw [s40]; rfl)
    by_cases t1 : tt f n p = 1
    · have cw : ∀ I, CL I f n p → ¬ ¬ I 62 0 = (1 : Int32) := fun I h => by rw [h.2.2.1, t1]; exact fun h => h rfl
      have mw : ∀ I J, ML I J f n p → I 76 23 = jn 1 := fun I J h => by rw [h.2.2.2.2.1, t1]
      cases hk : vN f n p with
      | some k =>
        have e : kw f n p = some k ∧ k < 7 := by
          unfold vN at hk
          cases q : kw f n p with
          | none => rw [q] at hk; cases hk
          | some k' =>
            rw [q] at hk
            dsimp only at hk
            by_cases l : k' < 7
            · rw [if_pos l] at hk; cases hk; exact ⟨rfl, l⟩
            · rw [if_neg l] at hk; cases hk
        refine partOk (x := (-1 : Int32) - jn k) (v0 := 2) (v1 := jn k) hp hn (by omega) s40 (jv_m8 ⟨k, e.2⟩) (fun I h => ?_) (fun I J h hg => ?_)
        · unfold zR_readPart
          rw [c40 I h, Option.bind_some, if_pos rfl, if_neg (cw I h), jc_valueNamed h, hk, Option.bind_some, jo_some, if_pos (jn_ne (by omega) (by decide))]
          unfold zE_stepOfValue
          rw [Option.bind_some]
        · unfold zM_part zM_part_73
          rw [jm_good hg, Option.bind_some, if_pos (by decide), mw I J h, if_pos (by decide), if_neg (fun h => h rfl), jm_knownWord h, e.1, Option.bind_some, jo_some, if_neg (by rw [jl0, jn_lt (by omega) (by omega)]; omega), if_pos (by rw [jl6, jn_le (by omega) (by omega)]; omega)]
      | none =>
        refine partBad (kd := 3) hp hn s40 (by decide) (by decide) (fun I h => ?_) (fun I J h hg => Or.inl ?_)
        · unfold zR_readPart
          rw [c40 I h, Option.bind_some, if_pos rfl, if_neg (cw I h), jc_valueNamed h, hk, Option.bind_some, if_neg (fun h => h rfl)]
          rfl
        · refine ⟨2, jo (kw f n p), ?_⟩
          unfold zM_part
          rw [jm_good hg, Option.bind_some, if_pos (by decide), mw I J h, if_pos (by decide), if_neg (fun h => h rfl), jm_knownWord h, Option.bind_some]
          have : zM_part_68 (jo (kw f n p)) I J = (zM_wrong (jn 3) I).bind fun q0 => (zM_puts 2 q0).bind fun q => (zM_puts (jo (kw f n p)) q).bind fun q2 => zM_part_91 q2 J := rfl
          cases q : kw f n p with
          | none =>
            rw [q] at this
            rw [if_pos (by decide), this]
          | some k' =>
            have hk7 : ¬ k' < 7 := fun l => by unfold vN at hk; rw [q] at hk; dsimp only at hk; rw [if_pos l] at hk; cases hk
            have h17 := (kw_lt q).1
            rw [q] at this
            rw [jo_some] at this ⊢
            rw [if_neg (by rw [jl0, jn_lt (by omega) (by omega)]; omega), if_neg (by rw [jl6, jn_le (by omega) (by omega)]; omega), this]
    · have cw : ∀ I, CL I f n p → ¬ I 62 0 = (1 : Int32) := fun I h => by rw [h.2.2.1, jl1, jn_inj (by omega) (by omega)]; exact t1
      have cN : ∀ I, CL I f n p → zR_readPart R (jn ne) I = (zR_isNumberTo (9999 : Int32) I).bind fun q2 => if ¬ q2.1 = 0 then (zT_number q2.2).bind fun q3 => (zE_step q3 q2.2).bind fun q4 => zR_readPart_122 R q4 else some ((0 : Int32), q2.2) := fun I h => by
        unfold zR_readPart
        rw [c40 I h, Option.bind_some, if_pos rfl, if_pos (cw I h)]
      have ref : ∀ (I : iq_I) (k : Nat), CL I f n p → (((zR_refuse (jn k) I).bind fun q => if q.1 = 0 ∨ q.1 = 1 then some (q.1, q.2) else none).bind fun q2 => if ¬ q2.1 = 0 then (zT_number q2.2).bind fun q3 => (zE_step q3 q2.2).bind fun q4 => zR_readPart_122 R q4 else some ((0 : Int32), q2.2)) = ((zR_refuse (jn k) I).bind fun q => if q.1 = 0 ∨ q.1 = 1 then some (q.1, q.2) else none) := fun I k h => by
        obtain ⟨I1, e1, -⟩ := jc_ref h k
        rw [e1, Option.bind_some, if_neg (fun h => h rfl)]
      by_cases t2 : tt f n p = 2
      · have m2 : ∀ I J, ML I J f n p → I 76 23 = jn 2 := fun I J h => by rw [h.2.2.2.2.1, t2]
        by_cases l : tz f n p - ta f n p ≤ 4
        · have tn4 := tn_lt hp t2 l
          refine partOk (x := jn (tn f n p)) (v0 := 1) (v1 := jn (tn f n p)) hp hn (by omega) s40 (jn_m8 tn4) (fun I h => ?_) (fun I J h hg => ?_)
          · have nt : zR_isNumberTo (9999 : Int32) I = some ((1 : Int32), I) := by
              unfold zR_isNumberTo zT_size
              rw [h.2.2.1, if_pos (by rw [t2]; rfl), Option.bind_some, h.2.2.2.1, h.2.2.2.2.2, jn_sub tz1.1, if_neg (by rw [jl4, jn_lt (by omega) (by omega)]; omega), jc_number h t2 l, Option.bind_some, if_pos (by rw [show (9999 : Int32) = jn 9999 from rfl, jn_le (by omega) (by omega)]; omega)]
            rw [cN I h, nt, Option.bind_some, if_pos (show ¬ (1 : Int32) = 0 by decide)]
            dsimp only
            rw [jc_number h t2 l, Option.bind_some]
          · unfold zM_part zM_part_29
            rw [jm_good hg, Option.bind_some, if_pos (by decide), m2 I J h, if_neg (fun h => h rfl), h.2.2.2.2.2.2.1, if_pos (by rw [jl4, jn_le (by omega) (by omega)]; exact l)]
            have o37 : ∀ q9, zM_puts 1 I = some q9 → q9 76 26 = jn (tn f n p) := fun q9 e => by
              unfold zM_puts at e
              by_cases c : iq_in (I 76 37) 4000
              · rw [if_pos c, ir_let, ir_let] at e
                cases e
                rw [up_ni (by decide), up_nk (by decide), jm_value h t2 l]
              · rw [if_neg c] at e; cases e
            cases e : zM_puts 1 I with
            | none => rfl
            | some q9 => rw [Option.bind_some, Option.bind_some, o37 q9 e]
        · refine partBad (kd := 2) hp hn s40 (by decide) (by decide) (fun I h => ?_) (fun I J h hg => Or.inl ⟨1, I 76 26, ?_⟩)
          · rw [cN I h, ← ref I 2 h]
            unfold zR_isNumberTo zR_isNumberTo_39 zT_size
            rw [h.2.2.1, if_pos (by rw [t2]; rfl), Option.bind_some, h.2.2.2.1, h.2.2.2.2.2, jn_sub tz1.1, if_pos (by rw [jl4, jn_lt (by omega) (by omega)]; omega)]
            rfl
          · unfold zM_part zM_part_29
            rw [jm_good hg, Option.bind_some, if_pos (by decide), m2 I J h, if_neg (fun h => h rfl), h.2.2.2.2.2.2.1, if_neg (by rw [jl4, jn_le (by omega) (by omega)]; exact l), show (2 : Int32) = jn 2 from rfl, jm_wrong hg, Option.bind_some, Option.bind_some]
            have o37 : ∀ q9, zM_puts 1 (iq_upI (iq_upI I 76 18 (jn 2)) 76 19 (I 76 24)) = some q9 → q9 76 26 = I 76 26 := fun q9 e => by
              unfold zM_puts at e
              by_cases c : iq_in (iq_upI (iq_upI I 76 18 (jn 2)) 76 19 (I 76 24) 76 37) 4000
              · rw [if_pos c, ir_let, ir_let] at e
                cases e
                rw [up_ni (by decide), up_nk (by decide), up_ni (by decide), up_ni (by decide)]
              · rw [if_neg c] at e; cases e
            cases e : zM_puts 1 (iq_upI (iq_upI I 76 18 (jn 2)) 76 19 (I 76 24)) with
            | none => rfl
            | some q9 => rw [Option.bind_some, Option.bind_some, o37 q9 e]
      · refine partBad (kd := 1) hp hn s40 (by decide) (by decide) (fun I h => ?_) (fun I J h hg => Or.inr ?_)
        · rw [cN I h, ← ref I 1 h]
          unfold zR_isNumberTo
          rw [h.2.2.1, if_neg (by rw [jl2, jn_inj (by omega) (by omega)]; exact t2)]
          rfl
        · unfold zM_part
          rw [jm_good hg, Option.bind_some, if_pos (by decide), h.2.2.2.2.1, if_pos (by rw [jl2, jn_inj (by omega) (by omega)]; exact t2), if_pos (by rw [jl1, jn_inj (by omega) (by omega)]; exact t1)]
          rfl
  | true =>
    have t3 := (sgn_t s40).1
    have tz3 := tz1.2.2.1 (by omega)
    have c40 : ∀ I, CL I f n p → zT_isSign (40 : Int32) I = some 1 := fun I h => (jc_isSign h (c := 40) (by decide)).trans (by rw [s40]; rfl)
    have m40 : ∀ I J, ML I J f n p → zM_isSign (40 : Int32) I = some 1 := fun I J h => (jm_isSign h (c := 40) (by decide)).trans (by rw [s40]; rfl)
    -- the reference opens
    have open1 : ∀ I J W tp, EX I J f n p W (ne + 1) tp → W.length + (n - p) ≤ 900 → ∃ I2 J2, EX I2 J2 f n (tz f n p) (W ++ [0]) (ne + 1) tp ∧ (∀ k j, ¬ (k = 76 ∧ ((22 ≤ j ∧ j ≤ 27) ∨ j = 38)) → ¬ k = 96 → I2 k j = I k j) ∧ (∀ k j, ¬ k = 76 → J2 k j = J k j) ∧ ∀ b, zM_operand_75 b I J = (zM_deeper I2).bind fun q12 => some (.inl ((1 : Int32), (1 : Int32), q12, J2)) := fun I J W tp hE hb => by
      obtain ⟨I1, e1, x1, f1⟩ := jm_waitsFor hE (by omega) 0
      obtain ⟨I2, J2, e2, m2, g2, j2⟩ := ML_next x1.1
      refine ⟨I2, J2, EX_go x1 m2 g2, fun k j q1 q2 => by rw [g2 k j (by omega), f1 k j (by omega) q2], j2, fun b => ?_⟩
      have e1 : zM_waitsFor (14 : Int32) I = some I1 := e1
      unfold zM_operand_75 zM_operand_96
      rw [jm_good hE.2.1, Option.bind_some, if_neg (by decide), m40 I J hE.1, Option.bind_some, if_neg (by decide), if_neg (by decide), e1, Option.bind_some, e2, Option.bind_some]
    by_cases h5 : ne = 5
    · subst h5
      refine ⟨.inl (if cBg f n (tz f n p) = true then 2 else 1, ta f n (tz f n p)), ⟨by split <;> omega, by split <;> omega, (ta_sp tz1.2.1).2.1⟩, fun I sz hC h42 hsz => ?_, fun I J W tp hE hw hk' b1 b2 h4 => ?_⟩
      · obtain ⟨I1, e1, c1, f1⟩ := CL_next hC
        obtain ⟨I2, e2, g1, g2, g3⟩ := jc_ref c1 (if cBg f n (tz f n p) = true then 2 else 1)
        refine ⟨I2, ?_, g1, g2, fun a j q1 q2 _ _ => by rw [g3 a j q1, f1 a j q2]⟩
        unfold zR_readPart
        rw [c40 I hC, Option.bind_some, if_neg (by decide), e1, Option.bind_some, show jn 5 + (1 : Int32) = jn 6 from rfl, h6 rfl, jc_canBegin c1, Option.bind_some]
        cases q : cBg f n (tz f n p) with
        | true =>
          rw [q, if_pos rfl] at e2
          have e2 : ((zR_refuse (2 : Int32) I1).bind fun q => if q.1 = 0 ∨ q.1 = 1 then some (q.1, q.2) else none) = some (0, I2) := e2
          rw [if_neg (by decide), e2, Option.bind_some, if_neg (fun h => h rfl)]
        | false =>
          rw [q, if_neg (by decide)] at e2
          have e2 : ((zR_refuse (1 : Int32) I1).bind fun q => if q.1 = 0 ∨ q.1 = 1 then some (q.1, q.2) else none) = some (0, I2) := e2
          rw [if_pos F, e2, Option.bind_some, if_neg (fun h => h rfl)]
      · obtain ⟨I2, J2, x2, f2, j2, e75⟩ := open1 I J W tp hE b1
        have l1 : (W ++ [0]).length = W.length + 1 := List.length_append
        obtain ⟨I3, e3⟩ : ∃ I3, zM_wrong (jn (if cBg f n (tz f n p) = true then 2 else 1)) I2 = some I3 := ⟨_, jm_wrong x2.2.1⟩
        obtain ⟨u1, u2, u3, u4, u5, u6⟩ := jm_flt x2 (wokL_app hw (Or.inl rfl)) (by omega) (by omega) (by split <;> omega) (by split <;> omega) e3
        obtain ⟨w, r1, r2, r3, r4, r5⟩ := jm_badR (J := J2) u1 u4 (wokL_app hw (Or.inl rfl)) (by omega) (by omega)
        have d6 : zM_deeper I2 = some I3 := by rw [jm_deeper6 x2, e3]
        have fz : jfz I I2 := fun k j h1 h2 => f2 k j (fun e => by
          obtain ⟨rfl, e⟩ := e
          have : j = 22 ∨ j = 23 ∨ j = 24 ∨ j = 25 ∨ j = 26 ∨ j = 27 ∨ j = 38 := by omega
          rcases this with rfl | rfl | rfl | rfl | rfl | rfl | rfl <;> cases h1) (fun e => by subst e; cases h1)
        refine ⟨w, fun b M N hM hN => ?_, by rw [r2, u2], by rw [r3, u3], jfz_tr fz (jfz_tr u5 r4), fun k j q => by rw [r5, j2 k j q]⟩
        obtain ⟨M, rfl⟩ : ∃ M', M = M' + 1 := ⟨M - 1, by omega⟩
        rw [e75 b, d6, Option.bind_some]
        unfold mBr
        dsimp only
        have e4 : zM_operand_l4 (M + 1) ((1 : Int32), (1 : Int32), I3, J2) = some (I3, J2) := by
          refine js_0 ?_
          dsimp only
          unfold zM_operand_l4_b
          rw [if_neg (by decide), jm_bad u1, Option.bind_some, if_pos rfl]
        rw [e4, Option.bind_some]
        exact (r1 N (by omega)).2
    · obtain ⟨o, st, cs, rs⟩ := hE (by omega) (tz f n p) tz1.2.1
      -- both go in
      have cIn : ∀ I sz, CL I f n p → I 42 2 = jn sz → ∃ I1, CL I1 f n (tz f n p) ∧ CO sz [] I I1 ∧ zR_readPart R (jn ne) I = (R 98 (jn (ne + 1)) I1).bind fun q11 => if ¬ q11.1 = 0 then (zT_isSign (41 : Int32) q11.2).bind fun q12 => if ¬ q12 = 0 then zR_readPart_122 R q11.2 else (zR_refuse (1 : Int32) q11.2).bind fun q => if q.1 = 0 ∨ q.1 = 1 then some (q.1, q.2) else none else some ((0 : Int32), q11.2) := fun I sz hC h42 => by
        obtain ⟨I1, e1, c1, f1⟩ := CL_next hC
        refine ⟨I1, c1, CO_62 h42 f1, ?_⟩
        unfold zR_readPart
        rw [c40 I hC, Option.bind_some, if_neg (by decide), e1, Option.bind_some, show jn ne + (1 : Int32) = jn (ne + 1) from jn_add _ 1]
      have mIn : ∀ I J W tp, EX I J f n p W (ne + 1) tp → W.length + (n - p) ≤ 900 → ∃ I3 J2, EX I3 J2 f n (tz f n p) (W ++ [0]) (ne + 2) tp ∧ I3 97 (ne + 2) = 0 ∧ jfr (ne + 2) tp I I3 ∧ (∀ k j, ¬ k = 76 → J2 k j = J k j) ∧ (∀ w, RA n 1 (tz f n p) I3 J2 w → RBa n p I J w) := fun I J W tp hE b1 => by
        obtain ⟨I2, J2, x2, f2, j2, e75⟩ := open1 I J W tp hE b1
        obtain ⟨I3, d3, x3, t3, f3⟩ := jm_deeper x2 (by omega)
        refine ⟨I3, J2, x3, t3, fun k j q1 q2 q3 q4 => by rw [f3 k j (by omega) (by omega), f2 k j (by omega) q3], j2, fun w hr b M N hM hN => ?_⟩
        rw [e75 b, d3, Option.bind_some]
        unfold mBr
        exact hr M N (by omega) (by omega)
      cases o with
      | inl ft =>
        obtain ⟨kd, pl⟩ := ft
        refine ⟨.inl (kd, pl), st, fun I sz hC h42 hsz => ?_, fun I J W tp hE hw hk' b1 b2 h4 => ?_⟩
        · obtain ⟨I1, c1, co1, e1⟩ := cIn I sz hC h42
          obtain ⟨I2, e2, g1, g2, g3⟩ := cs I1 sz c1 (by rw [co1.1]; rfl) (by omega)
          refine ⟨I2, ?_, g1, g2, fun a j q1 q2 q3 q4 => by rw [g3 a j q1 q2 q3 q4, co1.2.2.2 a j q2 q3 q4]⟩
          rw [e1, e2, Option.bind_some, if_neg (fun h => h rfl)]
        · obtain ⟨I3, J2, x3, t3, f3, j3, run⟩ := mIn I J W tp hE b1
          have l1 : (W ++ [0]).length = W.length + 1 := List.length_append
          obtain ⟨w, r1, ⟨r2, r3, r4, r5⟩⟩ := rs I3 J2 (W ++ [0]) tp x3 (wokL_app hw (Or.inl rfl)) weak_0 (by omega) (by omega) (fun _ => t3)
          exact ⟨w, run w r1, r2, r3, jfz_tr (jfz_fr f3) r4, fun k j q => by rw [r5 k j q, j3 k j q]⟩
      | inr ok =>
        obtain ⟨s, p2⟩ := ok
        obtain ⟨a1, a2, a3, a4, a5, a6⟩ := st
        have tz2 := tz_sp (f := f) a2
        have ta2 := ta_sp (f := f) a2
        have ho : ∀ (I : iq_I), tcx f n p2 (ne + 2) I → ∀ k x, opk f n p2 = some (k, x) → k = 4 ∧ ¬ I 97 (ne + 2) = 0 := fun I ht k x h => by
          have o := opk_w h
          rcases a6 k x h with q | q
          · omega
          · refine ⟨q.2, fun z => ht z x (by rw [h, q.2])⟩
        have bd : Bd ne 7 = Bd (ne + 1) 1 := by unfold Bd; omega
        cases s41 : sgn f n p2 41 with
        | true =>
          have t3' := (sgn_t s41).1
          have tz4 := tz2.2.2.1 (by omega)
          refine ⟨.inr (s, tz f n p2), ⟨by omega, tz2.2.1, by omega, a4, fun dd hdd => a5 dd (by omega), fun k' x' h => Or.inl (by have := opk_w h; omega)⟩, fun I sz hC h42 hsz => ?_, fun I J W tp hE hw hk' b1 b2 h4 => ?_⟩
          · obtain ⟨I1, c1, co1, e1⟩ := cIn I sz hC h42
            obtain ⟨I2, e2, c2, co2⟩ := cs I1 sz c1 (by rw [co1.1]; rfl) (by omega)
            obtain ⟨I3, e3, c3, f3⟩ := CL_next c2
            have c41 : zT_isSign (41 : Int32) I2 = some 1 := (jc_isSign c2 (c := 41) (by decide)).trans (by rw [s41]; rfl)
            refine ⟨I3, ?_, c3, ?_⟩
            · rw [e1, e2, Option.bind_some, if_pos (show ¬ (1 : Int32) = 0 by decide), c41, Option.bind_some, if_pos (by decide)]
              unfold zR_readPart_122
              rw [e3, Option.bind_some]
            · have := CO_tr co1 (CO_tr co2 (CO_62 co2.1 f3))
              rwa [List.nil_append, List.append_nil] at this
          · obtain ⟨I3, J2, x3, t3, f3, j3, run⟩ := mIn I J W tp hE b1
            have l1 : (W ++ [0]).length = W.length + 1 := List.length_append
            obtain ⟨s0, P, I4, J4, r1, r2, r3, r4, r5, r6, r7, r8, r9, r10, r11⟩ := rs I3 J2 (W ++ [0]) tp x3 (wokL_app hw (Or.inl rfl)) weak_0 (by omega) (by omega) (fun _ => t3)
            have l2 : (W ++ [0] ++ P).length = W.length + 1 + P.length := by rw [List.length_append, l1]
            obtain ⟨I5, J5, u1, u2, u3, u4, u5⟩ := jm_closes (d := ne + 1) r3 hw (fun x hx => (r2 x hx).1) (by omega) (by omega) (by omega)
            have body : zM_expression_l29_b (1 : Int32) I4 J4 = some (.inl ((1 : Int32), I5, J5)) := by
              rw [jm_body_end r3 (by omega) (ho I4 (r8 (by omega))), if_neg (by rw [s41]; decide), jm_isOpened1 (WO_of r3) (fun x hx => (r2 x hx).1) (by omega), Option.bind_some, if_neg (by decide), u1, Option.bind_some]
            have jl : (jes P.reverse).length = P.length := by rw [jes_op _ (fun y hy => (r2 y (List.mem_reverse.mp hy)).1), List.length_reverse]
            have jA : (jes s).length = (jes s0).length + P.length := by rw [r1, jes_app, List.length_append, jl]
            refine ⟨s, [], I5, J5, by rw [List.reverse_nil, List.append_nil], (fun y hy => by cases hy), ?_, fun i hi => ?_, ?_, fun k j q => by rw [u5 k j q, r6 k j q, j3 k j q], fun _ => ?_, fun h => by omega, by rw [jA]; show _ + 0 ≤ _; omega, Nat.zero_le _, fun w hw' => run w (r11 w (jm_RM1 (by omega) body tz2.2.1 hw'))⟩
            · rw [List.append_nil, jA, ← Nat.add_assoc]; exact u2
            · rw [jA] at hi
              rw [r1, jes_app]
              by_cases q : i < (jes s0).length
              · rw [u4 95 _ (by omega) (by omega), r4 i q, jgd_l q]
              · rw [show tp + i = tp + (jes s0).length + (i - (jes s0).length) by omega, u3 _ (by omega), jgd_r (by omega)]
            · intro k j q1 q2 q3 q4
              rw [u4 k j (by omega) (by omega), r5 k j q1 q2 q3 (by omega), f3 k j q1 q2 q3 (by omega)]
            · rw [u4 97 _ (by omega) (by omega), r5 97 _ (by omega) (by omega) (by omega) (by omega), f3 97 _ (by omega) (by omega) (by omega) (by omega)]
        | false =>
          refine ⟨.inl (1, ta f n p2), ⟨by decide, by decide, ta2.2.1⟩, fun I sz hC h42 hsz => ?_, fun I J W tp hE hw hk' b1 b2 h4 => ?_⟩
          · obtain ⟨I1, c1, co1, e1⟩ := cIn I sz hC h42
            obtain ⟨I2, e2, c2, co2⟩ := cs I1 sz c1 (by rw [co1.1]; rfl) (by omega)
            obtain ⟨I3, e3, g1, g2, g3⟩ := jc_ref c2 1
            have c41 : zT_isSign (41 : Int32) I2 = some 0 := (jc_isSign c2 (c := 41) (by decide)).trans (by rw [s41]; rfl)
            have e3 : ((zR_refuse (1 : Int32) I2).bind fun q => if q.1 = 0 ∨ q.1 = 1 then some (q.1, q.2) else none) = some (0, I3) := e3
            refine ⟨I3, ?_, g1, g2, fun a j q1 q2 q3 q4 => by rw [g3 a j q1, co2.2.2.2 a j q2 q3 q4, co1.2.2.2 a j q2 q3 q4]⟩
            rw [e1, e2, Option.bind_some, if_pos (show ¬ (1 : Int32) = 0 by decide), c41, Option.bind_some, if_neg (fun h => h rfl), e3]
          · obtain ⟨I3, J2, x3, t3, f3, j3, run⟩ := mIn I J W tp hE b1
            have l1 : (W ++ [0]).length = W.length + 1 := List.length_append
            obtain ⟨s0, P, I4, J4, r1, r2, r3, r4, r5, r6, r7, r8, r9, r10, r11⟩ := rs I3 J2 (W ++ [0]) tp x3 (wokL_app hw (Or.inl rfl)) weak_0 (by omega) (by omega) (fun _ => t3)
            have l2 : (W ++ [0] ++ P).length = W.length + 1 + P.length := by rw [List.length_append, l1]
            have wk : wokL (W ++ [0] ++ P) := fun y hy => by
              rcases List.mem_append.mp hy with q | q
              · exact wokL_app hw (Or.inl rfl) y q
              · exact Or.inr (r2 y q).1
            have body : zM_expression_l29_b (1 : Int32) I4 J4 = some (.inl ((0 : Int32), I4, J4)) := by
              rw [jm_body_end r3 (by omega) (ho I4 (r8 (by omega))), if_pos s41]
            obtain ⟨I5, e5⟩ : ∃ I5, zM_wrong (jn 1) I4 = some I5 := ⟨_, jm_wrong r3.2.1⟩
            obtain ⟨u1, u2, u3, u4, u5, u6⟩ := jm_flt r3 wk (by omega) (by omega) (by decide) (by decide) e5
            obtain ⟨I6, v1, v2⟩ := jm_345 (J := J4) u4 wk (by omega) (by omega)
            have run4 : RM n p2 I4 J4 (I6, J4) := fun N hN => by
              rw [jm_stop body N (by omega)]
              unfold zM_expression_325
              have e5 : zM_wrong (1 : Int32) I4 = some I5 := e5
              rw [jm_good r3.2.1, Option.bind_some, if_neg (by decide), r3.2.2.2.2.1, if_neg (by rw [jl1, jn_le (by omega) (by omega)]; omega), e5, Option.bind_some, v1]
            refine ⟨(I6, J4), run _ (r11 _ run4), (v2 _ _ (by omega) (by omega)).trans u2, (v2 _ _ (by omega) (by omega)).trans u3, jfz_tr (jfz_fr f3) (jfz_tr (jfz_fr r5) (jfz_tr u5 (fun k j h1 h2 => v2 k j ?_ ?_))), fun k j q => (r6 k j q).trans (j3 k j q)⟩
            · rintro ⟨rfl, rfl | rfl⟩ <;> cases h1
            · rintro ⟨rfl, -⟩; cases h1
