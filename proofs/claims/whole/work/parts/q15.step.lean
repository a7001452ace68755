/-! ===== one step of the abstract machine ===== -/
section One15
variable {p : Program} {l : Launch} {e : Env} {R : Room} {s : State} {m : MethodId} {args : Array Value} {below : List Frame} {meth : Method} {c : Code} {Q : State → Prop} {G : iq_G} {mi c0 s0 pc : Nat} {L : iq_L} {S : List Value} {M : iq_M} {o : iq_S ⊕ (iq_R × iq_M)}
theorem iq_lenq {i : Instr} {len n : Nat} (h : iq_lo i len = true) (hn : ∀ k, iq_lo i k = Nat.beq n k) : len = n := by
  rw [hn] at h
  exact (Nat.eq_of_beq_eq_true h).symm
set_option maxHeartbeats 4000000 in
theorem iq_sound1 (C : iq_Cx G p s m args meth c R mi) (hSt : iq_St G s s.heap) (hdec : ∀ e ∈ iq_tab mi, decode (iq_cc mi) e.1 = .ok e.2) (htab : c.exceptionTable.toList = tableOf (iq_hh mi)) (hct : ∀ e ∈ iq_cls (iq_ow mi), e.1 ≠ 0) (hrt : iq_rtk (iq_rt mi) (iq_rty mi)) {d : Nat} {K : iq_K} (hK : iq_KOK l G d K) (hKk : ∀ (cal : Nat) (as : List Value) (M : iq_M) (r : iq_R) (M' : iq_M), (∃ n, M.1[0]? = some (103, [n])) → K cal as M = some (r, M') → ∀ k, r = .inr k → k < 2) (hRd : 20 + d + 1 ≤ R.frames ∧ 300 + 40 * (d + 1) ≤ R.locals)
    (hnest : ∀ own idx' y, Cond.methodLinkNest own idx' y "OpenSaying" ∈ lw_tbl → Cond.methodLinkNest own idx' y "OpenSaying" ∈ iq_V) (hTH : iq_TH l G)
    {i : Instr} {len : Nat} (hd : decode (iq_cc mi) pc = .ok (i, len)) (hlo : iq_lo i len = true)
    (ho : iq_ex K (iq_tab mi) (iq_ow mi) (iq_hh mi) (iq_rt mi) (iq_ini mi) (iq_isL mi) pc len L S M i = some o) (hc : ∀ σ, o = .inl σ → iq_W p l e R s m args below meth c Q G (iq_ml mi) c0 s0 σ) (hE : ∀ r M', o = .inr (r, M') → iq_End p l e R s m args below meth c Q G mi c0 s0 r M')
    (hroom : ∀ σ, o = .inl σ → σ.2.2.2.2.2.2.1 ≤ c0 + R.cells ∧ σ.2.2.2.2.2.2.2.1 ≤ s0 + R.slots) (hroomR : ∀ r M', o = .inr (r, M') → M'.2.2.2.1 ≤ c0 + R.cells ∧ M'.2.2.2.2.1 ≤ s0 + R.slots)
    (hscrA : ∀ (i : Int32) (n : List Nat) (r : Nat) (S' : List Value), iq_isL mi = true → S = .int i :: .ref 0 :: S' → M.1[0]? = some (r, n) → iq_in i (n.headD 0) → decode (iq_cc mi) pc = .ok (.iaload, 1) → iq_W p l e R s m args below meth c Q G (iq_ml mi) c0 s0 (pc + 1, L, .int (M.2.1 0 i.toNatClampNeg) :: S', M) → iq_W p l e R s m args below meth c Q G (iq_ml mi) c0 s0 (pc, L, S, M))
    (hscrL : ∀ (n : List Nat) (r : Nat) (S' : List Value), iq_isL mi = true → S = .ref 0 :: S' → M.1[0]? = some (r, n) → decode (iq_cc mi) pc = .ok (.arraylength, 1) → iq_W p l e R s m args below meth c Q G (iq_ml mi) c0 s0 (pc + 1, L, .int (Int32.ofNat (n.headD 0)) :: S', M) → iq_W p l e R s m args below meth c Q G (iq_ml mi) c0 s0 (pc, L, S, M)) :
    iq_W p l e R s m args below meth c Q G (iq_ml mi) c0 s0 (pc, L, S, M) := by
  cases i with
  | iconst n =>
    have hl := iq_lenq (n := 1) hlo (fun _ => rfl)
    subst hl
    exact iq_x_iconst C hd (hc _ (iq_pu_inl ho))
  | bipush n =>
    have hl := iq_lenq (n := 2) hlo (fun _ => rfl)
    subst hl
    exact iq_x_bipush C hd (hc _ (iq_pu_inl ho))
  | sipush n =>
    have hl := iq_lenq (n := 3) hlo (fun _ => rfl)
    subst hl
    exact iq_x_sipush C hd (hc _ (iq_pu_inl ho))
  | lconst n =>
    have hl := iq_lenq (n := 1) hlo (fun _ => rfl)
    subst hl
    exact iq_x_lconst C hd (hc _ (iq_pu_inl ho))
  | ldc idx =>
    have hl := iq_lenq (n := 2) hlo (fun _ => rfl)
    subst hl
    simp only [iq_ex] at ho
    split at ho
    · rename_i v hv
      exact iq_x_ldc C hSt hd hv (hc _ (iq_pu_inl ho))
    · cases ho
  | ldc_w idx =>
    have hl := iq_lenq (n := 3) hlo (fun _ => rfl)
    subst hl
    simp only [iq_ex] at ho
    split at ho
    · rename_i v hv
      exact iq_x_ldcw C hSt hd hv (hc _ (iq_pu_inl ho))
    · cases ho
  | ldc2_w idx =>
    have hl := iq_lenq (n := 3) hlo (fun _ => rfl)
    subst hl
    simp only [iq_ex] at ho
    split at ho
    · rename_i v hv
      exact iq_x_ldc2 C hd hv (hc _ (iq_pu_inl ho))
    · cases ho
  | iload j =>
    have hl := iq_lenq (n := 2) hlo (fun _ => rfl)
    subst hl
    exact iq_x_load C (w := 0) ho hc (fun x h H locs ls hl k => lv_iload C.1 C.2.1 hd hl k) (fun x h H locs ls hl k => absurd h (by decide)) (fun x h H locs ls hl k => absurd h (by decide))
  | iload_n j =>
    have hl := iq_lenq (n := 1) hlo (fun _ => rfl)
    subst hl
    exact iq_x_load C (w := 0) (i := j.val) ho hc (fun x h H locs ls hl k => lv_iload_n C.1 C.2.1 hd rfl hl k) (fun x h H locs ls hl k => absurd h (by decide)) (fun x h H locs ls hl k => absurd h (by decide))
  | istore j =>
    have hl := iq_lenq (n := 2) hlo (fun _ => rfl)
    subst hl
    exact iq_x_store C (w := 0) ho hc (fun x rest h hi H locs ls lv hl k => lv_istore C.1 C.2.1 hd hl hi rfl k) (fun x rest h hi H locs ls lv hl k => absurd h (by decide)) (fun x rest h hi H locs ls lv hl k => absurd h (by decide))
  | istore_n j =>
    have hl := iq_lenq (n := 1) hlo (fun _ => rfl)
    subst hl
    exact iq_x_store C (w := 0) (i := j.val) ho hc (fun x rest h hi H locs ls lv hl k => lv_istore_n C.1 C.2.1 hd rfl hl hi rfl k) (fun x rest h hi H locs ls lv hl k => absurd h (by decide)) (fun x rest h hi H locs ls lv hl k => absurd h (by decide))
  | lload j =>
    have hl := iq_lenq (n := 2) hlo (fun _ => rfl)
    subst hl
    exact iq_x_load C (w := 1) ho hc (fun x h H locs ls hl k => absurd h (by decide)) (fun x h H locs ls hl k => lv_lload C.1 C.2.1 hd hl k) (fun x h H locs ls hl k => absurd h (by decide))
  | lload_n j =>
    have hl := iq_lenq (n := 1) hlo (fun _ => rfl)
    subst hl
    exact iq_x_load C (w := 1) (i := j.val) ho hc (fun x h H locs ls hl k => absurd h (by decide)) (fun x h H locs ls hl k => lv_lload_n C.1 C.2.1 hd rfl hl k) (fun x h H locs ls hl k => absurd h (by decide))
  | lstore j =>
    have hl := iq_lenq (n := 2) hlo (fun _ => rfl)
    subst hl
    exact iq_x_store C (w := 1) ho hc (fun x rest h hi H locs ls lv hl k => absurd h (by decide)) (fun x rest h hi H locs ls lv hl k => lv_lstore C.1 C.2.1 hd hl hi rfl k) (fun x rest h hi H locs ls lv hl k => absurd h (by decide))
  | lstore_n j =>
    have hl := iq_lenq (n := 1) hlo (fun _ => rfl)
    subst hl
    exact iq_x_store C (w := 1) (i := j.val) ho hc (fun x rest h hi H locs ls lv hl k => absurd h (by decide)) (fun x rest h hi H locs ls lv hl k => lv_lstore_n C.1 C.2.1 hd rfl hl hi rfl k) (fun x rest h hi H locs ls lv hl k => absurd h (by decide))
  | aload j =>
    have hl := iq_lenq (n := 2) hlo (fun _ => rfl)
    subst hl
    exact iq_x_load C (w := 2) ho hc (fun x h H locs ls hl k => absurd h (by decide)) (fun x h H locs ls hl k => absurd h (by decide)) (fun x h H locs ls hl k => lv_aload C.1 C.2.1 hd hl k)
  | aload_n j =>
    have hl := iq_lenq (n := 1) hlo (fun _ => rfl)
    subst hl
    exact iq_x_load C (w := 2) (i := j.val) ho hc (fun x h H locs ls hl k => absurd h (by decide)) (fun x h H locs ls hl k => absurd h (by decide)) (fun x h H locs ls hl k => lv_aload_n C.1 C.2.1 hd rfl hl k)
  | astore j =>
    have hl := iq_lenq (n := 2) hlo (fun _ => rfl)
    subst hl
    exact iq_x_store C (w := 2) ho hc (fun x rest h hi H locs ls lv hl k => absurd h (by decide)) (fun x rest h hi H locs ls lv hl k => absurd h (by decide)) (fun x rest h hi H locs ls lv hl k => lv_astore C.1 C.2.1 hd hl hi rfl k)
  | astore_n j =>
    have hl := iq_lenq (n := 1) hlo (fun _ => rfl)
    subst hl
    exact iq_x_store C (w := 2) (i := j.val) ho hc (fun x rest h hi H locs ls lv hl k => absurd h (by decide)) (fun x rest h hi H locs ls lv hl k => absurd h (by decide)) (fun x rest h hi H locs ls lv hl k => lv_astore_n C.1 C.2.1 hd rfl hl hi rfl k)
  | iinc j n =>
    have hl := iq_lenq (n := 3) hlo (fun _ => rfl)
    subst hl
    simp only [iq_ex] at ho
    split at ho
    · rename_i x _ hx hb
      exact iq_x_iinc C hd hx (iq_blt hb) (hc _ (iq_pu_inl ho))
    · cases ho
  | iadd =>
    have hl := iq_lenq (n := 1) hlo (fun _ => rfl)
    subst hl
    exact iq_x_b2 ho hc (fun x y rest H locs ls k => lv_iadd C.1 C.2.1 hd k)
  | isub =>
    have hl := iq_lenq (n := 1) hlo (fun _ => rfl)
    subst hl
    exact iq_x_b2 ho hc (fun x y rest H locs ls k => lv_isub C.1 C.2.1 hd k)
  | imul =>
    have hl := iq_lenq (n := 1) hlo (fun _ => rfl)
    subst hl
    exact iq_x_b2 ho hc (fun x y rest H locs ls k => lv_imul C.1 C.2.1 hd k)
  | iand =>
    have hl := iq_lenq (n := 1) hlo (fun _ => rfl)
    subst hl
    exact iq_x_b2 ho hc (fun x y rest H locs ls k => lv_iand C.1 C.2.1 hd k)
  | ior =>
    have hl := iq_lenq (n := 1) hlo (fun _ => rfl)
    subst hl
    exact iq_x_b2 ho hc (fun x y rest H locs ls k => lv_ior C.1 C.2.1 hd k)
  | ixor =>
    have hl := iq_lenq (n := 1) hlo (fun _ => rfl)
    subst hl
    exact iq_x_b2 ho hc (fun x y rest H locs ls k => lv_ixor C.1 C.2.1 hd k)
  | ishl =>
    have hl := iq_lenq (n := 1) hlo (fun _ => rfl)
    subst hl
    exact iq_x_b2 ho hc (fun x y rest H locs ls k => lv_ishl C.1 C.2.1 hd k)
  | ishr =>
    have hl := iq_lenq (n := 1) hlo (fun _ => rfl)
    subst hl
    exact iq_x_b2 ho hc (fun x y rest H locs ls k => lv_ishr C.1 C.2.1 hd k)
  | iushr =>
    have hl := iq_lenq (n := 1) hlo (fun _ => rfl)
    subst hl
    exact iq_x_b2 ho hc (fun x y rest H locs ls k => lv_iushr C.1 C.2.1 hd rfl k)
  | idiv =>
    have hl := iq_lenq (n := 1) hlo (fun _ => rfl)
    subst hl
    simp only [iq_ex] at ho
    split at ho
    · split at ho
      · cases ho
      · rename_i hy
        cases ho
        exact fun H locs ls hR hL => lv_idiv C.1 C.2.1 hd hy (hc _ rfl H locs ls hR hL)
    · cases ho
  | irem =>
    have hl := iq_lenq (n := 1) hlo (fun _ => rfl)
    subst hl
    simp only [iq_ex] at ho
    split at ho
    · split at ho
      · cases ho
      · rename_i hy
        cases ho
        exact fun H locs ls hR hL => lv_irem C.1 C.2.1 hd hy (hc _ rfl H locs ls hR hL)
    · cases ho
  | ladd =>
    have hl := iq_lenq (n := 1) hlo (fun _ => rfl)
    subst hl
    exact iq_x_l2 ho hc (fun x y rest H locs ls k => lv_ladd C.1 C.2.1 hd k)
  | lsub =>
    have hl := iq_lenq (n := 1) hlo (fun _ => rfl)
    subst hl
    exact iq_x_l2 ho hc (fun x y rest H locs ls k => lv_lsub C.1 C.2.1 hd k)
  | lmul =>
    have hl := iq_lenq (n := 1) hlo (fun _ => rfl)
    subst hl
    exact iq_x_l2 ho hc (fun x y rest H locs ls k => lv_lmul C.1 C.2.1 hd k)
  | lor =>
    have hl := iq_lenq (n := 1) hlo (fun _ => rfl)
    subst hl
    exact iq_x_l2 ho hc (fun x y rest H locs ls k => lv_lor C.1 C.2.1 hd k)
  | lshl =>
    have hl := iq_lenq (n := 1) hlo (fun _ => rfl)
    subst hl
    simp only [iq_ex] at ho
    split at ho
    · cases ho
      exact fun H locs ls hR hL => lv_lshl C.1 C.2.1 hd rfl (hc _ rfl H locs ls hR hL)
    · cases ho
  | lcmp =>
    have hl := iq_lenq (n := 1) hlo (fun _ => rfl)
    subst hl
    simp only [iq_ex] at ho
    split at ho
    · cases ho
      exact fun H locs ls hR hL => W.lcmp C.1 C.2.1 hd (hc _ rfl H locs ls hR hL)
    · cases ho
  | i2l =>
    have hl := iq_lenq (n := 1) hlo (fun _ => rfl)
    subst hl
    simp only [iq_ex] at ho
    split at ho
    · cases ho
      exact fun H locs ls hR hL => lv_i2l C.1 C.2.1 hd rfl (hc _ rfl H locs ls hR hL)
    · cases ho
  | i2c =>
    have hl := iq_lenq (n := 1) hlo (fun _ => rfl)
    subst hl
    simp only [iq_ex] at ho
    split at ho
    · cases ho
      exact fun H locs ls hR hL => lv_i2c C.1 C.2.1 hd rfl (hc _ rfl H locs ls hR hL)
    · cases ho
  | i2b =>
    have hl := iq_lenq (n := 1) hlo (fun _ => rfl)
    subst hl
    simp only [iq_ex] at ho
    split at ho
    · cases ho
      exact fun H locs ls hR hL => lv_i2b C.1 C.2.1 hd rfl (hc _ rfl H locs ls hR hL)
    · cases ho
  | dup =>
    have hl := iq_lenq (n := 1) hlo (fun _ => rfl)
    subst hl
    simp only [iq_ex] at ho
    split at ho
    · cases ho
      exact fun H locs ls hR hL => lv_dup C.1 C.2.1 hd rfl (hc _ rfl H locs ls hR hL)
    · rename_i x S'
      split at ho
      · rename_i h7
        cases ho
        intro H locs ls hR hL
        have e1 : iq_cv G (.ref x) = .ref (iq_ad G x) := by simp [iq_cv, Nat.ne_of_beq_eq_false h7]
        have K := hc _ rfl H locs ls hR hL
        simp only [List.map_cons, e1] at K ⊢
        exact lv_dup C.1 C.2.1 hd rfl K
      · cases ho
    · cases ho
  | dup2 =>
    have hl := iq_lenq (n := 1) hlo (fun _ => rfl)
    subst hl
    simp only [iq_ex] at ho
    split at ho
    · rename_i x y S'
      split at ho
      · rename_i h7
        cases ho
        intro H locs ls hR hL
        have e1 : iq_cv G (.ref y) = .ref (iq_ad G y) := by simp [iq_cv, Nat.ne_of_beq_eq_false h7]
        have K := hc _ rfl H locs ls hR hL
        simp only [List.map_cons, e1] at K ⊢
        exact lv_dup2_11 C.1 C.2.1 hd rfl rfl K
      · cases ho
    · cases ho
  | pop =>
    have hl := iq_lenq (n := 1) hlo (fun _ => rfl)
    subst hl
    simp only [iq_ex] at ho
    split at ho
    · cases ho
      exact fun H locs ls hR hL => lv_pop C.1 C.2.1 hd rfl (hc _ rfl H locs ls hR hL)
    · cases ho
  | goto off =>
    have hl := iq_lenq (n := 3) hlo (fun _ => rfl)
    subst hl
    simp only [iq_ex] at ho
    split at ho
    · rename_i t ht
      cases ho
      exact fun H locs ls hR hL => lv_goto C.1 C.2.1 hd (iq_tg_eq ht) (hc _ rfl H locs ls hR hL)
    · cases ho
  | ifCond cd off =>
    have hl := iq_lenq (n := 3) hlo (fun _ => rfl)
    subst hl
    simp only [iq_ex] at ho
    split at ho
    · split at ho
      · exact iq_x_br ho hc (fun t ht H locs ls kt kf => lv_if_eq C.1 C.2.1 hd (iq_tg_eq ht) kt kf)
      · exact iq_x_br ho hc (fun t ht H locs ls kt kf => lv_if_ne C.1 C.2.1 hd (iq_tg_eq ht) kt (fun h => kf (fun hn => hn h)))
      · exact iq_x_br ho hc (fun t ht H locs ls kt kf => lv_if_lt C.1 C.2.1 hd (iq_tg_eq ht) kt kf)
      · exact iq_x_br ho hc (fun t ht H locs ls kt kf => lv_if_ge C.1 C.2.1 hd (iq_tg_eq ht) kt kf)
      · exact iq_x_br ho hc (fun t ht H locs ls kt kf => lv_if_gt C.1 C.2.1 hd (iq_tg_eq ht) kt kf)
      · exact iq_x_br ho hc (fun t ht H locs ls kt kf => lv_if_le C.1 C.2.1 hd (iq_tg_eq ht) kt kf)
    · cases ho
  | if_icmp cd off =>
    have hl := iq_lenq (n := 3) hlo (fun _ => rfl)
    subst hl
    simp only [iq_ex] at ho
    split at ho
    · split at ho
      · exact iq_x_br ho hc (fun t ht H locs ls kt kf => lv_icmp_eq C.1 C.2.1 hd (iq_tg_eq ht) kt kf)
      · exact iq_x_br ho hc (fun t ht H locs ls kt kf => lv_icmp_ne C.1 C.2.1 hd (iq_tg_eq ht) kt (fun h => kf (fun hn => hn h)))
      · exact iq_x_br ho hc (fun t ht H locs ls kt kf => lv_icmp_lt C.1 C.2.1 hd (iq_tg_eq ht) kt kf)
      · exact iq_x_br ho hc (fun t ht H locs ls kt kf => lv_icmp_ge C.1 C.2.1 hd (iq_tg_eq ht) kt kf)
      · exact iq_x_br ho hc (fun t ht H locs ls kt kf => lv_icmp_gt C.1 C.2.1 hd (iq_tg_eq ht) kt kf)
      · exact iq_x_br ho hc (fun t ht H locs ls kt kf => lv_icmp_le C.1 C.2.1 hd (iq_tg_eq ht) kt kf)
    · cases ho
  | tableswitch dd lo hi offs =>
    simp only [iq_ex] at ho
    split at ho
    · split at ho
      · rename_i h1 h2 h3 h4
        exact iq_x_switch C hd (of_decide_eq_true h1) (of_decide_eq_true h2) (of_decide_eq_true h3) (of_decide_eq_true h4) ho hc
      · cases ho
    · cases ho
  | getfield idx =>
    have hl := iq_lenq (n := 3) hlo (fun _ => rfl)
    subst hl
    exact iq_x_gf C hd ho hc (iq_x_gfS C hSt hd)
  | putfield idx =>
    have hl := iq_lenq (n := 3) hlo (fun _ => rfl)
    subst hl
    exact iq_x_pf C hd ho hc
  | getstatic idx =>
    have hl := iq_lenq (n := 3) hlo (fun _ => rfl)
    subst hl
    simp only [iq_ex] at ho
    split at ho
    · rename_i v hv
      cases ho
      exact iq_x_gets C hSt hd hv (hc _ rfl)
    · cases ho
  | iaload =>
    have hl := iq_lenq (n := 1) hlo (fun _ => rfl)
    subst hl
    exact iq_x_al (w := 100) C (Or.inl rfl) (fun _ => hd) (fun h => absurd h (by decide)) (fun h => absurd h (by decide)) ho hc (fun i n r S' _ h1 h2 h3 h4 => hscrA i n r S' h1 h2 h3 h4 hd) (fun i k t S' h => absurd h (by decide))
  | laload =>
    have hl := iq_lenq (n := 1) hlo (fun _ => rfl)
    subst hl
    exact iq_x_al (w := 101) C (Or.inr (Or.inl rfl)) (fun h => absurd h (by decide)) (fun _ => hd) (fun h => absurd h (by decide)) ho hc (fun i n r S' h => absurd h (by decide)) (fun i k t S' h => absurd h (by decide))
  | baload =>
    have hl := iq_lenq (n := 1) hlo (fun _ => rfl)
    subst hl
    exact iq_x_al (w := 102) C (Or.inr (Or.inr rfl)) (fun h => absurd h (by decide)) (fun h => absurd h (by decide)) (fun _ => hd) ho hc (fun i n r S' h => absurd h (by decide)) (fun i k t S' _ => iq_x_alB C hSt hd i k t S')
  | iastore =>
    have hl := iq_lenq (n := 1) hlo (fun _ => rfl)
    subst hl
    exact iq_x_as (w := 100) C (fun _ => hd) (fun h => absurd h (by decide)) (fun h => absurd h (by decide)) ho hc
  | lastore =>
    have hl := iq_lenq (n := 1) hlo (fun _ => rfl)
    subst hl
    exact iq_x_as (w := 101) C (fun h => absurd h (by decide)) (fun _ => hd) (fun h => absurd h (by decide)) ho hc
  | bastore =>
    have hl := iq_lenq (n := 1) hlo (fun _ => rfl)
    subst hl
    exact iq_x_as (w := 102) C (fun h => absurd h (by decide)) (fun h => absurd h (by decide)) (fun _ => hd) ho hc
  | arraylength =>
    have hl := iq_lenq (n := 1) hlo (fun _ => rfl)
    subst hl
    exact iq_x_len C hd ho hc (fun n r S' h1 h2 h3 => hscrL n r S' h1 h2 h3 hd) (iq_x_lenB C hSt hd)
  | new idx =>
    have hl := iq_lenq (n := 3) hlo (fun _ => rfl)
    subst hl
    simp only [iq_ex] at ho
    split at ho
    · rename_i ci hci
      have go : ∀ kd, kd < 2 → iq_lk (iq_cls (iq_ow mi)) idx = some (50 + kd) → iq_hh mi = [] → iq_th (iq_tab mi) (iq_ow mi) kd pc M = some o → iq_W p l e R s m args below meth c Q G (iq_ml mi) c0 s0 (pc, L, [], M) := by
        intro kd hkd hlk hh hth H locs ls hR hL
        have ho' := iq_th_inr hth
        have hQ := (hE _ _ ho').2 kd rfl
        have hr := hroomR _ _ ho'
        rw [ho'] at hth
        rw [hQ]
        exact hTH p e R s m args below meth c mi c0 s0 pc idx kd M _ H locs ls C hSt hdec (by rw [htab, hh]; rfl) hd hkd hlk hth hR (by rw [C.2.2.1]; exact hL.2.1) hr.1 hr.2
      split at ho
      · split at ho
        · rename_i hh
          exact go 0 (by decide) hci hh ho
        · cases ho
      · split at ho
        · rename_i hh
          exact go 1 (by decide) hci hh ho
        · cases ho
      · rename_i h50 h51
        refine iq_x_new C hd hci ho hc (fun CC TT N hcl => ?_) (fun fs => iq_born_ok) hroom
        rcases iq_cls_ok _ _ (iq_lk_mem hci) with ⟨h1, -⟩ | ⟨h1, -⟩ | ⟨CC', TT', N', h1, h2, h3, h4⟩
        · exact absurd h1 h50
        · exact absurd h1 h51
        · simp only at h1
          rw [h1] at hcl
          cases hcl
          exact ⟨h2, h3, h4⟩
    · cases ho
  | newarray t =>
    have hl := iq_lenq (n := 2) hlo (fun _ => rfl)
    subst hl
    simp only [iq_ex] at ho
    split at ho
    · exact iq_x_na C (Or.inl ⟨rfl, rfl⟩) hd ho hc hroom
    · exact iq_x_na C (Or.inr (Or.inl ⟨rfl, rfl⟩)) hd ho hc hroom
    · exact iq_x_na C (Or.inr (Or.inr ⟨rfl, rfl⟩)) hd ho hc hroom
    · cases ho
  | invokevirtual idx =>
    have hl := iq_lenq (n := 3) hlo (fun _ => rfl)
    subst hl
    exact iq_x_call (w := 0) C hSt hdec htab hct hK hKk hRd hnest (fun _ => hd) (fun h => absurd h (by decide)) (fun h => absurd h (by decide)) ho hc hE hroom hroomR
  | invokestatic idx =>
    have hl := iq_lenq (n := 3) hlo (fun _ => rfl)
    subst hl
    exact iq_x_call (w := 1) C hSt hdec htab hct hK hKk hRd hnest (fun h => absurd h (by decide)) (fun _ => hd) (fun h => absurd h (by decide)) ho hc hE hroom hroomR
  | invokespecial idx =>
    have hl := iq_lenq (n := 3) hlo (fun _ => rfl)
    subst hl
    exact iq_x_call (w := 2) C hSt hdec htab hct hK hKk hRd hnest (fun h => absurd h (by decide)) (fun h => absurd h (by decide)) (fun _ => hd) ho hc hE hroom hroomR
  | ireturn =>
    have hl := iq_lenq (n := 1) hlo (fun _ => rfl)
    subst hl
    exact iq_x_ret (w := 0) hrt (fun _ => hd) (fun h => absurd h (by decide)) (fun h => absurd h (by decide)) ho hE
  | lreturn =>
    have hl := iq_lenq (n := 1) hlo (fun _ => rfl)
    subst hl
    exact iq_x_ret (w := 1) hrt (fun h => absurd h (by decide)) (fun _ => hd) (fun h => absurd h (by decide)) ho hE
  | return_ =>
    have hl := iq_lenq (n := 1) hlo (fun _ => rfl)
    subst hl
    exact iq_x_ret (w := 2) hrt (fun h => absurd h (by decide)) (fun h => absurd h (by decide)) (fun _ => hd) ho hE
  | _ => exact absurd ho (by simp [iq_ex])
end One15
