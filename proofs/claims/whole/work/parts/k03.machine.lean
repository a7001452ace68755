/-! ===== the abstract machine: ids for cells, ints and longs by id and slot; refs never change once a constructor has set them ===== -/
/-- shapes; ints; longs; cells made; slots made; has an exception been made -/
abbrev iq_M : Type := List (Nat × List Nat) × (Nat → Nat → Int32) × (Nat → Nat → Int64) × Nat × Nat × Bool
/-- returned (a value or none), or thrown (0: NoSuchElementException, 1: IllegalArgumentException) -/
abbrev iq_R : Type := Option Value ⊕ Nat
abbrev iq_L : Type := List (Option Value)
abbrev iq_S : Type := Nat × iq_L × List Value × iq_M
abbrev iq_O : Type := Option (iq_S ⊕ (iq_R × iq_M))
abbrev iq_K : Type := Nat → List Value → iq_M → Option (iq_R × iq_M)
def iq_at : iq_T → Nat → Option (Instr × Nat)
  | [], _ => none
  | e :: t, pc => match Nat.beq e.1 pc with
    | true => some e.2
    | false => iq_at t pc
def iq_lk {α : Type} : List (Nat × α) → Nat → Option α
  | [], _ => none
  | e :: t, k => match Nat.beq e.1 k with
    | true => some e.2
    | false => iq_lk t k
def iq_tg (pc : Nat) (off : Int) : Option Nat := match (pc : Int) + off with
  | .ofNat t => some t
  | .negSucc _ => none
def iq_get (L : iq_L) (i : Nat) : Option Value := match L[i]? with
  | some (some v) => some v
  | _ => none
/-- a store of one word at i: a long that ends there is gone -/
def iq_st1 (L : iq_L) (i : Nat) (v : Value) : iq_L := match i with
  | 0 => L.set 0 (some v)
  | j + 1 => match L[j]? with
    | some (some (.long _)) => (L.set j none).set (j + 1) (some v)
    | some (some (.double _)) => (L.set j none).set (j + 1) (some v)
    | _ => L.set (j + 1) (some v)
def iq_st2 (L : iq_L) (i : Nat) (v : Value) : iq_L := (iq_st1 L i v).set (i + 1) none
/-- the switch: the first place of the row whose number is x -/
def iq_sw (x : Int32) (pc : Nat) (dflt : Int) (L : iq_L) (S : List Value) (M : iq_M) : Int → List Int → iq_O
  | _, [] => match iq_tg pc dflt with
    | some t => some (.inl (t, L, S, M))
    | none => none
  | lo, o :: os => if x = Int32.ofInt lo then (match iq_tg pc o with
    | some t => some (.inl (t, L, S, M))
    | none => none) else iq_sw x pc dflt L S M (lo + 1) os
def iq_pu (pc : Nat) (L : iq_L) (S : List Value) (M : iq_M) : iq_O := some (.inl (pc, L, S, M))
def iq_br (c : Prop) [Decidable c] (t : Option Nat) (f : Nat) (L : iq_L) (S : List Value) (M : iq_M) : iq_O := match t with
  | none => none
  | some t => if c then some (.inl (t, L, S, M)) else some (.inl (f, L, S, M))
def iq_ld (w : Nat) (i pc : Nat) (L : iq_L) (S : List Value) (M : iq_M) : iq_O := match iq_get L i with
  | some (.int x) => match w with
    | 0 => some (.inl (pc, L, .int x :: S, M))
    | _ => none
  | some (.long x) => match w with
    | 1 => some (.inl (pc, L, .long x :: S, M))
    | _ => none
  | some (.ref x) => match w, Nat.beq x 7000 with
    | 2, false => some (.inl (pc, L, .ref x :: S, M))
    | _, _ => none
  | _ => none
def iq_st (w : Nat) (i pc : Nat) (L : iq_L) (S : List Value) (M : iq_M) : iq_O := match S with
  | .int x :: S => match w with
    | 0 => match Nat.blt i L.length with
      | true => some (.inl (pc, iq_st1 L i (.int x), S, M))
      | false => none
    | _ => none
  | .long x :: S => match w with
    | 1 => match Nat.blt (i + 1) L.length with
      | true => some (.inl (pc, iq_st2 L i (.long x), S, M))
      | false => none
    | _ => none
  | .ref x :: S => match w, Nat.beq x 7000 with
    | 2, false => match Nat.blt i L.length with
      | true => some (.inl (pc, iq_st1 L i (.ref x), S, M))
      | false => none
    | _, _ => none
  | _ => none
def iq_b2 (f : Int32 → Int32 → Int32) (pc : Nat) (L : iq_L) (S : List Value) (M : iq_M) : iq_O := match S with
  | .int y :: .int x :: S => some (.inl (pc, L, .int (f x y) :: S, M))
  | _ => none
def iq_l2 (f : Int64 → Int64 → Int64) (pc : Nat) (L : iq_L) (S : List Value) (M : iq_M) : iq_O := match S with
  | .long y :: .long x :: S => some (.inl (pc, L, .long (f x y) :: S, M))
  | _ => none
def iq_gf (ow : Nat) (idx pc : Nat) (L : iq_L) (S : List Value) (M : iq_M) : iq_O := match S with
  | .ref k :: S => match iq_lk (iq_fds ow) idx with
    | some (ci, f, _) => match ci with
      | 20 => match Nat.ble 5000 k, Nat.blt k 5033 with
        | true, true => match f with
          | 0 => some (.inl (pc, L, .ref (k + 1000) :: S, M))
          | _ => some (.inl (pc, L, .int 0 :: S, M))
        | _, _ => none
      | ci => match M.1[k]? with
        | some (t, fs) => match Nat.beq t ci with
          | true => match fs[f]? with
            | some 1 => some (.inl (pc, L, .int (M.2.1 k f) :: S, M))
            | some 2 => some (.inl (pc, L, .long (M.2.2.1 k f) :: S, M))
            | some (r + 3) => some (.inl (pc, L, .ref r :: S, M))
            | _ => none
          | false => none
        | none => none
    | none => none
  | _ => none
def iq_pf (ow : Nat) (ini : Bool) (idx pc : Nat) (L : iq_L) (S : List Value) (M : iq_M) : iq_O := match S with
  | v :: .ref k :: S => match iq_lk (iq_fds ow) idx with
    | some (ci, f, ty) => match M.1[k]?, Nat.blt ci 11 with
        | some (t, fs), true => match Nat.beq t ci with
          | true => match v with
            | .int x => match ty with
              | 0 => match fs[f]? with
                | some 1 => some (.inl (pc, L, S, (M.1, iq_upI M.2.1 k f x, M.2.2)))
                | _ => none
              | 1 => match fs[f]? with
                | some 1 => if x = 0 ∨ x = 1 then some (.inl (pc, L, S, (M.1, iq_upI M.2.1 k f x, M.2.2))) else none
                | _ => none
              | _ => none
            | .long x => match ty with
              | 2 => match fs[f]? with
                | some 2 => some (.inl (pc, L, S, (M.1, M.2.1, iq_upJ M.2.2.1 k f x, M.2.2.2)))
                | _ => none
              | _ => none
            | .ref r => match ty, ini, Nat.beq ci ow, Nat.blt r 5000 with
              | 3, true, true, true => match Nat.blt f fs.length with
                | true => some (.inl (pc, L, S, (M.1.set k (ci, fs.set f (r + 3)), M.2)))
                | false => none
              | _, _, _, _ => none
            | _ => none
          | false => none
        | _, _ => none
    | none => none
  | _ => none
/-- a load out of an array: w the tag of its kind -/
def iq_al (w : Nat) (isL : Bool) (pc : Nat) (L : iq_L) (S : List Value) (M : iq_M) : iq_O := match S with
  | .int i :: .ref k :: S => match k with
    | 0 => match isL, w with
      | true, 100 => match M.1[0]? with
        | some (_, n :: _) => if iq_in i n then some (.inl (pc, L, .int (M.2.1 0 i.toNatClampNeg) :: S, M)) else none
        | _ => none
      | _, _ => none
    | k => match Nat.blt k 5000 with
      | true => match M.1[k]? with
        | some (t, n :: _) => match Nat.beq t w with
          | true => match w with
            | 101 => if iq_in i n then some (.inl (pc, L, .long (M.2.2.1 k i.toNatClampNeg) :: S, M)) else none
            | _ => if iq_in i n then some (.inl (pc, L, .int (M.2.1 k i.toNatClampNeg) :: S, M)) else none
          | false => none
        | _ => none
      | false => match w, Nat.ble 6000 k with
        | 102, true => match iq_tx (k - 6000) with
          | some t => if iq_in i t.length then some (.inl (pc, L, .int (t.getD i.toNatClampNeg 0) :: S, M)) else none
          | none => none
        | _, _ => none
  | _ => none
def iq_as (w : Nat) (pc : Nat) (L : iq_L) (S : List Value) (M : iq_M) : iq_O := match S with
  | .int x :: .int i :: .ref k :: S => match M.1[k]? with
    | some (t, n :: _) => match Nat.beq t w with
      | true => match w with
        | 100 => if iq_in i n then some (.inl (pc, L, S, (M.1, iq_upI M.2.1 k i.toNatClampNeg x, M.2.2))) else none
        | 102 => if iq_in i n ∧ (x = 0 ∨ x = 1) then some (.inl (pc, L, S, (M.1, iq_upI M.2.1 k i.toNatClampNeg x, M.2.2))) else none
        | _ => none
      | false => none
    | _ => none
  | .long x :: .int i :: .ref k :: S => match M.1[k]? with
    | some (t, n :: _) => match Nat.beq t w with
      | true => match w with
        | 101 => if iq_in i n then some (.inl (pc, L, S, (M.1, M.2.1, iq_upJ M.2.2.1 k i.toNatClampNeg x, M.2.2.2))) else none
        | _ => none
      | false => none
    | _ => none
  | _ => none
def iq_len (isL : Bool) (pc : Nat) (L : iq_L) (S : List Value) (M : iq_M) : iq_O := match S with
  | .ref k :: S => match k with
    | 0 => match isL with
      | true => match M.1[0]? with
        | some (_, n :: _) => some (.inl (pc, L, .int (Int32.ofNat n) :: S, M))
        | _ => none
      | false => none
    | k => match Nat.blt k 5000 with
      | true => match M.1[k]? with
        | some (t, n :: _) => match t with
          | 100 => some (.inl (pc, L, .int (Int32.ofNat n) :: S, M))
          | 101 => some (.inl (pc, L, .int (Int32.ofNat n) :: S, M))
          | 102 => some (.inl (pc, L, .int (Int32.ofNat n) :: S, M))
          | _ => none
        | _ => none
      | false => match Nat.ble 6000 k with
        | true => match iq_tx (k - 6000) with
          | some t => some (.inl (pc, L, .int (Int32.ofNat t.length) :: S, M))
          | none => none
        | false => none
  | _ => none
/-- the fields of a new object of a class, all zero or null -/
def iq_new (ci : Nat) (pc : Nat) (L : iq_L) (S : List Value) (M : iq_M) : iq_O := match iq_born ci, M.2.2.2.2.2, Nat.blt M.1.length 4999 with
  | some fs, false, true => some (.inl (pc, L, .ref M.1.length :: S, (M.1 ++ [(ci, fs)], iq_zI M.2.1 M.1.length, iq_zJ M.2.2.1 M.1.length, M.2.2.2.1 + 1, M.2.2.2.2.1 + fs.length, false)))
  | _, _, _ => none
def iq_na (w : Nat) (pc : Nat) (L : iq_L) (S : List Value) (M : iq_M) : iq_O := match S, M.2.2.2.2.2, Nat.blt M.1.length 4999 with
  | .int n :: S, false, true => if 0 ≤ n ∧ n ≤ 100000 then some (.inl (pc, L, .ref M.1.length :: S, (M.1 ++ [(w, [n.toNatClampNeg])], iq_zI M.2.1 M.1.length, iq_zJ M.2.2.1 M.1.length, M.2.2.2.1 + 1, M.2.2.2.2.1 + n.toNatClampNeg, false))) else none
  | _, _, _ => none
/-- throw new E("..") -/
def iq_th (tab : iq_T) (ow kd pc : Nat) (M : iq_M) : iq_O := match iq_at tab (pc + 3) with
  | some (.dup, 1) => match iq_at tab (pc + 4) with
    | some (.ldc is, 2) => match iq_at tab (pc + 6), iq_at tab (pc + 9), iq_lk (iq_cns ow) is with
      | some (.invokespecial ic, 3), some (.athrow, 1), some (.ref sj) => match iq_lk (iq_mds ow) ic with
        | some (_, _, 6) => match Nat.beq (iq_xk ic) kd, Nat.ble 5000 sj with
          | true, true => some (.inr (.inr kd, (M.1, M.2.1, M.2.2.1, M.2.2.2.1 + 1, M.2.2.2.2.1 + 6, true)))
          | _, _ => none
        | _ => none
      | _, _, _ => none
    | some (.ldc_w is, 3) => match iq_at tab (pc + 7), iq_at tab (pc + 10), iq_lk (iq_cns ow) is with
      | some (.invokespecial ic, 3), some (.athrow, 1), some (.ref sj) => match iq_lk (iq_mds ow) ic with
        | some (_, _, 6) => match Nat.beq (iq_xk ic) kd, Nat.ble 5000 sj with
          | true, true => some (.inr (.inr kd, (M.1, M.2.1, M.2.2.1, M.2.2.2.1 + 1, M.2.2.2.2.1 + 6, true)))
          | _, _ => none
        | _ => none
      | _, _, _ => none
    | _ => none
  | _ => none
/-- the handler for a throw at pc: its pc -/
def iq_hd (ow kd pc : Nat) : List (Nat × Nat × Nat × Nat) → Option Nat
  | [] => none
  | (a, b, h, ct) :: t => match Nat.ble a pc, Nat.blt pc b with
    | true, true => match iq_lk (iq_cls ow) ct with
      | some c => match Nat.beq c (50 + kd) with
        | true => some h
        | false => match c, kd with
          | 50, 1 => iq_hd ow kd pc t
          | _, _ => none
      | none => none
    | _, _ => iq_hd ow kd pc t
def iq_bk (tab : iq_T) (ow : Nat) (hh : List (Nat × Nat × Nat × Nat)) (pc : Nat) (L : iq_L) (S : List Value) (r : Option (iq_R × iq_M)) : iq_O := match r with
  | none => none
  | some (.inl none, M) => some (.inl (pc + 3, L, S, M))
  | some (.inl (some v), M) => some (.inl (pc + 3, L, v :: S, M))
  | some (.inr kd, M) => match iq_hd ow kd pc hh with
    | none => match hh with
      | [] => some (.inr (.inr kd, M))
      | _ => none
    | some h => match iq_at tab h with
      | some (.astore i, 2) => match Nat.blt i L.length with
        | true => some (.inl (h + 2, iq_st1 L i (.ref 0) |>.set i none, [], M))
        | false => none
      | some (.astore_n i, 1) => match Nat.blt i.val L.length with
        | true => some (.inl (h + 1, iq_st1 L i.val (.ref 0) |>.set i.val none, [], M))
        | false => none
      | _ => none
/-- System.arraycopy -/
def iq_cp (pc : Nat) (L : iq_L) (S : List Value) (M : iq_M) : iq_O := match S with
  | .int n :: .int dp :: .ref b :: .int sp :: .ref a :: S => match M.1[a]?, M.1[b]? with
    | some (ta, na :: _), some (tb, nb :: _) => match ta, tb with
      | 100, 100 => if 0 ≤ sp ∧ 0 ≤ dp ∧ 0 ≤ n ∧ sp.toNatClampNeg + n.toNatClampNeg ≤ na ∧ dp.toNatClampNeg + n.toNatClampNeg ≤ nb then
          some (.inl (pc, L, S, (M.1, iq_cpI M.2.1 a b sp.toNatClampNeg dp.toNatClampNeg n.toNatClampNeg, M.2.2))) else none
      | 101, 101 => if 0 ≤ sp ∧ 0 ≤ dp ∧ 0 ≤ n ∧ sp.toNatClampNeg + n.toNatClampNeg ≤ na ∧ dp.toNatClampNeg + n.toNatClampNeg ≤ nb then
          some (.inl (pc, L, S, (M.1, M.2.1, iq_cpJ M.2.2.1 a b sp.toNatClampNeg dp.toNatClampNeg n.toNatClampNeg, M.2.2.2))) else none
      | _, _ => none
    | _, _ => none
  | _ => none
/-- the receiver is of the class of the callee -/
def iq_rv (M : iq_M) (ci : Nat) : List Value → Bool
  | .ref k :: _ => match ci with
    | 14 => Nat.ble 5000 k && Nat.blt k 5033
    | ci => match Nat.beq k 0, M.1[k]?, Nat.blt ci 11 with
      | false, some (t, _), true => Nat.beq t ci
      | _, _, _ => false
  | _ => false
def iq_call (K : iq_K) (tab : iq_T) (ow : Nat) (hh : List (Nat × Nat × Nat × Nat)) (w idx pc : Nat) (L : iq_L) (S : List Value) (M : iq_M) : iq_O := match iq_lk (iq_mds ow) idx with
  | some (cal, n, kd) => match kd with
    | 0 => match w, iq_rv M (iq_ow cal) ((S.drop n).take 1), Nat.ble (S.drop (n + 1)).length 4, iq_hh cal with
      | 0, true, true, [] => iq_bk tab ow hh pc L (S.drop (n + 1)) (K cal ((S.take (n + 1)).reverse) M)
      | _, _, _, _ => none
    | 1 => match w, Nat.ble n S.length, Nat.ble (S.drop n).length 4 with
      | 1, true, true => iq_bk tab ow hh pc L (S.drop n) (K cal ((S.take n).reverse) M)
      | _, _, _ => none
    | 2 => match w, iq_rv M (iq_ow cal) ((S.drop n).take 1), Nat.ble (S.drop (n + 1)).length 4 with
      | 2, true, true => match K cal ((S.take (n + 1)).reverse) M with
        | some (.inl none, M') => some (.inl (pc + 3, L, S.drop (n + 1), M'))
        | _ => none
      | _, _, _ => none
    | 3 => match w, Nat.ble (S.drop 5).length 4 with
      | 1, true => iq_cp (pc + 3) L S M
      | _, _ => none
    | 4 => match w, S with
      | 2, .ref k :: S => match Nat.ble S.length 4, Nat.beq k 7000 with
        | true, false => some (.inl (pc + 3, L, S, M))
        | _, _ => none
      | _, _ => none
    | 7 => match w, S with
      | 1, .int y :: .int x :: S => match Nat.ble S.length 4 with
        | true => some (.inl (pc + 3, L, .int (if x < y then y else x) :: S, M))
        | false => none
      | _, _ => none
    | 8 => match w, S with
      | 1, .int y :: .int x :: S => match Nat.ble S.length 4 with
        | true => some (.inl (pc + 3, L, .int (if y < x then y else x) :: S, M))
        | false => none
      | _, _ => none
    | _ => none
  | none => none
def iq_ret (rt : Nat) (S : List Value) (M : iq_M) (w : Nat) : iq_O := match S with
  | .int x :: [] => match w, rt with
    | 0, 0 => some (.inr (.inl (some (.int x)), M))
    | 0, 1 => if x = 0 ∨ x = 1 then some (.inr (.inl (some (.int x)), M)) else none
    | 0, 2 => if narrow .byte (.int x) = .int x then some (.inr (.inl (some (.int x)), M)) else none
    | 0, 3 => if narrow .char (.int x) = .int x then some (.inr (.inl (some (.int x)), M)) else none
    | _, _ => none
  | .long x :: [] => match w, rt with
    | 1, 4 => some (.inr (.inl (some (.long x)), M))
    | _, _ => none
  | [] => match w, rt with
    | 2, 5 => some (.inr (.inl none, M))
    | _, _ => none
  | _ => none
def iq_ex (K : iq_K) (tab : iq_T) (ow : Nat) (hh : List (Nat × Nat × Nat × Nat)) (rt : Nat) (ini isL : Bool) (pc len : Nat) (L : iq_L) (S : List Value) (M : iq_M) : Instr → iq_O
  | .iconst n => iq_pu (pc + 1) L (.int (Int32.ofInt n) :: S) M
  | .bipush n => iq_pu (pc + 2) L (.int (Int8.ofInt n).toInt32 :: S) M
  | .sipush n => iq_pu (pc + 3) L (.int (Int16.ofInt n).toInt32 :: S) M
  | .lconst n => iq_pu (pc + 1) L (.long (Int64.ofNat n.val) :: S) M
  | .ldc i => match iq_lk (iq_cns ow) i with
    | some v => iq_pu (pc + 2) L (v :: S) M
    | none => none
  | .ldc_w i => match iq_lk (iq_cns ow) i with
    | some v => iq_pu (pc + 3) L (v :: S) M
    | none => none
  | .ldc2_w i => match iq_lk (iq_cnl ow) i with
    | some v => iq_pu (pc + 3) L (.long v :: S) M
    | none => none
  | .iload i => iq_ld 0 i (pc + 2) L S M
  | .iload_n i => iq_ld 0 i.val (pc + 1) L S M
  | .lload i => iq_ld 1 i (pc + 2) L S M
  | .lload_n i => iq_ld 1 i.val (pc + 1) L S M
  | .aload i => iq_ld 2 i (pc + 2) L S M
  | .aload_n i => iq_ld 2 i.val (pc + 1) L S M
  | .istore i => iq_st 0 i (pc + 2) L S M
  | .istore_n i => iq_st 0 i.val (pc + 1) L S M
  | .lstore i => iq_st 1 i (pc + 2) L S M
  | .lstore_n i => iq_st 1 i.val (pc + 1) L S M
  | .astore i => iq_st 2 i (pc + 2) L S M
  | .astore_n i => iq_st 2 i.val (pc + 1) L S M
  | .iinc i n => match len, iq_get L i, Nat.blt i L.length with
    | 3, some (.int x), true => iq_pu (pc + 3) (iq_st1 L i (.int (x + Int32.ofInt n))) S M
    | _, _, _ => none
  | .iadd => iq_b2 (fun x y => x + y) (pc + 1) L S M
  | .isub => iq_b2 (fun x y => x - y) (pc + 1) L S M
  | .imul => iq_b2 (fun x y => x * y) (pc + 1) L S M
  | .iand => iq_b2 (fun x y => x &&& y) (pc + 1) L S M
  | .ior => iq_b2 (fun x y => x ||| y) (pc + 1) L S M
  | .ixor => iq_b2 (fun x y => x ^^^ y) (pc + 1) L S M
  | .ishl => iq_b2 (fun x y => x <<< (y &&& 31)) (pc + 1) L S M
  | .ishr => iq_b2 (fun x y => x >>> (y &&& 31)) (pc + 1) L S M
  | .iushr => iq_b2 (fun x y => (x.toUInt32 >>> (y.toUInt32 &&& Int32.toUInt32 31)).toInt32) (pc + 1) L S M
  | .idiv => match S with
    | .int y :: .int x :: S => if y = 0 then none else some (.inl (pc + 1, L, .int (x / y) :: S, M))
    | _ => none
  | .irem => match S with
    | .int y :: .int x :: S => if y = 0 then none else some (.inl (pc + 1, L, .int (x - x / y * y) :: S, M))
    | _ => none
  | .ladd => iq_l2 (fun x y => x + y) (pc + 1) L S M
  | .lsub => iq_l2 (fun x y => x - y) (pc + 1) L S M
  | .lmul => iq_l2 (fun x y => x * y) (pc + 1) L S M
  | .lor => iq_l2 (fun x y => x ||| y) (pc + 1) L S M
  | .lshl => match S with
    | .int y :: .long x :: S => some (.inl (pc + 1, L, .long (x <<< (y.toInt64 &&& 63)) :: S, M))
    | _ => none
  | .lcmp => match S with
    | .long y :: .long x :: S => some (.inl (pc + 1, L, .int (lg_cmp x y) :: S, M))
    | _ => none
  | .i2l => match S with
    | .int x :: S => some (.inl (pc + 1, L, .long x.toInt64 :: S, M))
    | _ => none
  | .i2c => match S with
    | .int x :: S => some (.inl (pc + 1, L, .int (x.toUInt32 % 65536).toInt32 :: S, M))
    | _ => none
  | .i2b => match S with
    | .int x :: S => some (.inl (pc + 1, L, .int x.toInt8.toInt32 :: S, M))
    | _ => none
  | .dup => match S with
    | .int x :: S => some (.inl (pc + 1, L, .int x :: .int x :: S, M))
    | .ref x :: S => match Nat.beq x 7000 with
      | false => some (.inl (pc + 1, L, .ref x :: .ref x :: S, M))
      | true => none
    | _ => none
  | .dup2 => match S with
    | .int x :: .ref y :: S => match Nat.beq y 7000 with
      | false => some (.inl (pc + 1, L, .int x :: .ref y :: .int x :: .ref y :: S, M))
      | true => none
    | _ => none
  | .pop => match S with
    | .int _ :: S => some (.inl (pc + 1, L, S, M))
    | _ => none
  | .goto o => match iq_tg pc o with
    | some t => some (.inl (t, L, S, M))
    | none => none
  | .ifCond c o => match S with
    | .int x :: S => match c with
      | .eq => iq_br (x = 0) (iq_tg pc o) (pc + 3) L S M
      | .ne => iq_br (¬ x = 0) (iq_tg pc o) (pc + 3) L S M
      | .lt => iq_br (x < 0) (iq_tg pc o) (pc + 3) L S M
      | .ge => iq_br (0 ≤ x) (iq_tg pc o) (pc + 3) L S M
      | .gt => iq_br (0 < x) (iq_tg pc o) (pc + 3) L S M
      | .le => iq_br (x ≤ 0) (iq_tg pc o) (pc + 3) L S M
    | _ => none
  | .if_icmp c o => match S with
    | .int y :: .int x :: S => match c with
      | .eq => iq_br (x = y) (iq_tg pc o) (pc + 3) L S M
      | .ne => iq_br (¬ x = y) (iq_tg pc o) (pc + 3) L S M
      | .lt => iq_br (x < y) (iq_tg pc o) (pc + 3) L S M
      | .ge => iq_br (y ≤ x) (iq_tg pc o) (pc + 3) L S M
      | .gt => iq_br (y < x) (iq_tg pc o) (pc + 3) L S M
      | .le => iq_br (x ≤ y) (iq_tg pc o) (pc + 3) L S M
    | _ => none
  | .tableswitch d lo hi offs => match S with
    | .int x :: S => match decide (lo ≤ hi + 1), decide ((hi - lo + 1).toNat = offs.toList.length), decide (-1000000 ≤ lo), decide (hi ≤ 1000000) with
      | true, true, true, true => iq_sw x pc d L S M lo offs.toList
      | _, _, _, _ => none
    | _ => none
  | .getfield i => iq_gf ow i (pc + 3) L S M
  | .putfield i => iq_pf ow ini i (pc + 3) L S M
  | .getstatic i => match iq_lk (iq_sts ow) i with
    | some v => some (.inl (pc + 3, L, v :: S, M))
    | none => none
  | .iaload => iq_al 100 isL (pc + 1) L S M
  | .laload => iq_al 101 isL (pc + 1) L S M
  | .baload => iq_al 102 isL (pc + 1) L S M
  | .iastore => iq_as 100 (pc + 1) L S M
  | .lastore => iq_as 101 (pc + 1) L S M
  | .bastore => iq_as 102 (pc + 1) L S M
  | .arraylength => iq_len isL (pc + 1) L S M
  | .new i => match iq_lk (iq_cls ow) i with
    | some ci => match ci with
      | 50 => match hh, S with
        | [], [] => iq_th tab ow 0 pc M
        | _, _ => none
      | 51 => match hh, S with
        | [], [] => iq_th tab ow 1 pc M
        | _, _ => none
      | ci => iq_new ci (pc + 3) L S M
    | none => none
  | .newarray t => match t with
    | .int => iq_na 100 (pc + 2) L S M
    | .long => iq_na 101 (pc + 2) L S M
    | .boolean => iq_na 102 (pc + 2) L S M
    | _ => none
  | .invokevirtual i => iq_call K tab ow hh 0 i pc L S M
  | .invokestatic i => iq_call K tab ow hh 1 i pc L S M
  | .invokespecial i => iq_call K tab ow hh 2 i pc L S M
  | .ireturn => iq_ret rt S M 0
  | .lreturn => iq_ret rt S M 1
  | .return_ => iq_ret rt S M 2
  | _ => none
/-- how long an instruction is, as the rows have it -/
def iq_ln : Instr → Nat
  | .bipush _ | .ldc _ | .iload _ | .lload _ | .aload _ | .istore _ | .lstore _ | .astore _ | .newarray _ => 2
  | .sipush _ | .ldc_w _ | .ldc2_w _ | .iinc _ _ | .goto _ | .ifCond _ _ | .if_icmp _ _ | .getfield _ | .putfield _ | .getstatic _ | .new _ | .invokevirtual _ | .invokestatic _ | .invokespecial _ => 3
  | _ => 1
def iq_lo (i : Instr) (len : Nat) : Bool := match i with
  | .tableswitch _ _ _ _ => true
  | i => Nat.beq (iq_ln i) len
/-- one step of method mi -/
def iq_step (K : iq_K) (mi : Nat) (σ : iq_S) : iq_O := match iq_at (iq_tab mi) σ.1 with
  | some (i, len) => match iq_lo i len with
    | false => none
    | true => iq_ex K (iq_tab mi) (iq_ow mi) (iq_hh mi) (iq_rt mi) (iq_ini mi) (iq_isL mi) σ.1 len σ.2.1 σ.2.2.1 σ.2.2.2 i
  | none => none
def iq_run (K : iq_K) (mi : Nat) : Nat → iq_S → Option (iq_R × iq_M)
  | 0, _ => none
  | n + 1, σ => match iq_step K mi σ with
    | some (.inl σ) => iq_run K mi n σ
    | some (.inr r) => some r
    | none => none
def iq_lay : List Value → iq_L
  | [] => []
  | v :: vs => match v with
    | .long x => some (.long x) :: none :: iq_lay vs
    | .double x => some (.double x) :: none :: iq_lay vs
    | v => some v :: iq_lay vs
def iq_ent (mi : Nat) (as : List Value) : iq_L := iq_lay as ++ List.replicate (iq_ml mi - (iq_lay as).length) none
/-- a call: so deep, so many steps a frame -/
def iq_ev : Nat → Nat → iq_K
  | 0, _ => fun _ _ _ => none
  | d + 1, n => fun mi as M => match Nat.ble (iq_lay as).length (iq_ml mi) with
    | true => iq_run (iq_ev d n) mi n (0, iq_ent mi as, [], M)
    | false => none
