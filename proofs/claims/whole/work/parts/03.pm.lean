/-! ===== THE PURE MACHINE: cells by their numbers, no addresses. '.ref k': cell k of the list; '.retAddr 0': the script; '.retAddr (j + 1)': literal j ===== -/
abbrev pE : Type := (FieldType × vp_A) ⊕ (Nat × List Value)
abbrev pL : Type := List (Option Value)
abbrev pX : Type := Nat × (Nat → Int32)
abbrev pT : Type := Nat × pL × List Value × List pE
abbrev pR : Type := ((Option Value) ⊕ Nat) × List pE
def p_get : pL → Nat → Option Value
  | [], _ => none
  | o :: _, 0 => o
  | _ :: t, i + 1 => p_get t i
def p_put : pL → Nat → Option Value → pL
  | [], _, _ => []
  | _ :: t, 0, v => v :: t
  | o :: t, i + 1, v => o :: p_put t i v
def p_two : Option Value → Bool
  | some (.long _) => true
  | some (.double _) => true
  | _ => false
def p_clr (ls : pL) : Nat → pL
  | 0 => ls
  | i + 1 => bif p_two (p_get ls i) then p_put ls i none else ls
def p_st1 (ls : pL) (i : Nat) (v : Value) : pL := p_put (p_clr ls i) i (some v)
def p_st2 (ls : pL) (i : Nat) (v : Value) : pL := p_put (p_put (p_clr ls i) i (some v)) (i + 1) none
/-- the locals at a method's entry -/
def p_args : List Value → pL
  | [] => []
  | .long x :: t => some (.long x) :: none :: p_args t
  | .double x :: t => some (.double x) :: none :: p_args t
  | v :: t => some v :: p_args t
def p_pad : Nat → pL → pL
  | 0, l => l
  | n + 1, [] => none :: p_pad n []
  | n + 1, o :: t => o :: p_pad n t
def p_in0 (mi : Nat) (as : List Value) : pL := p_pad (p_maxL mi) (p_args as)
def p_tgt (pc : Nat) (off : Int) : Nat := ((pc : Int) + off).toNat
/-- n values off the stack, the last pushed last -/
def p_pop : Nat → List Value → List Value → Option (List Value × List Value)
  | 0, acc, st => some (acc, st)
  | _ + 1, _, [] => none
  | n + 1, acc, v :: st => p_pop n (v :: acc) st
def p_words : List Value → Nat
  | [] => 0
  | .long _ :: t => p_words t + 2
  | .double _ :: t => p_words t + 2
  | _ :: t => p_words t + 1
def p_isref : Value → Bool
  | .ref _ => true
  | .null => true
  | .retAddr _ => true
  | _ => false
/-- what a field of a type takes -/
def p_fits : FieldType → Value → Bool
  | .int, .int _ => true
  | .long, .long _ => true
  | .object _, v => p_isref v
  | .array _, v => p_isref v
  | _, _ => false
def p_fget (h : List pE) (k ci f : Nat) : Option Value :=
  match h[k]? with
  | some (.inr (cj, fs)) => bif Nat.beq ci cj then fs[f]? else none
  | _ => none
def p_fput (h : List pE) (k ci f : Nat) (v : Value) : Option (List pE) :=
  match h[k]? with
  | some (.inr (cj, fs)) => bif Nat.beq ci cj && Nat.blt f fs.length then some (h.set k (.inr (cj, fs.set f v))) else none
  | _ => none
def p_aty : FieldType → Bool
  | .int => true
  | .long => true
  | .boolean => true
  | _ => false
def p_inI (i : Int32) (n : Nat) : Prop := ¬ (i < 0 ∨ n ≤ i.toNatClampNeg)
/-- instructions of the stack alone -/
def p_alu (ins : Instr) (st : List Value) : Option (List Value × Prop) :=
  match ins with
  | .iadd => match st with
    | .int y :: .int x :: r => some (.int (x + y) :: r, True)
    | _ => none
  | .isub => match st with
    | .int y :: .int x :: r => some (.int (x - y) :: r, True)
    | _ => none
  | .imul => match st with
    | .int y :: .int x :: r => some (.int (x * y) :: r, True)
    | _ => none
  | .idiv => match st with
    | .int y :: .int x :: r => some (.int (x / y) :: r, ¬ y = 0)
    | _ => none
  | .irem => match st with
    | .int y :: .int x :: r => some (.int (x - x / y * y) :: r, ¬ y = 0)
    | _ => none
  | .ineg => match st with
    | .int x :: r => some (.int (-x) :: r, True)
    | _ => none
  | .iand => match st with
    | .int y :: .int x :: r => some (.int (x &&& y) :: r, True)
    | _ => none
  | .ior => match st with
    | .int y :: .int x :: r => some (.int (x ||| y) :: r, True)
    | _ => none
  | .ixor => match st with
    | .int y :: .int x :: r => some (.int (x ^^^ y) :: r, True)
    | _ => none
  | .ishl => match st with
    | .int y :: .int x :: r => some (.int (x <<< (y &&& 31)) :: r, True)
    | _ => none
  | .ishr => match st with
    | .int y :: .int x :: r => some (.int (x >>> (y &&& 31)) :: r, True)
    | _ => none
  | .ladd => match st with
    | .long y :: .long x :: r => some (.long (x + y) :: r, True)
    | _ => none
  | .lsub => match st with
    | .long y :: .long x :: r => some (.long (x - y) :: r, True)
    | _ => none
  | .lmul => match st with
    | .long y :: .long x :: r => some (.long (x * y) :: r, True)
    | _ => none
  | .ldiv => match st with
    | .long y :: .long x :: r => some (.long (x / y) :: r, ¬ y = 0)
    | _ => none
  | .lrem => match st with
    | .long y :: .long x :: r => some (.long (x - x / y * y) :: r, ¬ y = 0)
    | _ => none
  | .lneg => match st with
    | .long x :: r => some (.long (-x) :: r, True)
    | _ => none
  | .land => match st with
    | .long y :: .long x :: r => some (.long (x &&& y) :: r, True)
    | _ => none
  | .lor => match st with
    | .long y :: .long x :: r => some (.long (x ||| y) :: r, True)
    | _ => none
  | .lxor => match st with
    | .long y :: .long x :: r => some (.long (x ^^^ y) :: r, True)
    | _ => none
  | .lshl => match st with
    | .int y :: .long x :: r => some (.long (x <<< (y.toInt64 &&& 63)) :: r, True)
    | _ => none
  | .lshr => match st with
    | .int y :: .long x :: r => some (.long (x >>> (y.toInt64 &&& 63)) :: r, True)
    | _ => none
  | .lushr => match st with
    | .int y :: .long x :: r => some (.long (x.toUInt64 >>> (y.toInt64.toUInt64 &&& Int64.toUInt64 63)).toInt64 :: r, True)
    | _ => none
  | .i2l => match st with
    | .int x :: r => some (.long x.toInt64 :: r, True)
    | _ => none
  | .l2i => match st with
    | .long x :: r => some (.int x.toInt32 :: r, True)
    | _ => none
  | .i2c => match st with
    | .int x :: r => some (.int (x.toUInt32 % 65536).toInt32 :: r, True)
    | _ => none
  | .lcmp => match st with
    | .long y :: .long x :: r => some (.int (lg_cmp x y) :: r, True)
    | _ => none
  | .dup => match st with
    | v :: r => some (v :: v :: r, v.category = 1)
    | _ => none
  | .pop => match st with
    | v :: r => some (r, v.category = 1)
    | _ => none
  | .dup_x1 => match st with
    | v :: w :: r => some (v :: w :: v :: r, v.category = 1 ∧ w.category = 1)
    | _ => none
  | .dup_x2 => match st with
    | v :: w :: z :: r => some (v :: w :: z :: v :: r, v.category = 1 ∧ w.category = 1 ∧ z.category = 1)
    | _ => none
  | .dup2 => match st with
    | .long x :: r => some (.long x :: .long x :: r, True)
    | v :: w :: r => some (v :: w :: v :: w :: r, v.category = 1 ∧ w.category = 1)
    | _ => none
  | .pop2 => match st with
    | .long _ :: r => some (r, True)
    | _ => none
  | _ => none
/-- one plain instruction: the next state, and what must hold for it -/
def p_step (X : pX) (d mi pc : Nat) (ls : pL) (st : List Value) (h : List pE) (ins : Instr) (len : Nat) : Option (pT × Prop) :=
  match ins with
  | .iconst n => some ((pc + len, ls, .int (Int32.ofInt n) :: st, h), True)
  | .bipush n => some ((pc + len, ls, .int (Int8.ofInt n).toInt32 :: st, h), True)
  | .sipush n => some ((pc + len, ls, .int (Int16.ofInt n).toInt32 :: st, h), True)
  | .lconst n => some ((pc + len, ls, .long (Int64.ofNat (n : Nat)) :: st, h), True)
  | .aconst_null => some ((pc + len, ls, .null :: st, h), True)
  | .ldc i => match p_int (p_own mi) i with
    | some v => some ((pc + len, ls, .int v :: st, h), True)
    | none => match p_str (p_own mi) i with
      | some j => some ((pc + len, ls, .retAddr (j + 1) :: st, h), True)
      | none => none
  | .ldc2_w i => match p_lng (p_own mi) i with
    | some v => some ((pc + len, ls, .long v :: st, h), True)
    | none => none
  | .iload i => match p_get ls i with
    | some (.int x) => some ((pc + len, ls, .int x :: st, h), True)
    | _ => none
  | .iload_n i => match p_get ls (i : Nat) with
    | some (.int x) => some ((pc + len, ls, .int x :: st, h), True)
    | _ => none
  | .lload i => match p_get ls i with
    | some (.long x) => some ((pc + len, ls, .long x :: st, h), True)
    | _ => none
  | .lload_n i => match p_get ls (i : Nat) with
    | some (.long x) => some ((pc + len, ls, .long x :: st, h), True)
    | _ => none
  | .aload i => match p_get ls i with
    | some (.ref x) => some ((pc + len, ls, .ref x :: st, h), True)
    | some (.retAddr x) => some ((pc + len, ls, .retAddr x :: st, h), True)
    | _ => none
  | .aload_n i => match p_get ls (i : Nat) with
    | some (.ref x) => some ((pc + len, ls, .ref x :: st, h), True)
    | some (.retAddr x) => some ((pc + len, ls, .retAddr x :: st, h), True)
    | _ => none
  | .istore i => match st with
    | .int x :: r => bif Nat.blt i ls.length then some ((pc + len, p_st1 ls i (.int x), r, h), True) else none
    | _ => none
  | .istore_n i => match st with
    | .int x :: r => bif Nat.blt (i : Nat) ls.length then some ((pc + len, p_st1 ls (i : Nat) (.int x), r, h), True) else none
    | _ => none
  | .lstore i => match st with
    | .long x :: r => bif Nat.blt (i + 1) ls.length then some ((pc + len, p_st2 ls i (.long x), r, h), True) else none
    | _ => none
  | .lstore_n i => match st with
    | .long x :: r => bif Nat.blt ((i : Nat) + 1) ls.length then some ((pc + len, p_st2 ls (i : Nat) (.long x), r, h), True) else none
    | _ => none
  | .astore i => match st with
    | .ref x :: r => bif Nat.blt i ls.length then some ((pc + len, p_st1 ls i (.ref x), r, h), True) else none
    | _ => none
  | .astore_n i => match st with
    | .ref x :: r => bif Nat.blt (i : Nat) ls.length then some ((pc + len, p_st1 ls (i : Nat) (.ref x), r, h), True) else none
    | _ => none
  | .iinc i n => match p_get ls i with
    | some (.int x) => bif Nat.blt i ls.length then some ((pc + len, p_st1 ls i (.int (x + Int32.ofInt n)), st, h), True) else none
    | _ => none
  | .goto off => some ((p_tgt pc off, ls, st, h), 0 ≤ (pc : Int) + off)
  | .getfield i => match st with
    | .ref k :: r => match p_fld (p_own mi) i with
      | some (ci, f) => match p_fget h k ci f with
        | some v => some ((pc + len, ls, v :: r, h), True)
        | none => none
      | none => none
    | .retAddr (j + 1) :: r => match p_sfld (p_own mi) i with
      | some 0 => some ((pc + len, ls, .retAddr (p_lits + 1 + j) :: r, h), j < p_lits)
      | some 1 => some ((pc + len, ls, .int 0 :: r, h), j < p_lits)
      | _ => none
    | _ => none
  | .putfield i => match st with
    | v :: .ref k :: r => match p_fld (p_own mi) i with
      | some (ci, f) => bif p_fits (p_fty ci f) v && (!(p_fin ci f) || (p_ctor mi && Nat.beq ci (p_own mi))) then (match p_fput h k ci f v with
        | some h' => some ((pc + len, ls, r, h'), True)
        | none => none) else none
      | none => none
    | _ => none
  | .iaload => match st with
    | .int i :: .ref k :: r => match h[k]? with
      | some (.inl (.int, n, .inl f)) => some ((pc + len, ls, .int (f i.toNatClampNeg) :: r, h), p_inI i n)
      | _ => none
    | .int i :: .retAddr 0 :: r => some ((pc + len, ls, .int (X.2 i.toNatClampNeg) :: r, h), p_inI i X.1)
    | _ => none
  | .iastore => match st with
    | .int x :: .int i :: .ref k :: r => match h[k]? with
      | some (.inl (.int, n, .inl f)) => some ((pc + len, ls, r, h.set k (.inl (.int, n, .inl (upd f i.toNatClampNeg x)))), p_inI i n)
      | _ => none
    | _ => none
  | .laload => match st with
    | .int i :: .ref k :: r => match h[k]? with
      | some (.inl (.long, n, .inr (.inl f))) => some ((pc + len, ls, .long (f i.toNatClampNeg) :: r, h), p_inI i n)
      | _ => none
    | _ => none
  | .lastore => match st with
    | .long x :: .int i :: .ref k :: r => match h[k]? with
      | some (.inl (.long, n, .inr (.inl f))) => some ((pc + len, ls, r, h.set k (.inl (.long, n, .inr (.inl (vp_updL f i.toNatClampNeg x))))), p_inI i n)
      | _ => none
    | _ => none
  | .baload => match st with
    | .int i :: .ref k :: r => match h[k]? with
      | some (.inl (.boolean, n, .inl f)) => some ((pc + len, ls, .int (f i.toNatClampNeg) :: r, h), p_inI i n)
      | _ => none
    | .int i :: .retAddr (k + 1) :: r => some ((pc + len, ls, .int (p_schr (k - p_lits) i.toNatClampNeg) :: r, h), p_lits ≤ k ∧ k - p_lits < p_lits ∧ p_inI i (p_slen (k - p_lits)))
    | _ => none
  | .bastore => match st with
    | .int x :: .int i :: .ref k :: r => match h[k]? with
      | some (.inl (.boolean, n, .inl f)) => some ((pc + len, ls, r, h.set k (.inl (.boolean, n, .inl (upd f i.toNatClampNeg (vp_nar .boolean x))))), p_inI i n)
      | _ => none
    | _ => none
  | .arraylength => match st with
    | .ref k :: r => match h[k]? with
      | some (.inl (ty, a)) => bif p_aty ty then some ((pc + len, ls, .int (Int32.ofNat a.1) :: r, h), True) else none
      | _ => none
    | .retAddr 0 :: r => some ((pc + len, ls, .int (Int32.ofNat X.1) :: r, h), True)
    | .retAddr (k + 1) :: r => some ((pc + len, ls, .int (Int32.ofNat (p_slen (k - p_lits))) :: r, h), p_lits ≤ k ∧ k - p_lits < p_lits)
    | _ => none
  | .newarray t => match st with
    | .int n :: r => match t with
      | .int => some ((pc + len, ls, .ref h.length :: r, h ++ [.inl (.int, n.toNatClampNeg, .inl (fun _ => 0))]), ¬ n < 0 ∧ n.toNatClampNeg * 8 ≤ 536870912)
      | .long => some ((pc + len, ls, .ref h.length :: r, h ++ [.inl (.long, n.toNatClampNeg, .inr (.inl (fun _ => 0)))]), ¬ n < 0 ∧ n.toNatClampNeg * 8 ≤ 536870912)
      | .boolean => some ((pc + len, ls, .ref h.length :: r, h ++ [.inl (.boolean, n.toNatClampNeg, .inl (fun _ => 0))]), ¬ n < 0 ∧ n.toNatClampNeg * 8 ≤ 536870912)
      | _ => none
    | _ => none
  | .new i => match p_new (p_own mi) i with
    | some (ci, fs) => some ((pc + len, ls, .ref h.length :: st, h ++ [.inr (ci, fs)]), True)
    | none => none
  | .invokespecial i => match p_ext (p_own mi) i with
    | some 0 => match st with
      | .ref _ :: r => some ((pc + len, ls, r, h), 1 ≤ d ∧ p_words r ≤ 8)
      | _ => none
    | _ => none
  | .getstatic i => match p_stat (p_own mi) i with
    | some 0 => some ((pc + len, ls, .int 1 :: st, h), True)
    | some 1 => some ((pc + len, ls, .float 0 :: st, h), True)
    | _ => none
  | _ => match p_alu ins st with
    | some (st', C) => some ((pc + len, ls, st', h), C)
    | none => none
/-- the branches: condition, where to if it holds, where to else, the stack behind it -/
def p_br (c : ClassFile.Cond) (x y : Int32) : Prop := match c with
  | .eq => x = y
  | .ne => ¬ x = y
  | .lt => x < y
  | .ge => y ≤ x
  | .gt => y < x
  | .le => x ≤ y
def p_jmp (pc : Nat) (ins : Instr) (st : List Value) : Option (Prop × Nat × Nat × List Value × Prop) :=
  match ins with
  | .ifCond c off => match st with
    | .int x :: r => some (p_br c x 0, p_tgt pc off, pc + 3, r, 0 ≤ (pc : Int) + off)
    | _ => none
  | .if_icmp c off => match st with
    | .int y :: .int x :: r => some (p_br c x y, p_tgt pc off, pc + 3, r, 0 ≤ (pc : Int) + off)
    | _ => none
  | _ => none
/-- the switches -/
def p_tsw (dflt lo hi : Int) (offs : Array Int) (x : Int32) : Int := if x.toInt < lo ∨ hi < x.toInt then dflt else (offs[(x.toInt - lo).toNat]?).getD dflt
def p_swi (pc : Nat) (ins : Instr) (st : List Value) : Option (Nat × List Value × Prop) :=
  match ins with
  | .tableswitch dflt lo hi offs => match st with
    | .int x :: r => some (p_tgt pc (p_tsw dflt lo hi offs x), r, 0 ≤ (pc : Int) + p_tsw dflt lo hi offs x ∧ (x.toInt < lo ∨ hi < x.toInt ∨ (x.toInt - lo).toNat < offs.size))
    | _ => none
  | .lookupswitch dflt ps => match st with
    | .int x :: r => some (p_tgt pc (Op.lookupswitch.offset ps.toList dflt x.toInt), r, 0 ≤ (pc : Int) + Op.lookupswitch.offset ps.toList dflt x.toInt ∧ (ps.toList.zip (ps.toList.drop 1)).all (fun (a, next) => a.1 < next.1) = true)
    | _ => none
  | _ => none
def p_ret (mi : Nat) (ins : Instr) (st : List Value) : Option (Option Value × Prop) :=
  match ins with
  | .return_ => match st with
    | [] => some (none, p_rty mi = none)
    | _ => none
  | .ireturn => match st with
    | [.int x] => some (some (.int x), p_rty mi = some .int ∨ (∃ ty, p_rty mi = some ty ∧ narrow ty (.int x) = .int x))
    | _ => none
  | .lreturn => match st with
    | [.long x] => some (some (.long x), p_rty mi = some .long)
    | _ => none
  | _ => none
def p_hfind (ci pc : Nat) : List (Nat × Nat × Nat × Nat) → Option Nat
  | [] => none
  | (a, b, t, cj) :: r => bif Nat.ble a pc && Nat.blt pc b && Nat.beq ci cj then some t else p_hfind ci pc r
def p_exk (ci : Nat) : Bool := Nat.ble 7 ci && Nat.ble ci 11
def p_hdl (mi pc k : Nat) (h : List pE) : Option Nat := match h[k]? with
  | some (.inr (ci, _)) => bif p_exk ci then p_hfind ci pc (p_hh mi) else none
  | _ => none
/-- the method that an instruction calls, and how many values it takes -/
def p_calls (mi : Nat) (ins : Instr) : Option (Nat × Nat) :=
  match ins with
  | .invokevirtual i => p_mtV (p_own mi) i
  | .invokestatic i => p_mtS (p_own mi) i
  | .invokespecial i => p_mtI (p_own mi) i
  | _ => none
/-- 'throw new E(text)', all of it, from its 'new' on: the kind of what is thrown -/
def p_thr (mi pc : Nat) (ins : Instr) : Option Nat :=
  match ins with
  | .new i => match p_exn (p_own mi) i with
    | none => none
    | some ci => match p_code mi (pc + 3) with
      | some (.dup, 1) => match p_code mi (pc + 4) with
        | some (.ldc j, 2) => match p_code mi (pc + 6) with
          | some (.invokespecial q, 3) => match p_code mi (pc + 9) with
            | some (.athrow, 1) => bif p_exi (p_own mi) ci j q then some ci else none
            | _ => none
          | _ => none
        | _ => none
      | _ => none
  | _ => none
def p_hdref : List Value → Bool
  | .ref _ :: _ => true
  | _ => false
/-- the receiver is an object of the method's own kind -/
def p_hdlit : List Value → Bool
  | .retAddr (j + 1) :: _ => Nat.blt j p_lits
  | _ => false
def p_recv (cm : Nat) (as : List Value) (h : List pE) : Bool := Nat.ble (p_args as).length (p_maxL cm) && bif p_isS cm then p_hdlit as else match p_inst cm with
  | none => !(p_ctor cm) || p_hdref as
  | some ci => match as with
    | .ref k :: _ => match h[k]? with
      | some (.inr (cj, _)) => Nat.beq ci cj
      | _ => false
    | _ => false
abbrev pF : Type := Nat → Nat → Nat → pL → List Value → List pE → Option pR
noncomputable def p_if {α : Type} (C : Prop) (a b : α) : α := @ite α C (Classical.propDecidable C) a b
theorem p_if_t {α : Type} {C : Prop} {a b : α} (h : C) : p_if C a b = a := by unfold p_if; exact if_pos h
theorem p_if_f {α : Type} {C : Prop} {a b : α} (h : ¬ C) : p_if C a b = b := by unfold p_if; exact if_neg h
noncomputable def p_F (X : pX) (f : pF) : pF := fun d mi pc ls st h =>
  match p_code mi pc with
  | none => none
  | some (ins, len) =>
    match p_calls mi ins with
    | some (cm, na) => (match d with
      | 0 => none
      | d' + 1 => (match p_pop na [] st with
        | none => none
        | some (as, rest) => bif p_recv cm as h && Nat.ble (p_words rest) 8 && Nat.beq len 3 then
            (match f d' cm 0 (p_in0 cm as) [] h with
            | none => none
            | some (.inl v, h1) => f (d' + 1) mi (pc + 3) ls (v.toList ++ rest) h1
            | some (.inr k, h1) => (match p_hdl mi pc k h1 with
              | some t => f (d' + 1) mi t ls [.ref k] h1
              | none => p_if (p_hh mi = []) (some (.inr k, h1)) none))
          else none))
    | none => (match p_ret mi ins st with
      | some (v, C) => p_if C (some (.inl v, h)) none
      | none => (match p_jmp pc ins st with
        | some (c, t, e, r, C) => p_if C (p_if c (f d mi t ls r h) (f d mi e ls r h)) none
        | none => (match p_swi pc ins st with
          | some (t, r, C) => p_if C (f d mi t ls r h) none
          | none => (match p_thr mi pc ins with
            | some ci => p_if (8 ≤ d ∧ p_words st ≤ 4 ∧ p_hh mi = []) (some (.inr h.length, h ++ [.inr (ci, [])])) none
            | none => (match p_step X d mi pc ls st h ins len with
              | none => none
              | some ((pc', ls', st', h'), C) => p_if C (f d mi pc' ls' st' h') none)))))
noncomputable def p_ex (X : pX) : Nat → pF
  | 0 => fun _ _ _ _ _ _ => none
  | n + 1 => p_F X (p_ex X n)
/-! more fuel does no harm -/
theorem p_if_mono {α : Type} {C : Prop} {a b : Option α} {r : α} (h : p_if C a none = some r) (hab : a = some r → b = some r) : p_if C b none = some r := by
  by_cases hC : C
  · rw [p_if_t hC] at h ⊢; exact hab h
  · rw [p_if_f hC] at h; cases h
theorem p_F_mono (X : pX) {f g : pF} (hfg : ∀ d mi pc ls st h r, f d mi pc ls st h = some r → g d mi pc ls st h = some r) {d mi pc : Nat} {ls : pL} {st : List Value} {h : List pE} {r : pR} (hh : p_F X f d mi pc ls st h = some r) : p_F X g d mi pc ls st h = some r := by
  unfold p_F at hh ⊢
  cases hc : p_code mi pc with
  | none => rw [hc] at hh; cases hh
  | some q =>
    obtain ⟨ins, len⟩ := q
    rw [hc] at hh
    dsimp only at hh ⊢
    cases h1 : p_calls mi ins with
    | some q =>
      obtain ⟨cm, na⟩ := q
      rw [h1] at hh
      dsimp only at hh ⊢
      cases d with
      | zero => cases hh
      | succ d' =>
        dsimp only at hh ⊢
        cases h2 : p_pop na [] st with
        | none => rw [h2] at hh; cases hh
        | some q =>
          obtain ⟨as, rest⟩ := q
          rw [h2] at hh
          dsimp only at hh ⊢
          cases h3 : (p_recv cm as h && Nat.ble (p_words rest) 8 && Nat.beq len 3) with
          | false => rw [h3] at hh; cases hh
          | true =>
            rw [h3] at hh
            dsimp only [cond_true] at hh ⊢
            cases h4 : f d' cm 0 (p_in0 cm as) [] h with
            | none => rw [h4] at hh; cases hh
            | some q =>
              rw [h4] at hh
              rw [hfg _ _ _ _ _ _ _ h4]
              obtain ⟨q1, h1⟩ := q
              cases q1 with
              | inl v =>
                dsimp only at hh ⊢
                exact hfg _ _ _ _ _ _ _ hh
              | inr k =>
                dsimp only at hh ⊢
                cases h5 : p_hdl mi pc k h1 with
                | none => rw [h5] at hh; exact hh
                | some t =>
                  rw [h5] at hh
                  dsimp only at hh ⊢
                  exact hfg _ _ _ _ _ _ _ hh
    | none =>
      rw [h1] at hh
      dsimp only at hh ⊢
      cases h2 : p_ret mi ins st with
      | some q => obtain ⟨v, C⟩ := q; rw [h2] at hh; exact hh
      | none =>
        rw [h2] at hh
        dsimp only at hh ⊢
        cases h3 : p_jmp pc ins st with
        | some q =>
          obtain ⟨c, t, e, r', C⟩ := q
          rw [h3] at hh
          dsimp only at hh ⊢
          refine p_if_mono hh (fun hh => ?_)
          by_cases hc : c
          · rw [p_if_t hc] at hh ⊢; exact hfg _ _ _ _ _ _ _ hh
          · rw [p_if_f hc] at hh ⊢; exact hfg _ _ _ _ _ _ _ hh
        | none =>
          rw [h3] at hh
          dsimp only at hh ⊢
          cases h4 : p_swi pc ins st with
          | some q =>
            obtain ⟨t, r', C⟩ := q
            rw [h4] at hh
            dsimp only at hh ⊢
            exact p_if_mono hh (fun hh => hfg _ _ _ _ _ _ _ hh)
          | none =>
            rw [h4] at hh
            dsimp only at hh ⊢
            cases h6 : p_thr mi pc ins with
            | some ci => rw [h6] at hh; exact hh
            | none =>
              rw [h6] at hh
              dsimp only at hh ⊢
              cases h5 : p_step X d mi pc ls st h ins len with
              | none => rw [h5] at hh; cases hh
              | some q =>
                obtain ⟨⟨pc', ls', st', h'⟩, C⟩ := q
                rw [h5] at hh
                dsimp only at hh ⊢
                exact p_if_mono hh (fun hh => hfg _ _ _ _ _ _ _ hh)
theorem p_ex_succ (X : pX) : ∀ (n d mi pc : Nat) (ls : pL) (st : List Value) (h : List pE) (r : pR), p_ex X n d mi pc ls st h = some r → p_ex X (n + 1) d mi pc ls st h = some r := by
  intro n
  induction n with
  | zero => intro d mi pc ls st h r hh; cases hh
  | succ n ih => intro d mi pc ls st h r hh; exact p_F_mono X ih hh
theorem p_ex_le (X : pX) {n n' : Nat} (hn : n ≤ n') {d mi pc : Nat} {ls : pL} {st : List Value} {h : List pE} {r : pR} (hh : p_ex X n d mi pc ls st h = some r) : p_ex X n' d mi pc ls st h = some r := by
  induction hn with
  | refl => exact hh
  | step _ ih => exact p_ex_succ X _ _ _ _ _ _ _ _ ih
/-- the machine, from here, ends in Q -/
def p_E (X : pX) (d mi pc : Nat) (ls : pL) (st : List Value) (h : List pE) (Q : pR → Prop) : Prop := ∃ n r, p_ex X n d mi pc ls st h = some r ∧ Q r
/-- a method, called -/
def p_M (X : pX) (d mi : Nat) (as : List Value) (h : List pE) (Q : pR → Prop) : Prop := p_E X d mi 0 (p_in0 mi as) [] h Q
theorem p_E.mono {X : pX} {d mi pc : Nat} {ls : pL} {st : List Value} {h : List pE} {Q Q' : pR → Prop} (k : p_E X d mi pc ls st h Q) (hq : ∀ r, Q r → Q' r) : p_E X d mi pc ls st h Q' := by
  obtain ⟨n, r, h1, h2⟩ := k
  exact ⟨n, r, h1, hq r h2⟩
def p_plain (mi : Nat) (ins : Instr) : Bool := match ins with
  | .invokevirtual i => (p_mtV (p_own mi) i).isNone
  | .invokestatic i => (p_mtS (p_own mi) i).isNone
  | .invokespecial i => (p_mtI (p_own mi) i).isNone
  | .return_ => false
  | .ireturn => false
  | .lreturn => false
  | .ifCond _ _ => false
  | .if_icmp _ _ => false
  | .tableswitch _ _ _ _ => false
  | .lookupswitch _ _ => false
  | .new i => (p_exn (p_own mi) i).isNone
  | .athrow => false
  | _ => true
theorem p_plain_ok {mi : Nat} {ins : Instr} (h : p_plain mi ins = true) (pc : Nat) (st : List Value) : p_calls mi ins = none ∧ p_ret mi ins st = none ∧ p_jmp pc ins st = none ∧ p_swi pc ins st = none ∧ p_thr mi pc ins = none := by
  cases ins <;> simp_all [p_plain, p_calls, p_ret, p_jmp, p_swi, p_thr]
def p_one (X : pX) (d mi pc : Nat) (ls : pL) (st : List Value) (h : List pE) : Option (pT × Prop) :=
  match p_code mi pc with
  | none => none
  | some (ins, len) => bif p_plain mi ins then p_step X d mi pc ls st h ins len else none
/-- a stretch of plain instructions -/
def p_run (X : pX) (d mi : Nat) : Nat → Nat → pL → List Value → List pE → Option (pT × Prop)
  | 0, pc, ls, st, h => some ((pc, ls, st, h), True)
  | K + 1, pc, ls, st, h => match p_one X d mi pc ls st h with
    | none => none
    | some ((pc', ls', st', h'), C) => match p_run X d mi K pc' ls' st' h' with
      | none => none
      | some (s, C') => some (s, C ∧ C')
theorem R_one {X : pX} {d mi pc pc' : Nat} {ls ls' : pL} {st st' : List Value} {h h' : List pE} {C : Prop} {Q : pR → Prop} (hs : p_one X d mi pc ls st h = some ((pc', ls', st', h'), C)) (hC : C) (k : p_E X d mi pc' ls' st' h' Q) : p_E X d mi pc ls st h Q := by
  obtain ⟨n, r, h1, h2⟩ := k
  refine ⟨n + 1, r, ?_, h2⟩
  unfold p_one at hs
  show p_F X (p_ex X n) d mi pc ls st h = some r
  unfold p_F
  cases hc : p_code mi pc with
  | none => rw [hc] at hs; cases hs
  | some q =>
    obtain ⟨ins, len⟩ := q
    rw [hc] at hs
    dsimp only at hs ⊢
    cases hp : p_plain mi ins with
    | false => rw [hp] at hs; cases hs
    | true =>
      rw [hp] at hs
      dsimp only [cond_true] at hs
      obtain ⟨g1, g2, g3, g4, g5⟩ := p_plain_ok hp pc st
      rw [g1, g2, g3, g4, g5, hs]
      dsimp only
      rw [p_if_t hC]
      exact h1
theorem R_run {X : pX} {d mi : Nat} (K : Nat) {pc pc' : Nat} {ls ls' : pL} {st st' : List Value} {h h' : List pE} {C : Prop} {Q : pR → Prop} (hs : p_run X d mi K pc ls st h = some ((pc', ls', st', h'), C)) (hC : C) (k : p_E X d mi pc' ls' st' h' Q) : p_E X d mi pc ls st h Q := by
  induction K generalizing pc ls st h C with
  | zero => cases hs; exact k
  | succ K ih =>
    unfold p_run at hs
    cases h1 : p_one X d mi pc ls st h with
    | none => rw [h1] at hs; cases hs
    | some q =>
      obtain ⟨⟨pc1, ls1, st1, hh1⟩, C1⟩ := q
      rw [h1] at hs
      dsimp only at hs
      cases h2 : p_run X d mi K pc1 ls1 st1 hh1 with
      | none => rw [h2] at hs; cases hs
      | some q =>
        obtain ⟨s2, C2⟩ := q
        rw [h2] at hs
        dsimp only at hs
        cases hs
        exact R_one h1 hC.1 (ih h2 hC.2)
theorem R_jmp {X : pX} {d mi pc t e len : Nat} {ins : Instr} {ls : pL} {st r : List Value} {h : List pE} {c C : Prop} {Q : pR → Prop} (hc : p_code mi pc = some (ins, len)) (hj : p_jmp pc ins st = some (c, t, e, r, C)) (hC : C) (kt : c → p_E X d mi t ls r h Q) (kf : ¬ c → p_E X d mi e ls r h Q) : p_E X d mi pc ls st h Q := by
  have g : p_calls mi ins = none ∧ p_ret mi ins st = none := by
    cases ins <;> simp_all [p_calls, p_ret, p_jmp]
  have key : ∀ n, p_F X (p_ex X n) d mi pc ls st h = p_if c (p_ex X n d mi t ls r h) (p_ex X n d mi e ls r h) := by
    intro n
    unfold p_F
    rw [hc]
    dsimp only
    rw [g.1, g.2, hj]
    dsimp only
    rw [p_if_t hC]
  by_cases hq : c
  · obtain ⟨n, r', h1, h2⟩ := kt hq
    exact ⟨n + 1, r', by show p_F X (p_ex X n) d mi pc ls st h = some r'; rw [key, p_if_t hq]; exact h1, h2⟩
  · obtain ⟨n, r', h1, h2⟩ := kf hq
    exact ⟨n + 1, r', by show p_F X (p_ex X n) d mi pc ls st h = some r'; rw [key, p_if_f hq]; exact h1, h2⟩
theorem R_swi {X : pX} {d mi pc t len : Nat} {ins : Instr} {ls : pL} {st r : List Value} {h : List pE} {C : Prop} {Q : pR → Prop} (hc : p_code mi pc = some (ins, len)) (hj : p_swi pc ins st = some (t, r, C)) (hC : C) (k : p_E X d mi t ls r h Q) : p_E X d mi pc ls st h Q := by
  have g : p_calls mi ins = none ∧ p_ret mi ins st = none ∧ p_jmp pc ins st = none := by
    cases ins <;> simp_all [p_calls, p_ret, p_jmp, p_swi]
  obtain ⟨n, r', h1, h2⟩ := k
  refine ⟨n + 1, r', ?_, h2⟩
  show p_F X (p_ex X n) d mi pc ls st h = some r'
  unfold p_F
  rw [hc]
  dsimp only
  rw [g.1, g.2.1, g.2.2, hj]
  dsimp only
  rw [p_if_t hC]
  exact h1
theorem R_ret {X : pX} {d mi pc len : Nat} {ins : Instr} {ls : pL} {st : List Value} {h : List pE} {v : Option Value} {C : Prop} {Q : pR → Prop} (hc : p_code mi pc = some (ins, len)) (hj : p_ret mi ins st = some (v, C)) (hC : C) (k : Q (.inl v, h)) : p_E X d mi pc ls st h Q := by
  have g : p_calls mi ins = none := by
    cases ins <;> simp_all [p_calls, p_ret]
  refine ⟨1, (.inl v, h), ?_, k⟩
  show p_F X (p_ex X 0) d mi pc ls st h = some (.inl v, h)
  unfold p_F
  rw [hc]
  dsimp only
  rw [g, hj]
  dsimp only
  rw [p_if_t hC]
theorem R_call {X : pX} {d mi pc cm na : Nat} {ins : Instr} {ls : pL} {st as rest : List Value} {h : List pE} {Q : pR → Prop} (hc : p_code mi pc = some (ins, 3)) (hm : p_calls mi ins = some (cm, na)) (hp : p_pop na [] st = some (as, rest)) (hr : (p_recv cm as h && Nat.ble (p_words rest) 8) = true)
    (k : p_M X d cm as h (fun q => match q.1 with
      | .inl v => p_E X (d + 1) mi (pc + 3) ls (v.toList ++ rest) q.2 Q
      | .inr x => (match p_hdl mi pc x q.2 with
        | some t => p_E X (d + 1) mi t ls [.ref x] q.2 Q
        | none => p_hh mi = [] ∧ Q q))) : p_E X (d + 1) mi pc ls st h Q := by
  obtain ⟨n, ⟨q1, h1⟩, e1, e2⟩ := k
  have key : ∀ n', n ≤ n' → ∀ r, (match q1 with
      | .inl v => p_ex X n' (d + 1) mi (pc + 3) ls (v.toList ++ rest) h1
      | .inr x => (match p_hdl mi pc x h1 with
        | some t => p_ex X n' (d + 1) mi t ls [.ref x] h1
        | none => p_if (p_hh mi = []) (some (.inr x, h1)) none)) = some r → p_ex X (n' + 1) (d + 1) mi pc ls st h = some r := by
    intro n' hn r hr2
    have e3 := p_ex_le X hn e1
    show p_F X (p_ex X n') (d + 1) mi pc ls st h = some r
    unfold p_F
    rw [hc]
    dsimp only
    rw [hm]
    dsimp only
    rw [hp]
    dsimp only
    rw [hr]
    simp only [Bool.true_and, Nat.beq_refl, cond_true]
    rw [e3]
    cases q1 with
    | inl v => exact hr2
    | inr x => exact hr2
  cases q1 with
  | inl v =>
    obtain ⟨n2, r, g1, g2⟩ := e2
    exact ⟨max n n2 + 1, r, key _ (Nat.le_max_left _ _) r (p_ex_le X (Nat.le_max_right _ _) g1), g2⟩
  | inr x =>
    dsimp only at e2
    cases hh : p_hdl mi pc x h1 with
    | none =>
      rw [hh] at e2
      exact ⟨n + 1, (.inr x, h1), key n (Nat.le_refl _) _ (by dsimp only; rw [hh]; exact p_if_t e2.1), e2.2⟩
    | some t =>
      rw [hh] at e2
      obtain ⟨n2, r, g1, g2⟩ := e2
      exact ⟨max n n2 + 1, r, key _ (Nat.le_max_left _ _) r (by dsimp only; rw [hh]; exact p_ex_le X (Nat.le_max_right _ _) g1), g2⟩
/-- a throw -/
theorem R_thr {X : pX} {d mi pc ci len : Nat} {ins : Instr} {ls : pL} {st : List Value} {h : List pE} {Q : pR → Prop} (hc : p_code mi pc = some (ins, len)) (ht : p_thr mi pc ins = some ci) (hC : 8 ≤ d ∧ p_words st ≤ 4 ∧ p_hh mi = []) (k : Q (.inr h.length, h ++ [.inr (ci, [])])) : p_E X d mi pc ls st h Q := by
  have g : p_calls mi ins = none ∧ p_ret mi ins st = none ∧ p_jmp pc ins st = none ∧ p_swi pc ins st = none := by
    cases ins <;> simp_all [p_calls, p_ret, p_jmp, p_swi, p_thr]
  refine ⟨1, (.inr h.length, h ++ [.inr (ci, [])]), ?_, k⟩
  show p_F X (p_ex X 0) d mi pc ls st h = some _
  unfold p_F
  rw [hc]
  dsimp only
  rw [g.1, g.2.1, g.2.2.1, g.2.2.2, ht]
  dsimp only
  rw [p_if_t hC]
/-- a call that returns -/
theorem R_callr {X : pX} {d mi pc cm na : Nat} {ins : Instr} {ls : pL} {st as rest : List Value} {h h1 : List pE} {v : Option Value} {Q : pR → Prop} (hc : p_code mi pc = some (ins, 3)) (hm : p_calls mi ins = some (cm, na)) (hp : p_pop na [] st = some (as, rest)) (hr : (p_recv cm as h && Nat.ble (p_words rest) 8) = true)
    (hM : p_M X d cm as h (fun q => q = (.inl v, h1))) (k : p_E X (d + 1) mi (pc + 3) ls (v.toList ++ rest) h1 Q) : p_E X (d + 1) mi pc ls st h Q :=
  R_call hc hm hp hr (hM.mono (fun q e => by subst e; exact k))
