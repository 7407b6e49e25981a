/-! THE MINI-MACHINE: a pure interpreter of the bytecode that the claim reaches. A cell is (kind, contents): kinds 0 to 4 are the objects of the five classes (contents: the fields in order), 5 int[], 6 long[], 7 Act[], 8 Bell[], 9 int[][]. A heap is (the next address, slots used, cells). Address 0 is the script, which lies apart. -/
abbrev mm_C : Type := Nat × List Value
abbrev mm_H : Type := Nat × Nat × (Nat → Option mm_C)
abbrev mm_L : Type := List (Nat × Value)
abbrev mm_R : Type := (Nat × mm_L × List Value × mm_H) ⊕ ((mm_T × List Value × List Value) ⊕ Option Value)
def mm_up (h : mm_H) (a : Nat) (c : mm_C) : mm_H := (h.1, h.2.1, fun x => if x = a then some c else h.2.2 x)
def mm_new (h : mm_H) (c : mm_C) : mm_H := (h.1 + 1, h.2.1 + c.2.length, fun x => if x = h.1 then some c else h.2.2 x)
def mm_lk (ls : mm_L) (i : Nat) : Option Value := (ls.find? (fun q => q.1 == i)).map (fun q => q.2)
def mm_st1 (ls : mm_L) (i : Nat) (v : Value) : mm_L := (i, v) :: ls.filter (fun q => !(q.1 == i) && !(q.1 + 1 == i && q.2.category == 2))
def mm_st2 (ls : mm_L) (i : Nat) (v : Value) : mm_L := (i, v) :: ls.filter (fun q => !(q.1 == i) && (!(q.1 == i + 1) && !(q.1 + 1 == i && q.2.category == 2)))
def mm_fld (o i : Nat) : Option (Nat × Nat) := (mm_fldL.find? (fun e => e.1 == o && e.2.1 == i)).map (fun e => e.2.2)
def mm_mth (o i : Nat) : Option (Nat × mm_T) := (mm_mthL.find? (fun e => e.1 == o && e.2.1 == i)).map (fun e => e.2.2)
def mm_cls (o i : Nat) : Option Nat := (mm_clsL.find? (fun e => e.1 == o && e.2.1 == i)).map (fun e => e.2.2)
def mm_ldc (o i : Nat) : Option Int64 := (mm_ldcL.find? (fun e => e.1 == o && e.2.1 == i)).map (fun e => e.2.2)
def mm_max (o i : Nat) : Option Nat := (mm_maxL.find? (fun e => e.1 == o && e.2.1 == i)).map (fun e => e.2.2)
def mm_df (i : Nat) : List Value := (List.range (mm_N i)).map (fun k => defaultValue (mm_ty i k))
def mm_ld (ty pc : Nat) (ls : mm_L) (st : List Value) (h : mm_H) (i : Nat) : Option mm_R := match ty, mm_lk ls i with
  | 0, some (.int x) => some (.inl (pc, ls, .int x :: st, h))
  | 1, some (.long x) => some (.inl (pc, ls, .long x :: st, h))
  | 2, some (.ref x) => some (.inl (pc, ls, .ref x :: st, h))
  | 2, some .null => some (.inl (pc, ls, .null :: st, h))
  | _, _ => none
def mm_sto (ty nL pc : Nat) (ls : mm_L) (st : List Value) (h : mm_H) (i : Nat) : Option mm_R := match ty, st with
  | 0, .int x :: r => if i < nL then some (.inl (pc, mm_st1 ls i (.int x), r, h)) else none
  | 1, .long x :: r => if i + 1 < nL then some (.inl (pc, mm_st2 ls i (.long x), r, h)) else none
  | 2, .ref x :: r => if i < nL then some (.inl (pc, mm_st1 ls i (.ref x), r, h)) else none
  | 2, .null :: r => if i < nL then some (.inl (pc, mm_st1 ls i .null, r, h)) else none
  | _, _ => none
def mm_cmp (c : Jvm.ClassFile.Cond) (x y : Int32) : Bool := match c with
  | .eq => decide (x = y)
  | .ne => decide (¬ x = y)
  | .lt => decide (x < y)
  | .ge => decide (y ≤ x)
  | .gt => decide (y < x)
  | .le => decide (x ≤ y)
def mm_go (pc : Nat) (off : Int) (ls : mm_L) (st : List Value) (h : mm_H) : Option mm_R := if 0 ≤ (pc : Int) + off then some (.inl (((pc : Int) + off).toNat, ls, st, h)) else none
def mm_bi (ins : Instr) (x y : Int32) : Option Int32 := match ins with
  | .iadd => some (x + y)
  | .isub => some (x - y)
  | .imul => some (x * y)
  | .iand => some (x &&& y)
  | .irem => if y = 0 then none else some (x - x / y * y)
  | _ => none
def mm_bl (ins : Instr) (x y : Int64) : Option Int64 := match ins with
  | .ladd => some (x + y)
  | .land => some (x &&& y)
  | .lor => some (x ||| y)
  | .ldiv => if y = 0 then none else some (x / y)
  | _ => none
def mm_ix (vs : List Value) (j : Int32) : Option Value := if j < 0 then none else vs[j.toNatClampNeg]?
/-- a call: its arguments (this among them) off the stack, the words left below -/
def mm_call (t : mm_T) (n : Nat) (st : List Value) : Option mm_R :=
  if n ≤ st.length ∧ ((st.drop n).map fun v => v.category).sum ≤ 8 ∧ ((st.take n).map fun v => v.category).sum ≤ t.2.2.2.1 then some (.inr (.inl (t, (st.take n).reverse, st.drop n))) else none
/-- the receiver of a call is an object of kind k -/
def mm_this (h : mm_H) (n k : Nat) (st : List Value) : Bool := match st[n]? with
  | some (.ref a) => match h.2.2 a with
    | some c => c.1 == k
    | none => false
  | _ => false
def mm_rows (b : Nat) (k : Nat) : Nat → (Nat → Option mm_C) → Nat → Option mm_C
  | 0, f => f
  | n + 1, f => fun x => if x = b + n then some (5, List.replicate k (.int 0)) else mm_rows b k n f x
def mm_grid (h : mm_H) (n k : Nat) : mm_H := (h.1 + 1 + n, h.2.1 + (n + n * k), fun x => if x = h.1 then some (9, (List.range n).map (fun i => Value.ref (h.1 + 1 + i))) else mm_rows (h.1 + 1) k n h.2.2 x)
def mm_okv (h : mm_H) (k : Nat) (v : Value) : Bool := match v with
  | .null => true
  | .ref a => match h.2.2 a with
    | some c => c.1 == k
    | none => false
  | _ => false
def mm_x (sc : Option (List Int32)) (F : Nat) (M : mm_T) (ins : Instr) (pc : Nat) (ls : mm_L) (st : List Value) (h : mm_H) : Option mm_R := match ins with
  | .iconst n => some (.inl (pc + 1, ls, .int (Int32.ofInt n) :: st, h))
  | .bipush n => some (.inl (pc + 2, ls, .int (Int8.ofInt n).toInt32 :: st, h))
  | .sipush n => some (.inl (pc + 3, ls, .int (Int16.ofInt n).toInt32 :: st, h))
  | .lconst n => some (.inl (pc + 1, ls, .long (Int64.ofNat (n : Nat)) :: st, h))
  | .aconst_null => some (.inl (pc + 1, ls, .null :: st, h))
  | .ldc2_w i => match mm_ldc M.1 i with
    | some x => some (.inl (pc + 3, ls, .long x :: st, h))
    | none => none
  | .iload_n k => mm_ld 0 (pc + 1) ls st h k
  | .iload i => mm_ld 0 (pc + 2) ls st h i
  | .lload_n k => mm_ld 1 (pc + 1) ls st h k
  | .lload i => mm_ld 1 (pc + 2) ls st h i
  | .aload_n k => mm_ld 2 (pc + 1) ls st h k
  | .aload i => mm_ld 2 (pc + 2) ls st h i
  | .istore_n k => mm_sto 0 M.2.2.2.1 (pc + 1) ls st h k
  | .istore i => mm_sto 0 M.2.2.2.1 (pc + 2) ls st h i
  | .lstore_n k => mm_sto 1 M.2.2.2.1 (pc + 1) ls st h k
  | .lstore i => mm_sto 1 M.2.2.2.1 (pc + 2) ls st h i
  | .astore_n k => mm_sto 2 M.2.2.2.1 (pc + 1) ls st h k
  | .astore i => mm_sto 2 M.2.2.2.1 (pc + 2) ls st h i
  | .iinc i n => match mm_lk ls i with
    | some (.int x) => if i < M.2.2.2.1 then some (.inl (pc + 3, mm_st1 ls i (.int (x + Int32.ofInt n)), st, h)) else none
    | _ => none
  | .dup => match st with
    | v :: r => if v.category = 1 then some (.inl (pc + 1, ls, v :: v :: r, h)) else none
    | _ => none
  | .pop => match st with
    | v :: r => if v.category = 1 then some (.inl (pc + 1, ls, r, h)) else none
    | _ => none
  | .dup_x1 => match st with
    | v :: u :: r => if v.category = 1 ∧ u.category = 1 then some (.inl (pc + 1, ls, v :: u :: v :: r, h)) else none
    | _ => none
  | .dup2 => match st with
    | v :: u :: r => if v.category = 1 ∧ u.category = 1 then some (.inl (pc + 1, ls, v :: u :: v :: u :: r, h)) else none
    | _ => none
  | .i2l => match st with
    | .int x :: r => some (.inl (pc + 1, ls, .long x.toInt64 :: r, h))
    | _ => none
  | .l2i => match st with
    | .long x :: r => some (.inl (pc + 1, ls, .int x.toInt32 :: r, h))
    | _ => none
  | .lshl => match st with
    | .int y :: .long x :: r => some (.inl (pc + 1, ls, .long (x <<< (y.toInt64 &&& 63)) :: r, h))
    | _ => none
  | .lcmp => match st with
    | .long y :: .long x :: r => some (.inl (pc + 1, ls, .int (lg_cmp x y) :: r, h))
    | _ => none
  | .ifCond c off => match st with
    | .int x :: r => if mm_cmp c x 0 = true then mm_go pc off ls r h else some (.inl (pc + 3, ls, r, h))
    | _ => none
  | .if_icmp c off => match st with
    | .int y :: .int x :: r => if mm_cmp c x y = true then mm_go pc off ls r h else some (.inl (pc + 3, ls, r, h))
    | _ => none
  | .ifnonnull off => match st with
    | .null :: r => some (.inl (pc + 3, ls, r, h))
    | .ref _ :: r => mm_go pc off ls r h
    | _ => none
  | .goto off => mm_go pc off ls st h
  | .tableswitch d lo hi offs => match st with
    | .int x :: r => if x.toInt < lo ∨ hi < x.toInt then mm_go pc d ls r h else match offs[(x.toInt - lo).toNat]? with
      | some o => mm_go pc o ls r h
      | none => none
    | _ => none
  | .getfield i => match st, mm_fld M.1 i with
    | .ref a :: r, some (ci, k) => match h.2.2 a with
      | some c => if c.1 = ci then match c.2[k]? with
        | some v => some (.inl (pc + 3, ls, v :: r, h))
        | none => none
        else none
      | none => none
    | _, _ => none
  | .putfield i => match st, mm_fld M.1 i with
    | v :: .ref a :: r, some (ci, k) => match h.2.2 a with
      | some c => if c.1 = ci ∧ k < c.2.length ∧ narrow (mm_ty ci k) v = v ∧ fits (mm_ty ci k) v = true ∧ ((mm_F ci k).2.2.2 = false ∨ (M.2.1.name = "<init>" ∧ M.1 = ci)) then some (.inl (pc + 3, ls, r, mm_up h a (ci, c.2.set k v))) else none
      | none => none
    | _, _ => none
  | .iaload => match st with
    | .int j :: .ref a :: r => if a = 0 then match sc with
        | some xs => if j < 0 then none else match xs[j.toNatClampNeg]? with
          | some x => some (.inl (pc + 1, ls, .int x :: r, h))
          | none => none
        | none => none
      else match h.2.2 a with
        | some c => if c.1 = 5 then match mm_ix c.2 j with
          | some v => some (.inl (pc + 1, ls, v :: r, h))
          | none => none
          else none
        | none => none
    | _ => none
  | .laload => match st with
    | .int j :: .ref a :: r => match h.2.2 a with
      | some c => if c.1 = 6 then match mm_ix c.2 j with
        | some v => some (.inl (pc + 1, ls, v :: r, h))
        | none => none
        else none
      | none => none
    | _ => none
  | .aaload => match st with
    | .int j :: .ref a :: r => match h.2.2 a with
      | some c => if c.1 = 7 ∨ c.1 = 8 ∨ c.1 = 9 then match mm_ix c.2 j with
        | some v => some (.inl (pc + 1, ls, v :: r, h))
        | none => none
        else none
      | none => none
    | _ => none
  | .iastore => match st with
    | .int x :: .int j :: .ref a :: r => match h.2.2 a with
      | some c => if c.1 = 5 ∧ ¬ j < 0 ∧ j.toNatClampNeg < c.2.length then some (.inl (pc + 1, ls, r, mm_up h a (5, c.2.set j.toNatClampNeg (.int x)))) else none
      | none => none
    | _ => none
  | .lastore => match st with
    | .long x :: .int j :: .ref a :: r => match h.2.2 a with
      | some c => if c.1 = 6 ∧ ¬ j < 0 ∧ j.toNatClampNeg < c.2.length then some (.inl (pc + 1, ls, r, mm_up h a (6, c.2.set j.toNatClampNeg (.long x)))) else none
      | none => none
    | _ => none
  | .aastore => match st with
    | v :: .int j :: .ref a :: r => match h.2.2 a with
      | some c => if ((c.1 = 7 ∧ mm_okv h 0 v = true) ∨ (c.1 = 8 ∧ mm_okv h 1 v = true)) ∧ ¬ j < 0 ∧ j.toNatClampNeg < c.2.length then some (.inl (pc + 1, ls, r, mm_up h a (c.1, c.2.set j.toNatClampNeg v))) else none
      | none => none
    | _ => none
  | .arraylength => match st, sc with
    | .ref a :: r, some xs => if a = 0 then some (.inl (pc + 1, ls, .int (Int32.ofNat xs.length) :: r, h)) else none
    | _, _ => none
  | .newarray ty => match st, ty with
    | .int n :: r, .int => if n < 0 ∨ 10000 < n.toNatClampNeg then none else some (.inl (pc + 2, ls, .ref h.1 :: r, mm_new h (5, List.replicate n.toNatClampNeg (.int 0))))
    | .int n :: r, .long => if n < 0 ∨ 10000 < n.toNatClampNeg then none else some (.inl (pc + 2, ls, .ref h.1 :: r, mm_new h (6, List.replicate n.toNatClampNeg (.long 0))))
    | _, _ => none
  | .anewarray i => match st, mm_cls M.1 i with
    | .int n :: r, some k => if n < 0 ∨ 10000 < n.toNatClampNeg ∨ 1 < k then none else some (.inl (pc + 3, ls, .ref h.1 :: r, mm_new h (7 + k, List.replicate n.toNatClampNeg .null)))
    | _, _ => none
  | .multianewarray i d => match st, mm_cls M.1 i with
    | .int k :: .int n :: r, some 9 => if n < 0 ∨ k < 0 ∨ 10000 < n.toNatClampNeg ∨ 10000 < k.toNatClampNeg ∨ ¬ d = 2 then none else some (.inl (pc + 4, ls, .ref h.1 :: r, mm_grid h n.toNatClampNeg k.toNatClampNeg))
    | _, _ => none
  | .new i => match mm_cls M.1 i with
    | some k => if 4 < k then none else some (.inl (pc + 3, ls, .ref h.1 :: st, mm_new h (k, mm_df k)))
    | none => none
  | .invokestatic i => match mm_max M.1 i with
    | some k => match k, st with
      | 0, .int y :: .int x :: r => if 1 ≤ F ∧ (r.map fun v => v.category).sum ≤ 8 then some (.inl (pc + 3, ls, .int (if x < y then y else x) :: r, h)) else none
      | 1, .long y :: .long x :: r => if 1 ≤ F ∧ (r.map fun v => v.category).sum ≤ 8 then some (.inl (pc + 3, ls, .long (if y < x then x else y) :: r, h)) else none
      | _, _ => none
    | none => match mm_mth M.1 i with
      | some (0, t) => mm_call t t.2.2.2.2.2 st
      | _ => none
  | .invokevirtual i => match mm_mth M.1 i with
    | some (1, t) => if mm_this h t.2.2.2.2.2 t.1 st = true then mm_call t (t.2.2.2.2.2 + 1) st else none
    | _ => none
  | .invokespecial i => if mm_objL.contains (M.1, i) then match st with
      | .ref _ :: r => if 1 ≤ F ∧ (r.map fun v => v.category).sum ≤ 8 then some (.inl (pc + 3, ls, r, h)) else none
      | _ => none
    else match mm_mth M.1 i with
      | some (k, t) => if (k = 2 ∨ k = 3) ∧ mm_this h t.2.2.2.2.2 t.1 st = true then mm_call t (t.2.2.2.2.2 + 1) st else none
      | _ => none
  | .ireturn => match st with
    | [.int v] => if M.2.2.2.2.1 = some .int ∨ (M.2.2.2.2.1 = some .boolean ∧ (v = 0 ∨ v = 1)) then some (.inr (.inr (some (.int v)))) else none
    | _ => none
  | .lreturn => match st with
    | [.long v] => if M.2.2.2.2.1 = some .long then some (.inr (.inr (some (.long v)))) else none
    | _ => none
  | .return_ => match st with
    | [] => if M.2.2.2.2.1 = none then some (.inr (.inr none)) else none
    | _ => none
  | _ => match st with
    | .int y :: .int x :: r => match mm_bi ins x y with
      | some v => some (.inl (pc + 1, ls, .int v :: r, h))
      | none => none
    | .long y :: .long x :: r => match mm_bl ins x y with
      | some v => some (.inl (pc + 1, ls, .long v :: r, h))
      | none => none
    | _ => none
/-- how long an instruction is -/
def mm_ln (ins : Instr) : Nat := match ins with
  | .bipush _ | .iload _ | .lload _ | .aload _ | .istore _ | .lstore _ | .astore _ | .newarray _ => 2
  | .sipush _ | .ldc2_w _ | .iinc _ _ | .ifCond _ _ | .if_icmp _ _ | .ifnonnull _ | .goto _ | .getfield _ | .putfield _ | .invokevirtual _ | .invokestatic _ | .invokespecial _ | .new _ | .anewarray _ => 3
  | .multianewarray _ _ => 4
  | .tableswitch _ _ _ _ => 0
  | _ => 1
def mm_at (M : mm_T) (pc : Nat) : Option Instr := match decode M.2.2.1 pc with
  | .ok (ins, len) => if mm_ln ins = 0 ∨ mm_ln ins = len then some ins else none
  | .error _ => none
/-- a run: by fuel n, with room for F frames more -/
def mm_run : Nat → Option (List Int32) → Nat → mm_T → Nat → mm_L → List Value → mm_H → Option (Option Value × mm_H)
  | 0, _, _, _, _, _, _, _ => none
  | n + 1, sc, F, M, pc, ls, st, h => match mm_at M pc with
    | none => none
    | some ins => match mm_x sc F M ins pc ls st h with
      | none => none
      | some (.inl (pc', ls', st', h')) => mm_run n sc F M pc' ls' st' h'
      | some (.inr (.inl (t, as, rest))) => match F with
        | 0 => none
        | F' + 1 => match mm_run n none F' t 0 (lv_args 0 as) [] h with
          | none => none
          | some (r, h') => mm_run n sc (F' + 1) M (pc + 3) ls (r.toList ++ rest) h'
      | some (.inr (.inr r)) => some (r, h)
/-- the run comes to its end, and the end is as P says -/
def mW (sc : Option (List Int32)) (F : Nat) (M : mm_T) (pc : Nat) (ls : mm_L) (st : List Value) (h : mm_H) (P : Option Value → mm_H → Prop) : Prop :=
  ∃ n r h', mm_run n sc F M pc ls st h = some (r, h') ∧ P r h'
