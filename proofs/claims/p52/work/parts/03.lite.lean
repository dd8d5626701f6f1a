/-! ===== a small machine of our own: ints are Ints (a sum out of range stops it), cells lie in a function, calls are pre-resolved ===== -/
abbrev zV : Type := Int ⊕ Option Nat
abbrev zR (z : Int) : Prop := -2147483648 ≤ z ∧ z ≤ 2147483647
abbrev zC : Type := (Nat × List zV) ⊕ ((Nat × Nat × (Nat → Int)) ⊕ (Nat × Nat × (Nat → Option Nat)))
abbrev zS : Type := Nat × Nat × (Nat → Option zC)
/-- a method: its bytes, locals, class number, constructor or not, frames below it, words of locals below it, name, what it returns -/
abbrev zM : Type := ByteArray × Nat × Nat × Bool × Nat × Nat × MethodName × Option FieldType
def zup (h : Nat → Option zC) (a : Nat) (e : zC) : Nat → Option zC := fun q => if q = a then some e else h q
def zfu {α : Type} (f : Nat → α) (k : Nat) (v : α) : Nat → α := fun j => if j = k then v else f j
def zcp {α : Type} (f g : Nat → α) (sp dp n : Nat) : Nat → α := fun j => if dp ≤ j ∧ j < dp + n then f (sp + (j - dp)) else g j
def zty : Nat → FieldType
  | 0 => .int
  | 1 => .byte
  | _ => .boolean
def zrt (t : Nat) : FieldType := if t = 99 then .array .int else .object ((vwCl.getD t (RX0, TX0, 0)).1)
/-- does a value fit a field or an array's place as it is -/
def zfit : FieldType → zV → Bool
  | .int, .inl _ => true
  | .byte, .inl z => decide (-128 ≤ z ∧ z ≤ 127)
  | .boolean, .inl z => decide (z = 0 ∨ z = 1)
  | .char, .inl z => decide (0 ≤ z ∧ z ≤ 65535)
  | .object _, .inr _ => true
  | .array _, .inr _ => true
  | _, _ => false
def zbit (o : Int32 → Int32 → Int32) (x y : Int) : Int := (o (Int32.ofInt x) (Int32.ofInt y)).toInt
def zush (a b : Int32) : Int32 := (a.toUInt32 >>> (b.toUInt32 &&& Int32.toUInt32 31)).toInt32
def zcond : ClassFile.Cond → Int → Int → Bool
  | .eq, x, y => decide (x = y)
  | .ne, x, y => decide (x ≠ y)
  | .lt, x, y => decide (x < y)
  | .ge, x, y => decide (y ≤ x)
  | .gt, x, y => decide (y < x)
  | .le, x, y => decide (x ≤ y)
/-- instructions of locals, operands and numbers -/
def zA (ins : Instr) (len : Nat) (L : List (Option zV)) (st : List zV) : Option (List (Option zV) × List zV) :=
  match ins, len, st with
  | .aconst_null, 1, st => some (L, .inr none :: st)
  | .aload i, 2, st => match L[i]? with
    | some (some (.inr r)) => some (L, .inr r :: st)
    | _ => none
  | .aload_n i, 1, st => match L[i.val]? with
    | some (some (.inr r)) => some (L, .inr r :: st)
    | _ => none
  | .iload i, 2, st => match L[i]? with
    | some (some (.inl z)) => some (L, .inl z :: st)
    | _ => none
  | .iload_n i, 1, st => match L[i.val]? with
    | some (some (.inl z)) => some (L, .inl z :: st)
    | _ => none
  | .astore i, 2, .inr r :: st => if i < L.length then some (L.set i (some (.inr r)), st) else none
  | .astore_n i, 1, .inr r :: st => if i.val < L.length then some (L.set i.val (some (.inr r)), st) else none
  | .istore i, 2, .inl z :: st => if i < L.length then some (L.set i (some (.inl z)), st) else none
  | .istore_n i, 1, .inl z :: st => if i.val < L.length then some (L.set i.val (some (.inl z)), st) else none
  | .iconst n, 1, st => if zR n then some (L, .inl n :: st) else none
  | .bipush n, 2, st => if -128 ≤ n ∧ n ≤ 127 then some (L, .inl n :: st) else none
  | .sipush n, 3, st => if -32768 ≤ n ∧ n ≤ 32767 then some (L, .inl n :: st) else none
  | .dup, 1, v :: st => some (L, v :: v :: st)
  | .pop, 1, _ :: st => some (L, st)
  | .dup_x1, 1, v :: w :: st => some (L, v :: w :: v :: st)
  | .dup2, 1, v :: w :: st => some (L, v :: w :: v :: w :: st)
  | .iadd, 1, .inl y :: .inl x :: st => if zR (x + y) then some (L, .inl (x + y) :: st) else some (L, .inl (zbit (fun a b => a + b) x y) :: st)
  | .isub, 1, .inl y :: .inl x :: st => if zR (x - y) then some (L, .inl (x - y) :: st) else some (L, .inl (zbit (fun a b => a - b) x y) :: st)
  | .imul, 1, .inl y :: .inl x :: st => if zR (x * y) then some (L, .inl (x * y) :: st) else some (L, .inl (zbit (fun a b => a * b) x y) :: st)
  | .idiv, 1, .inl y :: .inl x :: st => if y ≠ 0 ∧ zR (x.tdiv y) then some (L, .inl (x.tdiv y) :: st) else none
  | .irem, 1, .inl y :: .inl x :: st => if y ≠ 0 ∧ zR (x.tdiv y) then some (L, .inl (x.tmod y) :: st) else none
  | .ineg, 1, .inl x :: st => if zR (-x) then some (L, .inl (-x) :: st) else none
  | .iand, 1, .inl y :: .inl x :: st => some (L, .inl (zbit (fun a b => a &&& b) x y) :: st)
  | .ior, 1, .inl y :: .inl x :: st => some (L, .inl (zbit (fun a b => a ||| b) x y) :: st)
  | .ixor, 1, .inl y :: .inl x :: st => some (L, .inl (zbit (fun a b => a ^^^ b) x y) :: st)
  | .ishl, 1, .inl y :: .inl x :: st => some (L, .inl (zbit (fun a b => a <<< (b &&& 31)) x y) :: st)
  | .ishr, 1, .inl y :: .inl x :: st => some (L, .inl (zbit (fun a b => a >>> (b &&& 31)) x y) :: st)
  | .iushr, 1, .inl y :: .inl x :: st => some (L, .inl (zbit zush x y) :: st)
  | .i2b, 1, .inl x :: st => if -128 ≤ x ∧ x ≤ 127 then some (L, .inl x :: st) else none
  | .i2c, 1, .inl x :: st => if 0 ≤ x ∧ x ≤ 65535 then some (L, .inl x :: st) else none
  | .iinc i n, 3, st => match L[i]? with
    | some (some (.inl z)) => if zR (z + n) then some (L.set i (some (.inl (z + n))), st) else none
    | _ => none
  | _, _, _ => none
def ztgt (pc : Nat) (off : Int) : Option Nat := if 0 ≤ (pc : Int) + off then some ((pc : Int) + off).toNat else none
/-- jumps -/
def zB (ins : Instr) (len : Nat) (pc : Nat) (st : List zV) : Option (Nat × List zV) :=
  match ins, len, st with
  | .goto off, 3, st => (ztgt pc off).map fun t => (t, st)
  | .ifCond c off, 3, .inl x :: st => (ztgt pc off).map fun t => (bif zcond c x 0 then t else pc + 3, st)
  | .if_icmp c off, 3, .inl y :: .inl x :: st => (ztgt pc off).map fun t => (bif zcond c x y then t else pc + 3, st)
  | .ifnull off, 3, .inr r :: st => (ztgt pc off).map fun t => (bif r.isNone then t else pc + 3, st)
  | .ifnonnull off, 3, .inr r :: st => (ztgt pc off).map fun t => (bif r.isSome then t else pc + 3, st)
  | .tableswitch d lo hi offs, _, .inl x :: st =>
    if x < lo ∨ hi < x then (ztgt pc d).map fun t => (t, st) else
    match offs[(x - lo).toNat]? with
    | some off => (ztgt pc off).map fun t => (t, st)
    | none => none
  | _, _, _ => none
/-- the tables of links: (class, entry) to what it names -/
abbrev zTf : Type := Nat → Nat → Option (Nat × Nat)
abbrev zTm : Type := Nat → Nat → Option (Nat × Nat × Nat × zM)
abbrev zTn : Type := Nat → Nat → Option Nat
abbrev zTc : Type := Nat → Nat → Option Int
/-- what a field starts with, by its type -/
def zdf : FieldType → zV
  | .object _ => .inr none
  | .array _ => .inr none
  | _ => .inl 0
/-- the types of a class's fields; which are final -/
def zfty (ci : Nat) : Nat → FieldType := (([tyJ4, tyX0, tyX1, tyX2, tyX3, tyX4, tyX5, tyX6, tyX7, tyX8, tyX9] : List (Nat → FieldType)).getD ci tyX0)
def zcl (ci : Nat) : vw_C := vwCl.getD ci (RX0, TX0, 0)
def zfin (ci k : Nat) : Bool := ((zcl ci).2.1 k).2.2.2
/-- the classes' numbers: the class itself of a class that makes objects, else over 20 -/
def zcn (c : Nat) : String := if c < 11 then (zcl c).1 else ([RL, RJ0, RL, RJ2, RL, RJ5, RL, RJ7, RL, RJ9, RL] : List String).getD (c - 20) RL
def zat0 : ArrayType → Option Nat
  | .int => some 0
  | .byte => some 1
  | _ => none
def zrows (h : Nat → Option zC) (n N K : Nat) : Nat → Option zC := fun q =>
  if q = n then some (.inr (.inr (99, N, fun i => if i < N then some (n + 1 + i) else none))) else if n < q ∧ q < n + 1 + N then some (.inr (.inl (0, K, fun _ => 0))) else h q
section ZD
variable (n0 : Nat) (g : Nat → zV) (tf : zTf) (ts tk : zTn) (tc : zTc)
/-- instructions that read and write the heap, or make cells -/
def zD (ins : Instr) (len : Nat) (M : zM) (st : List zV) (σ : zS) : Option (List zV × zS) :=
  match ins, len, st with
  | .ldc idx, 2, st => match tc M.2.2.1 idx with
    | some z => if zR z then some (.inl z :: st, σ) else none
    | none => none
  | .getstatic idx, 3, st => match ts M.2.2.1 idx with
    | some i => some (g i :: st, σ)
    | none => none
  | .getfield idx, 3, .inr (some a) :: st => match tf M.2.2.1 idx, σ.2.2 a with
    | some (ci, k), some (.inl (cj, fs)) => if ci = cj then match fs[k]? with
      | some v => some (v :: st, σ)
      | none => none else none
    | _, _ => none
  | .putfield idx, 3, v :: .inr (some a) :: st => match tf M.2.2.1 idx, σ.2.2 a with
    | some (ci, k), some (.inl (cj, fs)) => if ci = cj ∧ k < fs.length ∧ n0 ≤ a ∧ zfit (zfty ci k) v = true ∧ (zfin ci k = true → M.2.2.2.1 = true ∧ ((zcl ci).2.1 k).1 = zcn M.2.2.1) then some (st, (σ.1, σ.2.1, zup σ.2.2 a (.inl (cj, fs.set k v)))) else none
    | _, _ => none
  | .arraylength, 1, .inr (some a) :: st => match σ.2.2 a with
    | some (.inr (.inl (_, N, _))) => some (.inl (N : Int) :: st, σ)
    | some (.inr (.inr (_, N, _))) => some (.inl (N : Int) :: st, σ)
    | _ => none
  | .iaload, 1, .inl i :: .inr (some a) :: st => match σ.2.2 a with
    | some (.inr (.inl (t, N, f))) => if t = 0 ∧ 0 ≤ i ∧ i < (N : Int) then some (.inl (f i.toNat) :: st, σ) else none
    | _ => none
  | .baload, 1, .inl i :: .inr (some a) :: st => match σ.2.2 a with
    | some (.inr (.inl (t, N, f))) => if (t = 1 ∨ t = 2) ∧ 0 ≤ i ∧ i < (N : Int) then some (.inl (f i.toNat) :: st, σ) else none
    | _ => none
  | .aaload, 1, .inl i :: .inr (some a) :: st => match σ.2.2 a with
    | some (.inr (.inr (_, N, f))) => if 0 ≤ i ∧ i < (N : Int) then some (.inr (f i.toNat) :: st, σ) else none
    | _ => none
  | .iastore, 1, .inl x :: .inl i :: .inr (some a) :: st => match σ.2.2 a with
    | some (.inr (.inl (t, N, f))) => if t = 0 ∧ 0 ≤ i ∧ i < (N : Int) ∧ n0 ≤ a then some (st, (σ.1, σ.2.1, zup σ.2.2 a (.inr (.inl (t, N, zfu f i.toNat x))))) else none
    | _ => none
  | .bastore, 1, .inl x :: .inl i :: .inr (some a) :: st => match σ.2.2 a with
    | some (.inr (.inl (t, N, f))) => if (t = 1 ∨ t = 2) ∧ 0 ≤ i ∧ i < (N : Int) ∧ n0 ≤ a ∧ zfit (zty t) (.inl x) = true then some (st, (σ.1, σ.2.1, zup σ.2.2 a (.inr (.inl (t, N, zfu f i.toNat x))))) else none
    | _ => none
  | .aastore, 1, .inr (some b) :: .inl i :: .inr (some a) :: st => match σ.2.2 a, σ.2.2 b with
    | some (.inr (.inr (t, N, f))), some (.inl (cj, _)) => if t = cj ∧ t < 11 ∧ 0 ≤ i ∧ i < (N : Int) ∧ n0 ≤ a then some (st, (σ.1, σ.2.1, zup σ.2.2 a (.inr (.inr (t, N, zfu f i.toNat (some b)))))) else none
    | _, _ => none
  | .new idx, 3, st => match tk M.2.2.1 idx with
    | some ci => if ci < 11 then some (.inr (some σ.1) :: st, (σ.1 + 1, σ.2.1 + (zcl ci).2.2, zup σ.2.2 σ.1 (.inl (ci, (List.range (zcl ci).2.2).map fun k => zdf (zfty ci k))))) else none
    | none => none
  | .newarray ty, 2, .inl N :: st => match zat0 ty with
    | some t => if 0 ≤ N ∧ N ≤ 65536 then some (.inr (some σ.1) :: st, (σ.1 + 1, σ.2.1 + N.toNat, zup σ.2.2 σ.1 (.inr (.inl (t, N.toNat, fun _ => 0))))) else none
    | none => none
  | .anewarray idx, 3, .inl N :: st => match tk M.2.2.1 idx with
    | some ci => if (ci = 1 ∨ ci = 8 ∨ ci = 9) ∧ 0 ≤ N ∧ N ≤ 65536 then some (.inr (some σ.1) :: st, (σ.1 + 1, σ.2.1 + N.toNat, zup σ.2.2 σ.1 (.inr (.inr (ci, N.toNat, fun _ => none))))) else none
    | none => none
  | .multianewarray idx 2, 4, .inl K :: .inl N :: st => match tk M.2.2.1 idx with
    | some 99 => if 0 ≤ N ∧ N ≤ 65536 ∧ 0 ≤ K ∧ K ≤ 65536 then some (.inr (some σ.1) :: st, (σ.1 + 1 + N.toNat, σ.2.1 + N.toNat + N.toNat * K.toNat, zrows σ.2.2 σ.1 N.toNat K.toNat)) else none
    | _ => none
  | _, _, _ => none
end ZD
/-- what an instruction asks for: go on; call a method with these arguments, then go on behind it with the rest; go back with an answer -/
abbrev zQq : Type := (Nat × List (Option zV) × List zV × zS) ⊕ (zM × List zV × List zV) ⊕ Option zV
def zretok : Option FieldType → Option zV → Bool
  | none, none => true
  | some ty, some v => zfit ty v
  | _, _ => false
/-- the room that a call takes of the caller's -/
def zroom (M M' : zM) : Bool := Nat.ble (M'.2.2.2.2.1 + 1) M.2.2.2.2.1 && Nat.ble (8 + (M'.2.1 + 11) + M'.2.2.2.2.2.1) M.2.2.2.2.2.1
section ZE
variable (n0 : Nat) (tm : zTm)
/-- calls and returns; the kinds of calls: 0 static, 1 virtual, 2 a constructor, 3 a nest mate's constructor, 4 inherited, 5 a superclass's, 6 Object's constructor, 7 arraycopy -/
def zE (ins : Instr) (len : Nat) (M : zM) (pc : Nat) (L : List (Option zV)) (st : List zV) (σ : zS) : Option zQq :=
  match ins, len, st with
  | .ireturn, 1, [.inl z] => if zretok M.2.2.2.2.2.2.2 (some (.inl z)) = true then some (.inr (.inr (some (.inl z)))) else none
  | .areturn, 1, [.inr r] => if zretok M.2.2.2.2.2.2.2 (some (.inr r)) = true then some (.inr (.inr (some (.inr r)))) else none
  | .return_, 1, [] => if M.2.2.2.2.2.2.2 = none then some (.inr (.inr none)) else none
  | .invokestatic idx, 3, st => match tm M.2.2.1 idx with
    | some (0, n, _, M') => if n ≤ st.length ∧ st.length ≤ n + 8 ∧ zroom M M' = true then some (.inr (.inl (M', (st.take n).reverse, st.drop n))) else none
    | some (7, _, _, _) => match st with
      | .inl n :: .inl dp :: .inr (some a) :: .inl sp :: .inr (some b) :: st => match σ.2.2 b, σ.2.2 a with
        | some (.inr (.inl (t0, N0, f))), some (.inr (.inl (t1, N1, g))) =>
          if t0 = t1 ∧ 0 ≤ sp ∧ 0 ≤ dp ∧ 0 ≤ n ∧ sp + n ≤ (N0 : Int) ∧ dp + n ≤ (N1 : Int) ∧ n0 ≤ a ∧ n0 ≤ b ∧ st.length ≤ 8 ∧ 1 ≤ M.2.2.2.2.1 ∧ 40 ≤ M.2.2.2.2.2.1 then some (.inl (pc + 3, L, st, (σ.1, σ.2.1, zup σ.2.2 a (.inr (.inl (t1, N1, zcp f g sp.toNat dp.toNat n.toNat)))))) else none
        | _, _ => none
      | _ => none
    | _ => none
  | .invokevirtual idx, 3, st => match tm M.2.2.1 idx with
    | some (k, n, ci, M') => match st.drop n with
      | .inr (some b) :: rest => match σ.2.2 b with
        | some (.inl (cj, _)) => if (k = 1 ∨ k = 4) ∧ ci = cj ∧ rest.length ≤ 8 ∧ zroom M M' = true then some (.inr (.inl (M', .inr (some b) :: (st.take n).reverse, rest))) else none
        | _ => none
      | _ => none
    | _ => none
  | .invokespecial idx, 3, st => match tm M.2.2.1 idx with
    | some (k, n, ci, M') => match st.drop n with
      | .inr (some b) :: rest =>
        if k = 6 then (if n = 0 ∧ rest.length ≤ 8 ∧ 1 ≤ M.2.2.2.2.1 ∧ 20 ≤ M.2.2.2.2.2.1 then some (.inl (pc + 3, L, rest, σ)) else none) else
        if k = 2 ∨ k = 3 then (if rest.length ≤ 8 ∧ zroom M M' = true then some (.inr (.inl (M', .inr (some b) :: (st.take n).reverse, rest))) else none) else
        match σ.2.2 b with
        | some (.inl (cj, _)) => if k = 5 ∧ ci = cj ∧ rest.length ≤ 8 ∧ zroom M M' = true then some (.inr (.inl (M', .inr (some b) :: (st.take n).reverse, rest))) else none
        | _ => none
      | _ => none
    | _ => none
  | _, _, _ => none
end ZE
section ZRUN
variable (n0 : Nat) (g : Nat → zV) (tf : zTf) (ts tk : zTn) (tc : zTc) (tm : zTm)
def zstep (ins : Instr) (len : Nat) (M : zM) (pc : Nat) (L : List (Option zV)) (st : List zV) (σ : zS) : Option zQq :=
  match zA ins len L st with
  | some (L', st') => some (.inl (pc + len, L', st', σ))
  | none => match zB ins len pc st with
    | some (pc', st') => some (.inl (pc', L, st', σ))
    | none => match zD n0 g tf ts tk tc ins len M st σ with
      | some (st', σ') => some (.inl (pc + len, L, st', σ'))
      | none => zE n0 tm ins len M pc L st σ
/-- a method's locals at its entry -/
def zloc (M : zM) (as : List zV) : List (Option zV) := as.map some ++ List.replicate (M.2.1 - as.length) none
def zrun : Nat → zM → Nat → List (Option zV) → List zV → zS → Option (Option zV × zS)
  | 0, _, _, _, _, _ => none
  | f + 1, M, pc, L, st, σ => match decode M.1 pc with
    | .ok (ins, len) => match zstep n0 g tf ts tk tc tm ins len M pc L st σ with
      | some (.inl (pc', L', st', σ')) => zrun f M pc' L' st' σ'
      | some (.inr (.inl (M', as, rest))) => if as.length ≤ M'.2.1 then match zrun f M' 0 (zloc M' as) [] σ with
        | some (v, σ') => zrun f M (pc + 3) L (v.toList ++ rest) σ'
        | none => none else none
      | some (.inr (.inr v)) => some (v, σ)
      | none => none
    | .error _ => none
end ZRUN
