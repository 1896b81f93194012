/-! THE SMALL MACHINE: a pure interpreter of the bytecode over a picture of the memory (an address holds a tag and a row of values) -/
abbrev xC : Type := Nat × List Value
abbrev xM : Type := Nat → Option xC
abbrev xL : Type := List (Option Value)
abbrev xF : Type := Nat × xL × List Value
def xput (M : xM) (a : Nat) (c : xC) : xM := fun q => if q = a then some c else M q
theorem xput_same {M : xM} {a : Nat} {c : xC} : xput M a c a = some c := by simp [xput]
theorem xput_ne {M : xM} {a b : Nat} {c : xC} (h : b ≠ a) : xput M a c b = M b := by simp [xput, h]
def xl : xL → Nat → Option Value
  | [], _ => none
  | v :: _, 0 => v
  | _ :: r, i + 1 => xl r i
def xk : Option Value → Option Value
  | some (.long _) => none
  | some (.double _) => none
  | w => w
def xs1 : xL → Nat → Value → xL
  | [], _, _ => []
  | _ :: r, 0, v => some v :: r
  | w :: r, 1, v => xk w :: xs1 r 0 v
  | w :: r, i + 2, v => w :: xs1 r (i + 1) v
def xnx : xL → xL
  | [] => []
  | _ :: r => none :: r
def xs2 : xL → Nat → Value → xL
  | [], _, _ => []
  | _ :: r, 0, v => some v :: xnx r
  | w :: r, 1, v => xk w :: xs2 r 0 v
  | w :: r, i + 2, v => w :: xs2 r (i + 1) v
def xldi (lo : xL) (i pc : Nat) (st : List Value) : Option xF := match xl lo i with
  | some (.int x) => some (pc, lo, .int x :: st)
  | _ => none
def xldl (lo : xL) (i pc : Nat) (st : List Value) : Option xF := match xl lo i with
  | some (.long x) => some (pc, lo, .long x :: st)
  | _ => none
def xlda (lo : xL) (i pc : Nat) (st : List Value) : Option xF := match xl lo i with
  | some (.ref x) => some (pc, lo, .ref x :: st)
  | some .null => some (pc, lo, .null :: st)
  | _ => none
def xsti (n : Nat) (lo : xL) (i pc : Nat) (st : List Value) : Option xF := match st with
  | .int x :: r => if i < n then some (pc, xs1 lo i (.int x), r) else none
  | _ => none
def xstl (n : Nat) (lo : xL) (i pc : Nat) (st : List Value) : Option xF := match st with
  | .long x :: r => if i + 1 < n then some (pc, xs2 lo i (.long x), r) else none
  | _ => none
def xsta (n : Nat) (lo : xL) (i pc : Nat) (st : List Value) : Option xF := match st with
  | .ref x :: r => if i < n then some (pc, xs1 lo i (.ref x), r) else none
  | .null :: r => if i < n then some (pc, xs1 lo i .null, r) else none
  | _ => none
def xinc (n : Nat) (lo : xL) (i : Nat) (k : Int) (pc : Nat) (st : List Value) : Option xF := match xl lo i with
  | some (.int x) => if i < n then some (pc, xs1 lo i (.int (x + Int32.ofInt k)), st) else none
  | _ => none
def xoi (f : Int32 → Int32 → Int32) (pc : Nat) (lo : xL) (st : List Value) : Option xF := match st with
  | .int y :: .int x :: r => some (pc, lo, .int (f x y) :: r)
  | _ => none
def xoz (f : Int32 → Int32 → Int32) (pc : Nat) (lo : xL) (st : List Value) : Option xF := match st with
  | .int y :: .int x :: r => if y = 0 then none else some (pc, lo, .int (f x y) :: r)
  | _ => none
def xol (f : Int64 → Int64 → Int64) (pc : Nat) (lo : xL) (st : List Value) : Option xF := match st with
  | .long y :: .long x :: r => some (pc, lo, .long (f x y) :: r)
  | _ => none
def xos (f : Int64 → Int32 → Int64) (pc : Nat) (lo : xL) (st : List Value) : Option xF := match st with
  | .int y :: .long x :: r => some (pc, lo, .long (f x y) :: r)
  | _ => none
def xui (f : Int32 → Value) (pc : Nat) (lo : xL) (st : List Value) : Option xF := match st with
  | .int x :: r => some (pc, lo, f x :: r)
  | _ => none
def xul (f : Int64 → Value) (pc : Nat) (lo : xL) (st : List Value) : Option xF := match st with
  | .long x :: r => some (pc, lo, f x :: r)
  | _ => none
def xlc (pc : Nat) (lo : xL) (st : List Value) : Option xF := match st with
  | .long y :: .long x :: r => some (pc, lo, .int (lg_cmp x y) :: r)
  | _ => none
def xgo (b : Bool) (pc : Nat) (off : Int) (lo : xL) (r : List Value) : Option xF :=
  if 0 ≤ (pc : Int) + off then some (if b = true then ((pc : Int) + off).toNat else pc + 3, lo, r) else none
def xcd (c : Jvm.ClassFile.Cond) (x y : Int32) : Bool := match c with
  | .eq => decide (x = y)
  | .ne => decide (¬ x = y)
  | .lt => decide (x < y)
  | .ge => decide (y ≤ x)
  | .gt => decide (y < x)
  | .le => decide (x ≤ y)
def xif (c : Jvm.ClassFile.Cond) (pc : Nat) (off : Int) (lo : xL) (st : List Value) : Option xF := match st with
  | .int x :: r => xgo (xcd c x 0) pc off lo r
  | _ => none
def xic (c : Jvm.ClassFile.Cond) (pc : Nat) (off : Int) (lo : xL) (st : List Value) : Option xF := match st with
  | .int y :: .int x :: r => xgo (xcd c x y) pc off lo r
  | _ => none
def xnl (b : Bool) (pc : Nat) (off : Int) (lo : xL) (st : List Value) : Option xF := match st with
  | .null :: r => xgo b pc off lo r
  | .ref _ :: r => xgo (!b) pc off lo r
  | _ => none
def xtsw (dflt a b : Int) (offs : Array Int) (pc : Nat) (lo : xL) (st : List Value) : Option xF := match st with
  | .int x :: r => if x.toInt < a ∨ b < x.toInt then xgo true pc dflt lo r else match offs[(x.toInt - a).toNat]? with
    | some off => xgo true pc off lo r
    | none => none
  | _ => none
def xdp (pc : Nat) (lo : xL) (st : List Value) : Option xF := match st with
  | v :: r => if v.category = 1 then some (pc, lo, v :: v :: r) else none
  | _ => none
def xdx1 (pc : Nat) (lo : xL) (st : List Value) : Option xF := match st with
  | v :: u :: r => if v.category = 1 ∧ u.category = 1 then some (pc, lo, v :: u :: v :: r) else none
  | _ => none
def xdx2 (pc : Nat) (lo : xL) (st : List Value) : Option xF := match st with
  | v :: u :: t :: r => if v.category = 1 ∧ u.category = 1 ∧ t.category = 1 then some (pc, lo, v :: u :: t :: v :: r) else none
  | _ => none
def xd2 (pc : Nat) (lo : xL) (st : List Value) : Option xF := match st with
  | v :: u :: r => if v.category = 1 ∧ u.category = 1 then some (pc, lo, v :: u :: v :: u :: r) else none
  | _ => none
def xpp (pc : Nat) (lo : xL) (st : List Value) : Option xF := match st with
  | v :: r => if v.category = 1 then some (pc, lo, r) else none
  | _ => none
def xlen (ins : Instr) (len : Nat) : Bool := match ins with
  | .iload _ | .lload _ | .aload _ | .istore _ | .lstore _ | .astore _ | .bipush _ | .ldc _ | .newarray _ => len == 2
  | .sipush _ | .iinc _ _ | .goto _ | .ifCond _ _ | .if_icmp _ _ | .ifnull _ | .ifnonnull _ | .ldc2_w _ | .getfield _ | .putfield _ | .invokevirtual _ | .invokespecial _ | .invokestatic _ | .new _ | .anewarray _ => len == 3
  | .tableswitch _ _ _ _ => true
  | _ => len == 1
/-- a step that leaves the memory alone -/
def xpure (n : Nat) (ins : Instr) (pc : Nat) (lo : xL) (st : List Value) : Option xF := match ins with
  | .aconst_null => some (pc + 1, lo, .null :: st)
  | .iconst k => some (pc + 1, lo, .int (Int32.ofInt k) :: st)
  | .bipush k => some (pc + 2, lo, .int (Int8.ofInt k).toInt32 :: st)
  | .sipush k => some (pc + 3, lo, .int (Int16.ofInt k).toInt32 :: st)
  | .lconst k => some (pc + 1, lo, .long (Int64.ofNat (k : Nat)) :: st)
  | .iload_n k => xldi lo k (pc + 1) st
  | .iload k => xldi lo k (pc + 2) st
  | .lload_n k => xldl lo k (pc + 1) st
  | .lload k => xldl lo k (pc + 2) st
  | .aload_n k => xlda lo k (pc + 1) st
  | .aload k => xlda lo k (pc + 2) st
  | .istore_n k => xsti n lo k (pc + 1) st
  | .istore k => xsti n lo k (pc + 2) st
  | .lstore_n k => xstl n lo k (pc + 1) st
  | .lstore k => xstl n lo k (pc + 2) st
  | .astore_n k => xsta n lo k (pc + 1) st
  | .astore k => xsta n lo k (pc + 2) st
  | .iinc i k => xinc n lo i k (pc + 3) st
  | .iadd => xoi (fun x y => x + y) (pc + 1) lo st
  | .isub => xoi (fun x y => x - y) (pc + 1) lo st
  | .imul => xoi (fun x y => x * y) (pc + 1) lo st
  | .iand => xoi (fun x y => x &&& y) (pc + 1) lo st
  | .ior => xoi (fun x y => x ||| y) (pc + 1) lo st
  | .ixor => xoi (fun x y => x ^^^ y) (pc + 1) lo st
  | .ishl => xoi (fun x y => x <<< (y &&& 31)) (pc + 1) lo st
  | .ishr => xoi (fun x y => x >>> (y &&& 31)) (pc + 1) lo st
  | .idiv => xoz (fun x y => x / y) (pc + 1) lo st
  | .irem => xoz (fun x y => x - x / y * y) (pc + 1) lo st
  | .ladd => xol (fun x y => x + y) (pc + 1) lo st
  | .lsub => xol (fun x y => x - y) (pc + 1) lo st
  | .land => xol (fun x y => x &&& y) (pc + 1) lo st
  | .lor => xol (fun x y => x ||| y) (pc + 1) lo st
  | .lshl => xos (fun x y => x <<< (y.toInt64 &&& 63)) (pc + 1) lo st
  | .lushr => xos (fun x y => (x.toUInt64 >>> (y.toInt64.toUInt64 &&& Int64.toUInt64 63)).toInt64) (pc + 1) lo st
  | .lneg => xul (fun x => .long (-x)) (pc + 1) lo st
  | .i2l => xui (fun x => .long x.toInt64) (pc + 1) lo st
  | .i2b => xui (fun x => .int x.toInt8.toInt32) (pc + 1) lo st
  | .l2i => xul (fun x => .int x.toInt32) (pc + 1) lo st
  | .lcmp => xlc (pc + 1) lo st
  | .dup => xdp (pc + 1) lo st
  | .dup_x1 => xdx1 (pc + 1) lo st
  | .dup_x2 => xdx2 (pc + 1) lo st
  | .dup2 => xd2 (pc + 1) lo st
  | .pop => xpp (pc + 1) lo st
  | .goto off => xgo true pc off lo st
  | .ifCond c off => xif c pc off lo st
  | .if_icmp c off => xic c pc off lo st
  | .ifnull off => xnl true pc off lo st
  | .ifnonnull off => xnl false pc off lo st
  | .tableswitch dflt a b offs => xtsw dflt a b offs pc lo st
  | _ => none
/-- the elements of an array, by its tag -/
def xEl : Nat → Option FieldType
  | 20 => some .int
  | 21 => some .long
  | 22 => some .byte
  | 23 => some (.object "RefStack$Table")
  | 24 => some (.object "RefStack$Rows")
  | 30 => some .int
  | _ => none
def xfld (c k : Nat) : Option (Nat × Nat) := (xFldT.find? (fun e => e.1 == c && e.2.1 == k)).map (fun e => e.2.2)
def xcal (c k : Nat) : Option (Nat × Nat) := (xCallT.find? (fun e => e.1 == c && e.2.1 == k)).map (fun e => e.2.2)
def xnew (c k : Nat) : Option Nat := (xNewT.find? (fun e => e.1 == c && e.2.1 == k)).map (fun e => e.2.2)
def xanw (c k : Nat) : Option Nat := (xAnT.find? (fun e => e.1 == c && e.2.1 == k)).map (fun e => e.2.2)
def xldc (c k : Nat) : Option Int32 := (xLdT.find? (fun e => e.1 == c && e.2.1 == k)).map (fun e => e.2.2)
def xld2 (c k : Nat) : Option Int64 := (xLlT.find? (fun e => e.1 == c && e.2.1 == k)).map (fun e => e.2.2)
def xobj (c k : Nat) : Bool := xObT.any (fun e => e.1 == c && e.2 == k)
def xfin (t j : Nat) : Bool := match xCl[t]? with
  | some r => (r.2.1 j).2.2.2
  | none => true
def xgetf (c k : Nat) (pc : Nat) (lo : xL) (st : List Value) (M : xM) : Option (xF × xM) := match st with
  | .ref a :: r => match xfld c k, M a with
    | some (t, j), some o => if o.1 = t then (match o.2[j]? with
      | some v => some ((pc + 3, lo, v :: r), M)
      | none => none) else none
    | _, _ => none
  | _ => none
def xputf (m : xY) (k : Nat) (pc : Nat) (lo : xL) (st : List Value) (M : xM) : Option (xF × xM) := match st with
  | v :: .ref a :: r => match xfld m.1 k, M a with
    | some (t, j), some o => if o.1 = t ∧ j < o.2.length ∧ narrow (xTyp t j) v = v ∧ fits (xTyp t j) v = true ∧ (xfin t j = false ∨ (m.2.2.1.name = "<init>" ∧ m.1 = t)) then some ((pc + 3, lo, r), xput M a (t, o.2.set j v)) else none
    | _, _ => none
  | _ => none
def xald (ts : List Nat) (pc : Nat) (lo : xL) (st : List Value) (M : xM) : Option (xF × xM) := match st with
  | .int i :: .ref a :: r => match M a with
    | some o => if o.1 ∈ ts ∧ ¬ i < 0 then (match o.2[i.toNatClampNeg]? with
      | some v => some ((pc + 1, lo, v :: r), M)
      | none => none) else none
    | none => none
  | _ => none
def xast (t : Nat) (f : Value → Option Value) (pc : Nat) (lo : xL) (st : List Value) (M : xM) : Option (xF × xM) := match st with
  | v :: .int i :: .ref a :: r => match M a, f v with
    | some o, some u => if o.1 = t ∧ ¬ i < 0 ∧ i.toNatClampNeg < o.2.length then some ((pc + 1, lo, r), xput M a (t, o.2.set i.toNatClampNeg u)) else none
    | _, _ => none
  | _ => none
def xfi : Value → Option Value
  | .int x => some (.int x)
  | _ => none
def xfl : Value → Option Value
  | .long x => some (.long x)
  | _ => none
def xfb : Value → Option Value
  | .int x => some (.int x.toInt8.toInt32)
  | _ => none
/-- the class whose objects an array of references holds -/
def xtag : Nat → Nat
  | 23 => 3
  | _ => 2
def xaas (pc : Nat) (lo : xL) (st : List Value) (M : xM) : Option (xF × xM) := match st with
  | .ref q :: .int i :: .ref a :: r => match M a, M q with
    | some o, some u => if (o.1 = 23 ∨ o.1 = 24) ∧ u.1 = xtag o.1 ∧ ¬ i < 0 ∧ i.toNatClampNeg < o.2.length then some ((pc + 1, lo, r), xput M a (o.1, o.2.set i.toNatClampNeg (.ref q))) else none
    | _, _ => none
  | _ => none
def xaln (pc : Nat) (lo : xL) (st : List Value) (M : xM) : Option (xF × xM) := match st with
  | .ref a :: r => match M a with
    | some o => if (xEl o.1).isSome = true then some ((pc + 1, lo, .int (Int32.ofNat o.2.length) :: r), M) else none
    | none => none
  | _ => none
/-- a step that reads or changes the memory, and makes nothing -/
def xmem (m : xY) (ins : Instr) (pc : Nat) (lo : xL) (st : List Value) (M : xM) : Option (xF × xM) := match ins with
  | .getfield k => xgetf m.1 k pc lo st M
  | .putfield k => xputf m k pc lo st M
  | .iaload => xald [20, 30] pc lo st M
  | .laload => xald [21] pc lo st M
  | .baload => xald [22] pc lo st M
  | .aaload => xald [23, 24] pc lo st M
  | .iastore => xast 20 xfi pc lo st M
  | .lastore => xast 21 xfl pc lo st M
  | .bastore => xast 22 xfb pc lo st M
  | .aastore => xaas pc lo st M
  | .arraylength => xaln pc lo st M
  | .ldc k => (xldc m.1 k).map (fun v => ((pc + 2, lo, .int v :: st), M))
  | .ldc2_w k => (xld2 m.1 k).map (fun v => ((pc + 3, lo, .long v :: st), M))
  | _ => none
def xarr : ArrayType → Option (Nat × Value)
  | .int => some (20, .int 0)
  | .long => some (21, .long 0)
  | .byte => some (22, .int 0)
  | _ => none
/-- a step that makes an object or an array -/
def xmak (m : xY) (ins : Instr) (pc : Nat) (st : List Value) : Option (Nat × List Value × xC) := match ins with
  | .new k => (xnew m.1 k).map (fun t => (pc + 3, st, (t, xDef t)))
  | .newarray ty => match xarr ty, st with
    | some q, .int n :: r => if ¬ n < 0 ∧ n.toNatClampNeg ≤ 1000000 then some (pc + 2, r, (q.1, List.replicate n.toNatClampNeg q.2)) else none
    | _, _ => none
  | .anewarray k => match xanw m.1 k, st with
    | some t, .int n :: r => if ¬ n < 0 ∧ n.toNatClampNeg ≤ 1000000 then some (pc + 3, r, (t, List.replicate n.toNatClampNeg .null)) else none
    | _, _ => none
  | _ => none
/-- java.lang.Object's constructor, and three of java.lang.Math -/
def xlib (m : xY) (ins : Instr) (st : List Value) : Option (List Value) := match ins with
  | .invokespecial k => if xobj m.1 k = true then (match st with
    | .ref _ :: r => some r
    | _ => none) else none
  | .invokestatic k => if m.1 = 4 ∧ k = 46 then (match st with
    | .int y :: .int x :: r => some (.int (if x < y then y else x) :: r)
    | _ => none) else if m.1 = 4 ∧ k = 112 then (match st with
    | .long y :: .long x :: r => some (.long (if y < x then x else y) :: r)
    | _ => none) else if m.1 = 4 ∧ k = 40 then (match st with
    | .int y :: .int x :: r => some (.int (if y < x then y else x) :: r)
    | _ => none) else none
  | _ => none
def xret (m : xY) (ins : Instr) (st : List Value) : Option (Option Value) := match ins with
  | .ireturn => match st, m.2.2.2.2.2 with
    | [.int x], some ty => if narrow ty (.int x) = .int x then some (some (.int x)) else none
    | _, _ => none
  | .lreturn => match st, m.2.2.2.2.2 with
    | [.long x], some .long => some (some (.long x))
    | _, _ => none
  | .areturn => match st, m.2.2.2.2.2 with
    | [.ref x], some (.object _) => some (some (.ref x))
    | [.null], some (.object _) => some (some .null)
    | _, _ => none
  | .return_ => match st, m.2.2.2.2.2 with
    | [], none => some none
    | _, _ => none
  | _ => none
/-- which own method is called, with what, and what stays on the stack -/
def xinv (m : xY) (ins : Instr) (st : List Value) (M : xM) : Option (xY × List Value × List Value) := match ins with
  | .invokestatic k => match xcal m.1 k with
    | some (0, i) => match xMs[i]? with
      | some y => if y.2.1 ≤ st.length then some (y, (st.take y.2.1).reverse, st.drop y.2.1) else none
      | none => none
    | _ => none
  | .invokevirtual k => match xcal m.1 k with
    | some (1, i) => match xMs[i]? with
      | some y => match st.drop y.2.1 with
        | .ref b :: r => match M b with
          | some o => if o.1 = y.1 ∧ y.2.1 ≤ st.length then some (y, .ref b :: (st.take y.2.1).reverse, r) else none
          | none => none
        | _ => none
      | none => none
    | _ => none
  | .invokespecial k => match xcal m.1 k with
    | some (q, i) => match xMs[i]? with
      | some y => match st.drop y.2.1 with
        | .ref b :: r => if (q = 2 ∨ q = 3) ∧ y.2.1 ≤ st.length then some (y, .ref b :: (st.take y.2.1).reverse, r) else none
        | _ => none
      | none => none
    | _ => none
  | _ => none
def xsl (as : List Value) : xL := as.flatMap fun v => if v.category = 2 then [some v, none] else [some v]
def xent (as : List Value) (n : Nat) : xL := xsl as ++ List.replicate (n - (xsl as).length) none
def xcat (r : List Value) : Nat := (r.map fun v => v.category).sum
abbrev xR : Type := Option Value × xM × Nat × Nat
/-- the machine: fuel, how deep calls may go, the method, its frame, the memory, the next address, how many fields and elements were made -/
def exec : Nat → Nat → xY → Nat → xL → List Value → xM → Nat → Nat → Option xR
  | 0, _, _, _, _, _, _, _, _ => none
  | n + 1, d, m, pc, lo, st, M, z, w => match decode m.2.2.2.1 pc with
    | .ok (ins, len) => if xlen ins len = true then (match xpure m.2.2.2.2.1 ins pc lo st with
      | some f => exec n d m f.1 f.2.1 f.2.2 M z w
      | none => match xmem m ins pc lo st M with
        | some g => exec n d m g.1.1 g.1.2.1 g.1.2.2 g.2 z w
        | none => match xmak m ins pc st with
          | some g => exec n d m g.1 lo (.ref z :: g.2.1) (xput M z g.2.2) (z + 1) (w + g.2.2.2.length)
          | none => match xret m ins st with
            | some v => some (v, M, z, w)
            | none => match d with
              | 0 => none
              | d + 1 => match xlib m ins st with
                | some r => if xcat r ≤ 8 then exec n (d + 1) m (pc + 3) lo r M z w else none
                | none => match xinv m ins st M with
                  | some c => if xcat c.2.2 ≤ 8 ∧ (xsl c.2.1).length ≤ c.1.2.2.2.2.1 then (match exec n d c.1 0 (xent c.2.1 c.1.2.2.2.2.1) [] M z w with
                    | some q => exec n (d + 1) m (pc + 3) lo (q.1.toList ++ c.2.2) q.2.1 q.2.2.1 q.2.2.2
                    | none => none) else none
                  | none => none) else none
    | .error _ => none
