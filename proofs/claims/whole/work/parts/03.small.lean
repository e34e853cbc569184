/-! ===== THE SMALL MACHINE: an interpreter of this claim's methods. A heap is a function from addresses to cells (an array: its kind, length, contents; an object: its class, its fields). Kinds of arrays: 0 int, 1 boolean, 2 byte, 3 Write, 4 Server, 5 Session, 6 int[], 7 boolean[]. ===== -/
abbrev xE : Type := (Nat × vp_A) ⊕ (Nat × List Value)
abbrev xH : Type := Nat → Option xE
/-- a world: its heap, the next address, the slots that are used -/
abbrev xW : Type := xH × Nat × Nat
abbrev xL : Type := List (Option Value)
/-- a frame: program counter, locals, operand stack, world -/
abbrev xF : Type := Nat × xL × List Value × xW
/-- what an instruction comes to: the next frame; an answer; a call (method, arguments, what stays on the stack) -/
abbrev xR : Type := xF ⊕ ((Option Value × xW) ⊕ (Nat × List Value × List Value))
/-- what never changes: the addresses of the texts, and back; the script: address, length, contents -/
abbrev xG : Type := (Nat → Nat) × (Nat → Option Nat) × (Nat × Nat × (Nat → Int32))
def xlen : Instr → Nat
  | .bipush _ | .iload _ | .lload _ | .aload _ | .istore _ | .lstore _ | .astore _ | .ldc _ | .newarray _ => 2
  | .sipush _ | .ldc2_w _ | .iinc _ _ | .if_icmp _ _ | .ifCond _ _ | .goto _ | .getfield _ | .putfield _ | .invokevirtual _ | .invokespecial _ | .invokestatic _ | .new _ | .anewarray _ | .ifnonnull _ => 3
  | .multianewarray _ _ => 4
  | _ => 1
def xsw : Instr → Bool
  | .tableswitch _ _ _ _ | .lookupswitch _ _ => true
  | _ => false
/-- the instruction at a place of a method -/
def xI (mi pc : Nat) : Option Instr := match decode (xB mi) pc with
  | .ok (i, n) => if n = xlen i ∨ xsw i = true then some i else none
  | .error _ => none
def xup (h : xH) (a : Nat) (e : xE) : xH := fun q => if q = a then some e else h q
/-- a value of one slot laid into a local -/
def xst (L : xL) (i : Nat) (v : Value) : Option xL :=
  if i < L.length then (match (if i = 0 then none else L[i - 1]?) with
    | some (some u) => if u.category = 2 then none else some (L.set i (some v))
    | _ => some (L.set i (some v))) else none
/-- a long laid into two locals -/
def xst2 (L : xL) (i : Nat) (v : Value) : Option xL :=
  if i + 1 < L.length then (match (if i = 0 then none else L[i - 1]?) with
    | some (some u) => if u.category = 2 then none else some ((L.set i (some v)).set (i + 1) none)
    | _ => some ((L.set i (some v)).set (i + 1) none)) else none
def xpush (n : Nat) (v : Value) (pc : Nat) (L : xL) (st : List Value) (w : xW) : Option xR := some (.inl (pc + n, L, v :: st, w))
def xiload (n i pc : Nat) (L : xL) (st : List Value) (w : xW) : Option xR := match L[i]? with
  | some (some (.int v)) => some (.inl (pc + n, L, .int v :: st, w))
  | _ => none
def xlload (n i pc : Nat) (L : xL) (st : List Value) (w : xW) : Option xR := match L[i]? with
  | some (some (.long v)) => some (.inl (pc + n, L, .long v :: st, w))
  | _ => none
def xaload (n i pc : Nat) (L : xL) (st : List Value) (w : xW) : Option xR := match L[i]? with
  | some (some (.ref v)) => some (.inl (pc + n, L, .ref v :: st, w))
  | _ => none
def xistore (n i pc : Nat) (L : xL) (st : List Value) (w : xW) : Option xR := match st with
  | .int v :: r => (xst L i (.int v)).map (fun L' => .inl (pc + n, L', r, w))
  | _ => none
def xlstore (n i pc : Nat) (L : xL) (st : List Value) (w : xW) : Option xR := match st with
  | .long v :: r => (xst2 L i (.long v)).map (fun L' => .inl (pc + n, L', r, w))
  | _ => none
def xastore (n i pc : Nat) (L : xL) (st : List Value) (w : xW) : Option xR := match st with
  | .ref v :: r => (xst L i (.ref v)).map (fun L' => .inl (pc + n, L', r, w))
  | _ => none
def xiinc (i : Nat) (k : Int) (pc : Nat) (L : xL) (st : List Value) (w : xW) : Option xR := match L[i]? with
  | some (some (.int v)) => (xst L i (.int (v + Int32.ofInt k))).map (fun L' => .inl (pc + 3, L', st, w))
  | _ => none
def xbin (f : Int32 → Int32 → Int32) (pc : Nat) (L : xL) (st : List Value) (w : xW) : Option xR := match st with
  | .int y :: .int x :: r => some (.inl (pc + 1, L, .int (f x y) :: r, w))
  | _ => none
def xdiv (f : Int32 → Int32 → Int32) (pc : Nat) (L : xL) (st : List Value) (w : xW) : Option xR := match st with
  | .int y :: .int x :: r => if y = 0 then none else some (.inl (pc + 1, L, .int (f x y) :: r, w))
  | _ => none
def xlbin (f : Int64 → Int64 → Int64) (pc : Nat) (L : xL) (st : List Value) (w : xW) : Option xR := match st with
  | .long y :: .long x :: r => some (.inl (pc + 1, L, .long (f x y) :: r, w))
  | _ => none
def xun (f : Int32 → Value) (pc : Nat) (L : xL) (st : List Value) (w : xW) : Option xR := match st with
  | .int x :: r => some (.inl (pc + 1, L, f x :: r, w))
  | _ => none
def xl2i (pc : Nat) (L : xL) (st : List Value) (w : xW) : Option xR := match st with
  | .long x :: r => some (.inl (pc + 1, L, .int x.toInt32 :: r, w))
  | _ => none
def xlcmp (pc : Nat) (L : xL) (st : List Value) (w : xW) : Option xR := match st with
  | .long y :: .long x :: r => some (.inl (pc + 1, L, .int (lg_cmp x y) :: r, w))
  | _ => none
def xdup (pc : Nat) (L : xL) (st : List Value) (w : xW) : Option xR := match st with
  | v :: r => if v.category = 1 then some (.inl (pc + 1, L, v :: v :: r, w)) else none
  | _ => none
def xpop (pc : Nat) (L : xL) (st : List Value) (w : xW) : Option xR := match st with
  | v :: r => if v.category = 1 then some (.inl (pc + 1, L, r, w)) else none
  | _ => none
def xdup2 (pc : Nat) (L : xL) (st : List Value) (w : xW) : Option xR := match st with
  | v :: u :: r => if v.category = 1 ∧ u.category = 1 then some (.inl (pc + 1, L, v :: u :: v :: u :: r, w)) else none
  | _ => none
def xcnd (c : ClassFile.Cond) (x y : Int32) : Bool := match c with
  | .eq => decide (x = y)
  | .ne => decide (¬ x = y)
  | .lt => decide (x < y)
  | .ge => decide (y ≤ x)
  | .gt => decide (y < x)
  | .le => decide (x ≤ y)
def xgo (pc : Nat) (off : Int) (L : xL) (st : List Value) (w : xW) : Option xR := if 0 ≤ (pc : Int) + off then some (.inl (((pc : Int) + off).toNat, L, st, w)) else none
def xbr (b : Bool) (pc : Nat) (off : Int) (L : xL) (st : List Value) (w : xW) : Option xR := if 0 ≤ (pc : Int) + off then (if b = true then some (.inl (((pc : Int) + off).toNat, L, st, w)) else some (.inl (pc + 3, L, st, w))) else none
def xicmp (c : ClassFile.Cond) (off : Int) (pc : Nat) (L : xL) (st : List Value) (w : xW) : Option xR := match st with
  | .int y :: .int x :: r => xbr (xcnd c x y) pc off L r w
  | _ => none
def xif (c : ClassFile.Cond) (off : Int) (pc : Nat) (L : xL) (st : List Value) (w : xW) : Option xR := match st with
  | .int x :: r => xbr (xcnd c x 0) pc off L r w
  | _ => none
def xnonnull (off : Int) (pc : Nat) (L : xL) (st : List Value) (w : xW) : Option xR := match st with
  | .ref _ :: r => xgo pc off L r w
  | .null :: r => some (.inl (pc + 3, L, r, w))
  | _ => none
def xtsw (d lo hi : Int) (offs : Array Int) (pc : Nat) (L : xL) (st : List Value) (w : xW) : Option xR := match st with
  | .int x :: r => if x.toInt < lo ∨ hi < x.toInt then xgo pc d L r w else (match offs[(x.toInt - lo).toNat]? with
    | some off => xgo pc off L r w
    | none => none)
  | _ => none
def xlsw (d : Int) (ps : Array (Int × Int)) (pc : Nat) (L : xL) (st : List Value) (w : xW) : Option xR := match st with
  | .int x :: r => if (ps.toList.zip (ps.toList.drop 1)).all (fun (a, next) => a.1 < next.1) = true then xgo pc (Op.lookupswitch.offset ps.toList d x.toInt) L r w else none
  | _ => none
/-- loads out of arrays -/
def xiald (G : xG) (pc : Nat) (L : xL) (st : List Value) (w : xW) : Option xR := match st with
  | .int i :: .ref a :: r => (match w.1 a with
    | some (.inl (0, n, .inl f)) => if i < 0 ∨ n ≤ i.toNatClampNeg then none else some (.inl (pc + 1, L, .int (f i.toNatClampNeg) :: r, w))
    | some _ => none
    | none => if a = G.2.2.1 then (if i < 0 ∨ G.2.2.2.1 ≤ i.toNatClampNeg then none else some (.inl (pc + 1, L, .int (G.2.2.2.2 i.toNatClampNeg) :: r, w))) else none)
  | _ => none
def xbald (pc : Nat) (L : xL) (st : List Value) (w : xW) : Option xR := match st with
  | .int i :: .ref a :: r => (match w.1 a with
    | some (.inl (1, n, .inl f)) => if i < 0 ∨ n ≤ i.toNatClampNeg then none else some (.inl (pc + 1, L, .int (f i.toNatClampNeg) :: r, w))
    | some (.inl (2, n, .inl f)) => if i < 0 ∨ n ≤ i.toNatClampNeg then none else some (.inl (pc + 1, L, .int (f i.toNatClampNeg) :: r, w))
    | _ => none)
  | _ => none
def xaald (pc : Nat) (L : xL) (st : List Value) (w : xW) : Option xR := match st with
  | .int i :: .ref a :: r => (match w.1 a with
    | some (.inl (t, n, .inr (.inr (.inr (.inr f))))) => if i < 0 ∨ n ≤ i.toNatClampNeg ∨ t < 3 ∨ 7 < t then none else some (.inl (pc + 1, L, va_rf (f i.toNatClampNeg) :: r, w))
    | _ => none)
  | _ => none
def xalen (G : xG) (pc : Nat) (L : xL) (st : List Value) (w : xW) : Option xR := match st with
  | .ref a :: r => (match w.1 a with
    | some (.inl (t, x)) => if 7 < t then none else some (.inl (pc + 1, L, .int (Int32.ofNat x.1) :: r, w))
    | some _ => none
    | none => if a = G.2.2.1 then some (.inl (pc + 1, L, .int (Int32.ofNat G.2.2.2.1) :: r, w)) else none)
  | _ => none
/-- stores into arrays -/
def xiast (pc : Nat) (L : xL) (st : List Value) (w : xW) : Option xR := match st with
  | .int x :: .int i :: .ref a :: r => (match w.1 a with
    | some (.inl (0, n, .inl f)) => if i < 0 ∨ n ≤ i.toNatClampNeg then none else some (.inl (pc + 1, L, r, xup w.1 a (.inl (0, n, .inl (upd f i.toNatClampNeg x))), w.2))
    | _ => none)
  | _ => none
def xbast (pc : Nat) (L : xL) (st : List Value) (w : xW) : Option xR := match st with
  | .int x :: .int i :: .ref a :: r => (match w.1 a with
    | some (.inl (1, n, .inl f)) => if i < 0 ∨ n ≤ i.toNatClampNeg then none else some (.inl (pc + 1, L, r, xup w.1 a (.inl (1, n, .inl (upd f i.toNatClampNeg (vp_nar .boolean x)))), w.2))
    | some (.inl (2, n, .inl f)) => if i < 0 ∨ n ≤ i.toNatClampNeg then none else some (.inl (pc + 1, L, r, xup w.1 a (.inl (2, n, .inl (upd f i.toNatClampNeg (vp_nar .byte x)))), w.2))
    | _ => none)
  | _ => none
/-- may the cell stand in an array of kind t? -/
def xfit (t : Nat) : Option xE → Bool
  | some (.inr (ci, _)) => (t == 3 && ci == 9) || (t == 4 && ci == 6) || (t == 5 && ci == 7)
  | some (.inl (k, _)) => t == 6 && k == 0
  | none => false
def xaast (pc : Nat) (L : xL) (st : List Value) (w : xW) : Option xR := match st with
  | .ref v :: .int i :: .ref a :: r => (match w.1 a with
    | some (.inl (t, n, .inr (.inr (.inr (.inr f))))) => if i < 0 ∨ n ≤ i.toNatClampNeg then none else if xfit t (w.1 v) = true then some (.inl (pc + 1, L, r, xup w.1 a (.inl (t, n, .inr (.inr (.inr (.inr (va_up f i.toNatClampNeg (some v))))))), w.2)) else none
    | _ => none)
  | _ => none
/-- new cells -/
def xat (t : ArrayType) : Option Nat := match t with
  | .int => some 0
  | .boolean => some 1
  | .byte => some 2
  | _ => none
def xnewa (t : ArrayType) (pc : Nat) (L : xL) (st : List Value) (w : xW) : Option xR := match st with
  | .int n :: r => (match xat t with
    | some k => if n < 0 ∨ 100000 < n.toNatClampNeg then none else some (.inl (pc + 2, L, .ref w.2.1 :: r, xup w.1 w.2.1 (.inl (k, n.toNatClampNeg, .inl (fun _ => 0))), w.2.1 + 1, w.2.2 + n.toNatClampNeg))
    | none => none)
  | _ => none
def xanew (o idx pc : Nat) (L : xL) (st : List Value) (w : xW) : Option xR := match st with
  | .int n :: r => (match xNl o idx with
    | some q => if n < 0 ∨ 100000 < n.toNatClampNeg ∨ 7 < q.2.2.1 then none else some (.inl (pc + 3, L, .ref w.2.1 :: r, xup w.1 w.2.1 (.inl (q.2.2.1, n.toNatClampNeg, .inr (.inr (.inr (.inr (fun _ => none)))))), w.2.1 + 1, w.2.2 + n.toNatClampNeg))
    | none => none)
  | _ => none
/-- rows of a new array of arrays: the outer one at a, the inner ones behind it -/
def xgrid (h : xH) (a n m : Nat) (t k : Nat) : xH := fun q => if q = a then some (.inl (t, n, .inr (.inr (.inr (.inr (fun j => if j < n then some (a + 1 + j) else none)))))) else if a < q ∧ q ≤ a + n then some (.inl (k, m, .inl (fun _ => 0))) else h q
def xmulti (o idx dims pc : Nat) (L : xL) (st : List Value) (w : xW) : Option xR := match st with
  | .int m :: .int n :: r => (match xNl o idx with
    | some q => if n < 0 ∨ 1000 < n.toNatClampNeg ∨ m < 0 ∨ 1000 < m.toNatClampNeg ∨ dims ≠ 2 ∨ ¬ (q.2.2.1 = 16 ∨ q.2.2.1 = 17) then none else some (.inl (pc + 4, L, .ref w.2.1 :: r, xgrid w.1 w.2.1 n.toNatClampNeg m.toNatClampNeg (q.2.2.1 - 10) (q.2.2.1 - 16), w.2.1 + 1 + n.toNatClampNeg, w.2.2 + n.toNatClampNeg + n.toNatClampNeg * m.toNatClampNeg))
    | none => none)
  | _ => none
def xnew (o idx pc : Nat) (L : xL) (st : List Value) (w : xW) : Option xR := match xKl o idx with
  | some q => some (.inl (pc + 3, L, .ref w.2.1 :: st, xup w.1 w.2.1 (.inr (q.2.2.1, xdef q.2.2.1)), w.2.1 + 1, w.2.2 + (xdef q.2.2.1).length))
  | none => none
/-- fields -/
def xgetf (o idx pc : Nat) (L : xL) (st : List Value) (w : xW) : Option xR := match st with
  | .ref a :: r => (match w.1 a with
    | some (.inr (ci, fs)) => (match xFl o idx with
      | some q => if ci = q.2.2.1 then (match fs[q.2.2.2.1]? with
        | some v => some (.inl (pc + 3, L, v :: r, w))
        | none => none) else none
      | none => none)
    | _ => none)
  | _ => none
def xfin (ci k : Nat) : Bool := match xcl[ci]? with
  | some q => (q.2.1 k).2.2.2
  | none => true
def xputf (o idx : Nat) (init : Bool) (pc : Nat) (L : xL) (st : List Value) (w : xW) : Option xR := match st with
  | v :: .ref a :: r => (match w.1 a with
    | some (.inr (ci, fs)) => (match xFl o idx with
      | some q => if ci = q.2.2.1 ∧ q.2.2.2.1 < fs.length ∧ narrow (xtyOf ci q.2.2.2.1) v = v ∧ fits (xtyOf ci q.2.2.2.1) v = true ∧ (xfin ci q.2.2.2.1 = false ∨ (init = true ∧ o = ci ∧ q.2.2.2.2.1 = 0)) then some (.inl (pc + 3, L, r, xup w.1 a (.inr (ci, fs.set q.2.2.2.1 v)), w.2)) else none
      | none => none)
    | _ => none)
  | _ => none
def xldc (G : xG) (o idx pc : Nat) (L : xL) (st : List Value) (w : xW) : Option xR := match xDl o idx with
  | some q => if q.2.2.1 = 0 then some (.inl (pc + 2, L, .int q.2.2.2.1 :: st, w)) else some (.inl (pc + 2, L, .ref (G.1 q.2.2.2.2.1) :: st, w))
  | none => none
def xldc2 (o idx pc : Nat) (L : xL) (st : List Value) (w : xW) : Option xR := match xLl o idx with
  | some q => some (.inl (pc + 3, L, .long q.2.2.1 :: st, w))
  | none => none
def xcats (st : List Value) : Nat := (st.map fun v => v.category).sum
/-- System.arraycopy of ints -/
def xcopy (pc : Nat) (L : xL) (st : List Value) (w : xW) : Option xR := match st with
  | .int n :: .int dp :: .ref b :: .int sp :: .ref a :: r => (match w.1 a, w.1 b with
    | some (.inl (0, n0, .inl f)), some (.inl (0, n1, .inl g)) => if 8 < xcats r ∨ sp < 0 ∨ dp < 0 ∨ n < 0 ∨ n0 < sp.toNatClampNeg + n.toNatClampNeg ∨ n1 < dp.toNatClampNeg + n.toNatClampNeg then none else some (.inl (pc + 3, L, r, xup w.1 b (.inl (0, n1, .inl (va_cpy f g sp.toNatClampNeg dp.toNatClampNeg n.toNatClampNeg))), w.2))
    | _, _ => none)
  | _ => none
def xslen (G : xG) (pc : Nat) (L : xL) (st : List Value) (w : xW) : Option xR := match st with
  | .ref a :: r => (match G.2.1 a with
    | some i => if 8 < xcats r then none else some (.inl (pc + 3, L, .int (nI (xSt.getD i []).length) :: r, w))
    | none => none)
  | _ => none
def xsat (G : xG) (pc : Nat) (L : xL) (st : List Value) (w : xW) : Option xR := match st with
  | .int k :: .ref a :: r => (match G.2.1 a with
    | some i => if 8 < xcats r ∨ k < 0 ∨ (xSt.getD i []).length ≤ k.toNatClampNeg then none else some (.inl (pc + 3, L, .int (nI ((xSt.getD i []).getD k.toNatClampNeg 0)) :: r, w))
    | none => none)
  | _ => none
/-- a call, by its kind: methods of the claim; members of the JDK -/
def xcV (id : Nat) (st : List Value) (w : xW) : Option xR := match st.drop (xA id) with
  | .ref b :: r => (match w.1 b with
    | some (.inr (ci, _)) => if ci = xO id ∧ xcats r ≤ 8 then some (.inr (.inr (id, .ref b :: (st.take (xA id)).reverse, r))) else none
    | _ => none)
  | _ => none
def xcI (id : Nat) (st : List Value) : Option xR := match st.drop (xA id) with
  | .ref b :: r => if xcats r ≤ 8 ∧ xT id = none then some (.inr (.inr (id, .ref b :: (st.take (xA id)).reverse, r))) else none
  | _ => none
def xcS (id : Nat) (st : List Value) : Option xR := if xA id ≤ st.length ∧ xcats (st.drop (xA id)) ≤ 8 then some (.inr (.inr (id, (st.take (xA id)).reverse, st.drop (xA id)))) else none
def xobj (pc : Nat) (L : xL) (st : List Value) (w : xW) : Option xR := match st with
  | .ref _ :: r => if xcats r ≤ 8 then some (.inl (pc + 3, L, r, w)) else none
  | _ => none
def xmax (pc : Nat) (L : xL) (st : List Value) (w : xW) : Option xR := match st with
  | .int y :: .int x :: r => if xcats r ≤ 8 then some (.inl (pc + 3, L, .int (if x < y then y else x) :: r, w)) else none
  | _ => none
def xmin (pc : Nat) (L : xL) (st : List Value) (w : xW) : Option xR := match st with
  | .int y :: .int x :: r => if xcats r ≤ 8 then some (.inl (pc + 3, L, .int (if y < x then y else x) :: r, w)) else none
  | _ => none
def xminl (pc : Nat) (L : xL) (st : List Value) (w : xW) : Option xR := match st with
  | .long y :: .long x :: r => if xcats r ≤ 8 then some (.inl (pc + 3, L, .long (if y < x then y else x) :: r, w)) else none
  | _ => none
def xcall (G : xG) (kind id : Nat) (pc : Nat) (L : xL) (st : List Value) (w : xW) : Option xR :=
  if kind = 0 then xcV id st w
  else if kind = 1 ∨ kind = 4 then xcS id st
  else if kind = 2 ∨ kind = 3 then xcI id st
  else if kind = 5 then xobj pc L st w
  else if kind = 6 then xmax pc L st w
  else if kind = 7 then xmin pc L st w
  else if kind = 8 then xminl pc L st w
  else if kind = 9 then xcopy pc L st w
  else if kind = 10 then xslen G pc L st w
  else if kind = 11 then xsat G pc L st w
  else none
def xinv (G : xG) (op o idx d : Nat) (pc : Nat) (L : xL) (st : List Value) (w : xW) : Option xR := match xCl o idx with
  | some q => if d = 0 then none else if (op = 0 ∧ (q.2.2.1 = 0 ∨ q.2.2.1 = 10 ∨ q.2.2.1 = 11)) ∨ (op = 1 ∧ (q.2.2.1 = 2 ∨ q.2.2.1 = 3 ∨ q.2.2.1 = 5)) ∨ (op = 2 ∧ (q.2.2.1 = 1 ∨ q.2.2.1 = 4 ∨ q.2.2.1 = 6 ∨ q.2.2.1 = 7 ∨ q.2.2.1 = 8 ∨ q.2.2.1 = 9)) then xcall G q.2.2.1 q.2.2.2.1 pc L st w else none
  | none => none
def xiret (rt : Option FieldType) (st : List Value) (w : xW) : Option xR := match st with
  | [.int v] => (match rt with
    | some ty => if narrow ty (.int v) = .int v then some (.inr (.inl (some (.int v), w))) else none
    | none => none)
  | _ => none
def xlret (rt : Option FieldType) (st : List Value) (w : xW) : Option xR := match st with
  | [.long v] => if rt = some .long then some (.inr (.inl (some (.long v), w))) else none
  | _ => none
def xaret (rt : Option FieldType) (st : List Value) (w : xW) : Option xR := match st with
  | [.ref a] => (match rt with
    | some (.object _) => some (.inr (.inl (some (.ref a), w)))
    | some (.array _) => some (.inr (.inl (some (.ref a), w)))
    | _ => none)
  | _ => none
def xvret (rt : Option FieldType) (st : List Value) (w : xW) : Option xR := match st with
  | [] => if rt = none then some (.inr (.inl (none, w))) else none
  | _ => none
/-- one instruction -/
def xop (G : xG) (mi d : Nat) (ins : Instr) (pc : Nat) (L : xL) (st : List Value) (w : xW) : Option xR := match ins with
  | .aconst_null => xpush 1 .null pc L st w
  | .iconst n => xpush 1 (.int (Int32.ofInt n)) pc L st w
  | .lconst n => xpush 1 (.long (Int64.ofNat (n : Nat))) pc L st w
  | .bipush n => xpush 2 (.int (Int8.ofInt n).toInt32) pc L st w
  | .sipush n => xpush 3 (.int (Int16.ofInt n).toInt32) pc L st w
  | .ldc i => xldc G (xO mi) i pc L st w
  | .ldc2_w i => xldc2 (xO mi) i pc L st w
  | .iload i => xiload 2 i pc L st w
  | .iload_n i => xiload 1 i pc L st w
  | .lload i => xlload 2 i pc L st w
  | .lload_n i => xlload 1 i pc L st w
  | .aload i => xaload 2 i pc L st w
  | .aload_n i => xaload 1 i pc L st w
  | .istore i => xistore 2 i pc L st w
  | .istore_n i => xistore 1 i pc L st w
  | .lstore_n i => xlstore 1 i pc L st w
  | .astore i => xastore 2 i pc L st w
  | .astore_n i => xastore 1 i pc L st w
  | .iinc i k => xiinc i k pc L st w
  | .iadd => xbin (fun x y => x + y) pc L st w
  | .isub => xbin (fun x y => x - y) pc L st w
  | .imul => xbin (fun x y => x * y) pc L st w
  | .iand => xbin (fun x y => x &&& y) pc L st w
  | .ior => xbin (fun x y => x ||| y) pc L st w
  | .ishl => xbin (fun x y => x <<< (y &&& 31)) pc L st w
  | .ishr => xbin (fun x y => x >>> (y &&& 31)) pc L st w
  | .iushr => xbin (fun x y => (x.toUInt32 >>> (y.toUInt32 &&& Int32.toUInt32 31)).toInt32) pc L st w
  | .idiv => xdiv (fun x y => x / y) pc L st w
  | .irem => xdiv (fun x y => x - x / y * y) pc L st w
  | .ladd => xlbin (fun x y => x + y) pc L st w
  | .lsub => xlbin (fun x y => x - y) pc L st w
  | .lmul => xlbin (fun x y => x * y) pc L st w
  | .i2l => xun (fun x => .long x.toInt64) pc L st w
  | .i2b => xun (fun x => .int x.toInt8.toInt32) pc L st w
  | .i2c => xun (fun x => .int (x.toUInt32 % 65536).toInt32) pc L st w
  | .l2i => xl2i pc L st w
  | .lcmp => xlcmp pc L st w
  | .dup => xdup pc L st w
  | .dup2 => xdup2 pc L st w
  | .pop => xpop pc L st w
  | .if_icmp c off => xicmp c off pc L st w
  | .ifCond c off => xif c off pc L st w
  | .goto off => xgo pc off L st w
  | .ifnonnull off => xnonnull off pc L st w
  | .tableswitch df lo hi offs => xtsw df lo hi offs pc L st w
  | .lookupswitch df ps => xlsw df ps pc L st w
  | .iaload => xiald G pc L st w
  | .baload => xbald pc L st w
  | .aaload => xaald pc L st w
  | .arraylength => xalen G pc L st w
  | .iastore => xiast pc L st w
  | .bastore => xbast pc L st w
  | .aastore => xaast pc L st w
  | .newarray t => xnewa t pc L st w
  | .anewarray i => xanew (xO mi) i pc L st w
  | .multianewarray i dims => xmulti (xO mi) i dims pc L st w
  | .new i => xnew (xO mi) i pc L st w
  | .getfield i => xgetf (xO mi) i pc L st w
  | .putfield i => xputf (xO mi) i ((xY mi).name == "<init>") pc L st w
  | .invokevirtual i => xinv G 0 (xO mi) i d pc L st w
  | .invokespecial i => xinv G 1 (xO mi) i d pc L st w
  | .invokestatic i => xinv G 2 (xO mi) i d pc L st w
  | .ireturn => xiret (xT mi) st w
  | .lreturn => xlret (xT mi) st w
  | .areturn => xaret (xT mi) st w
  | .return_ => xvret (xT mi) st w
  | _ => none
/-- arguments as locals: a long takes two -/
def xargs : List Value → xL
  | [] => []
  | v :: vs => if v.category = 2 then some v :: none :: xargs vs else some v :: xargs vs
def xloc (mi : Nat) (as : List Value) : xL := xargs as ++ List.replicate (xM mi - (xargs as).length) none
/-- a run: steps left, calls left, method, frame -/
def xrun (G : xG) : Nat → Nat → Nat → xF → Option (Option Value × xW)
  | 0, _, _, _ => none
  | n + 1, d, mi, f => match xI mi f.1 with
    | none => none
    | some ins => match xop G mi d ins f.1 f.2.1 f.2.2.1 f.2.2.2 with
      | none => none
      | some (.inl f') => xrun G n d mi f'
      | some (.inr (.inl r)) => some r
      | some (.inr (.inr c)) => if (xargs c.2.1).length ≤ xM c.1 ∧ c.1 < 123 then (match xrun G n (d - 1) c.1 (0, xloc c.1 c.2.1, [], f.2.2.2) with
        | none => none
        | some r => xrun G n d mi (f.1 + 3, f.2.1, r.1.toList ++ c.2.2, r.2)) else none
