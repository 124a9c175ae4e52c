/-! THE SMALL MACHINE: the walked methods' bytecode over a plain heap. A value is Jvm's own; a reference is the number of a cell of OURS (below 1000000), the script (1000000), a text constant (1000001, 1000002), its bytes (1000011, 1000012), or the formatter (1000021). A heap: cells and slots used, cells that are ours, what each holds. -/
abbrev AE : Type := (FieldType × vp_A) ⊕ (Nat × List Value)
abbrev AH : Type := (Nat × Nat) × Nat × (Nat → AE)
abbrev AN : Type := Nat × List Value × List Value × AH
def poi : Value := .retAddr 0
def thr : Value := .retAddr 1
def catS (st : List Value) : Nat := (st.map fun v => v.category).sum
def tgO (pc : Nat) (off : Int) : Option Nat := if 0 ≤ (pc : Int) + off then some ((pc : Int) + off).toNat else none
def getI (ls : List Value) (n : Nat) : Option Int32 := match ls[n]? with | some (.int v) => some v | _ => none
def getL (ls : List Value) (n : Nat) : Option Int64 := match ls[n]? with | some (.long v) => some v | _ => none
def getR (ls : List Value) (n : Nat) : Option Nat := match ls[n]? with | some (.ref a) => if a < 1000020 then some a else none | _ => none
def okS (k n : Nat) : Bool := !(mLS k).contains n && (n == 0 || !(mLS k).contains (n - 1))
def sto1 (k : Nat) (ls : List Value) (n : Nat) (v : Value) : Option (List Value) := if n < ls.length ∧ okS k n = true then some (ls.set n v) else none
def okS2 (k n : Nat) : Bool := (mLS k).contains n && !(mLS k).contains (n + 1) && (n == 0 || !(mLS k).contains (n - 1))
def sto2 (k : Nat) (ls : List Value) (n : Nat) (v : Int64) : Option (List Value) := if n + 1 < ls.length ∧ okS2 k n = true then some ((ls.set n (.long v)).set (n + 1) poi) else none
def inB (j : Int32) (n : Nat) : Bool := decide (¬ (j < 0 ∨ n ≤ j.toNatClampNeg))
def gF (e : AE) (ci j : Nat) : Option Value := match e with
  | .inr (c, fs) => if c = ci then fs[j]? else none
  | .inl _ => none
def pF (e : AE) (ci j : Nat) (v : Value) : Option AE := match e with
  | .inr (c, fs) => if c = ci ∧ j < fs.length then some (.inr (c, fs.set j v)) else none
  | .inl _ => none
def ldI (e : AE) (ty : FieldType) (j : Int32) : Option Value := match e with
  | .inl (t, n, .inl f) => if t = ty ∧ inB j n = true then some (.int (f j.toNatClampNeg)) else none
  | _ => none
def ldL (e : AE) (j : Int32) : Option Value := match e with
  | .inl (t, n, .inr (.inl f)) => if t = .long ∧ inB j n = true then some (.long (f j.toNatClampNeg)) else none
  | _ => none
def stI (e : AE) (ty : FieldType) (j x : Int32) : Option AE := match e with
  | .inl (t, n, .inl f) => if t = ty ∧ inB j n = true then some (.inl (t, n, .inl (upd f j.toNatClampNeg (vp_nar ty x)))) else none
  | _ => none
def stL (e : AE) (j : Int32) (x : Int64) : Option AE := match e with
  | .inl (t, n, .inr (.inl f)) => if t = .long ∧ inB j n = true then some (.inl (t, n, .inr (.inl (vp_updL f j.toNatClampNeg x)))) else none
  | _ => none
def okV (ty : FieldType) (v : Value) : Bool := (match v with | .int _ => true | .ref a => decide (a < 1000000) | _ => false) && fits ty v && decide (narrow ty v = v)
def setC (h : AH) (a : Nat) (e : AE) : AH := (h.1, h.2.1, va_up h.2.2 a e)
def lenS (i : Nat) : Nat := if i = 0 then 88 else 7
def bytS (i : Nat) : List Int32 := if i = 0 then [97, 116, 32, 32, 32, 32, 32, 32, 119, 97, 105, 116, 32, 32, 32, 32, 119, 104, 101, 110, 32, 32, 32, 32, 97, 110, 100, 32, 32, 32, 32, 32, 117, 112, 32, 32, 32, 32, 32, 32, 112, 101, 111, 112, 108, 101, 32, 32, 116, 104, 105, 110, 103, 115, 32, 32, 108, 97, 116, 101, 32, 32, 32, 32, 108, 97, 115, 116, 32, 32, 32, 32, 104, 111, 117, 114, 32, 32, 32, 32, 116, 114, 97, 105, 110, 32, 32, 32] else [40, 41, 60, 61, 43, 45, 59]
def cI (c : ClassFile.Cond) (x y : Int32) : Bool := match c with
  | .eq => decide (x = y)
  | .ne => decide (¬ x = y)
  | .lt => decide (x < y)
  | .ge => decide (y ≤ x)
  | .gt => decide (y < x)
  | .le => decide (x ≤ y)
def brO (b : Bool) (pc : Nat) (off : Int) (ls st : List Value) (h : AH) : Option AN := match tgO pc off with
  | some t => if b = true then some (t, ls, st, h) else some (pc + 3, ls, st, h)
  | none => none
def newO (h : AH) (ci : Nat) : AH := ((h.1.1 + 1, h.1.2 + vN ci), h.2.1 + 1, va_up h.2.2 h.2.1 (.inr (ci, (List.range (vN ci)).map (fun j => defaultValue (vTy ci j)))))
def newA (h : AH) (N : Nat) (e : AE) : AH := ((h.1.1 + 1, h.1.2 + N), h.2.1 + 1, va_up h.2.2 h.2.1 e)
def arr0 (t : ArrayType) (N : Nat) : Option AE := match t with
  | .int => some (.inl (.int, N, .inl (fun _ => 0)))
  | .boolean => some (.inl (.boolean, N, .inl (fun _ => 0)))
  | .char => some (.inl (.char, N, .inl (fun _ => 0)))
  | .long => some (.inl (.long, N, .inr (.inl (fun _ => 0))))
  | _ => none
def cpA (e0 e1 : AE) (sp dp n : Int32) : Option AE := match e0, e1 with
  | .inl (t0, n0, .inl f), .inl (t1, n1, .inl g) => if (t0 = .int ∨ t0 = .boolean) ∧ t1 = t0 ∧ ¬ sp < 0 ∧ ¬ dp < 0 ∧ ¬ n < 0 ∧ sp.toNatClampNeg + n.toNatClampNeg ≤ n0 ∧ dp.toNatClampNeg + n.toNatClampNeg ≤ n1 ∧ (List.range n.toNatClampNeg).all (fun i => fits t0 (.int (f (sp.toNatClampNeg + i)))) = true then some (.inl (t1, n1, .inl (va_cpy f g sp.toNatClampNeg dp.toNatClampNeg n.toNatClampNeg))) else none
  | _, _ => none
def mthV (q : Nat) (st : List Value) : Option (Int32 × List Value) := if q = 0 then (match st with | .int x :: r => some (if 0 ≤ x then x else 0 - x, r) | _ => none) else if q = 1 then (match st with | .int y :: .int x :: r => some (if x < y then y else x, r) | _ => none) else (match st with | .int y :: .int x :: r => some (if y < x then y else x, r) | _ => none)
def bin (f : Int32 → Int32 → Int32) (pc : Nat) (ls st : List Value) (h : AH) : Option AN := match st with
  | .int y :: .int x :: r => some (pc + 1, ls, .int (f x y) :: r, h)
  | _ => none
def binL (f : Int64 → Int64 → Int64) (pc : Nat) (ls st : List Value) (h : AH) : Option AN := match st with
  | .long y :: .long x :: r => some (pc + 1, ls, .long (f x y) :: r, h)
  | _ => none
def shL (f : Int64 → Int32 → Int64) (pc : Nat) (ls st : List Value) (h : AH) : Option AN := match st with
  | .int y :: .long x :: r => some (pc + 1, ls, .long (f x y) :: r, h)
  | _ => none
def unI (f : Int32 → Int32) (pc : Nat) (ls st : List Value) (h : AH) : Option AN := match st with
  | .int x :: r => some (pc + 1, ls, .int (f x) :: r, h)
  | _ => none
def gfO (k idx pc : Nat) (ls st : List Value) (h : AH) : Option AN := match st with
  | .ref a :: r => if mC k = 10 then (if idx = 9 ∧ 1000001 ≤ a ∧ a < 1000003 then some (pc + 3, ls, .ref (a + 10) :: r, h) else if idx = 15 ∧ 1000001 ≤ a ∧ a < 1000003 then some (pc + 3, ls, .int 0 :: r, h) else none)
    else (match fld (mC k) idx with
      | some (ci, j) => if a < h.2.1 then (gF (h.2.2 a) ci j).map (fun v => (pc + 3, ls, v :: r, h)) else none
      | none => none)
  | _ => none
def pfO (k idx pc : Nat) (ls st : List Value) (h : AH) : Option AN := match st with
  | v :: .ref a :: r => (match fld (mC k) idx with
      | some (ci, j) => if a < h.2.1 ∧ okV (vTy ci j) v = true ∧ ((vT ci j).2.2.2 = false ∨ (mKd k = 2 ∧ mC k = ci)) then (pF (h.2.2 a) ci j v).map (fun e => (pc + 3, ls, r, setC h a e)) else none
      | none => none)
  | _ => none
def ldO (ty : FieldType) (pc : Nat) (ls st : List Value) (h : AH) : Option AN := match st with
  | .int j :: .ref a :: r => if a < h.2.1 ∨ (a = 1000000 ∧ ty = .int) then (ldI (h.2.2 a) ty j).map (fun v => (pc + 1, ls, v :: r, h)) else if ty = .boolean ∧ 1000011 ≤ a ∧ a < 1000013 ∧ inB j (lenS (a - 1000011)) = true then some (pc + 1, ls, .int ((bytS (a - 1000011)).getD j.toNatClampNeg 0) :: r, h) else none
  | _ => none
def stO (ty : FieldType) (pc : Nat) (ls st : List Value) (h : AH) : Option AN := match st with
  | .int x :: .int j :: .ref a :: r => if a < h.2.1 then (stI (h.2.2 a) ty j x).map (fun e => (pc + 1, ls, r, setC h a e)) else none
  | _ => none
def sI (k : Nat) (i : Instr) (pc : Nat) (ls st : List Value) (h : AH) : Option AN := match i with
  | .iconst n => some (pc + 1, ls, .int (Int32.ofInt n) :: st, h)
  | .bipush n => some (pc + 2, ls, .int (Int8.ofInt n).toInt32 :: st, h)
  | .sipush n => some (pc + 3, ls, .int (Int16.ofInt n).toInt32 :: st, h)
  | .lconst n => some (pc + 1, ls, .long (Int64.ofNat (n : Nat)) :: st, h)
  | .iload_n n => (getI ls (n : Nat)).map (fun v => (pc + 1, ls, .int v :: st, h))
  | .iload n => (getI ls n).map (fun v => (pc + 2, ls, .int v :: st, h))
  | .lload_n n => (getL ls (n : Nat)).map (fun v => (pc + 1, ls, .long v :: st, h))
  | .lload n => (getL ls n).map (fun v => (pc + 2, ls, .long v :: st, h))
  | .aload_n n => (getR ls (n : Nat)).map (fun a => (pc + 1, ls, .ref a :: st, h))
  | .aload n => (getR ls n).map (fun a => (pc + 2, ls, .ref a :: st, h))
  | .istore_n n => (match st with | .int v :: r => (sto1 k ls (n : Nat) (.int v)).map (fun l => (pc + 1, l, r, h)) | _ => none)
  | .istore n => (match st with | .int v :: r => (sto1 k ls n (.int v)).map (fun l => (pc + 2, l, r, h)) | _ => none)
  | .astore_n n => (match st with | .ref a :: r => if a < 1000020 then (sto1 k ls (n : Nat) (.ref a)).map (fun l => (pc + 1, l, r, h)) else none | _ => none)
  | .lstore n => (match st with | .long v :: r => (sto2 k ls n v).map (fun l => (pc + 2, l, r, h)) | _ => none)
  | .iinc n d => (match getI ls n with | some v => (sto1 k ls n (.int (v + Int32.ofInt d))).map (fun l => (pc + 3, l, st, h)) | none => none)
  | .iadd => bin (fun x y => x + y) pc ls st h
  | .isub => bin (fun x y => x - y) pc ls st h
  | .imul => bin (fun x y => x * y) pc ls st h
  | .iand => bin (fun x y => x &&& y) pc ls st h
  | .ishr => bin (fun x y => x >>> (y &&& 31)) pc ls st h
  | .idiv => (match st with | .int y :: .int x :: r => if y = 0 then none else some (pc + 1, ls, .int (x / y) :: r, h) | _ => none)
  | .irem => (match st with | .int y :: .int x :: r => if y = 0 then none else some (pc + 1, ls, .int (x - x / y * y) :: r, h) | _ => none)
  | .ineg => unI (fun x => -x) pc ls st h
  | .i2b => unI (fun x => x.toInt8.toInt32) pc ls st h
  | .i2c => unI (fun x => (x.toUInt32 % 65536).toInt32) pc ls st h
  | .ladd => binL (fun x y => x + y) pc ls st h
  | .lsub => binL (fun x y => x - y) pc ls st h
  | .lmul => binL (fun x y => x * y) pc ls st h
  | .land => binL (fun x y => x &&& y) pc ls st h
  | .lor => binL (fun x y => x ||| y) pc ls st h
  | .lshl => shL (fun x y => x <<< (y.toInt64 &&& 63)) pc ls st h
  | .lshr => shL (fun x y => x >>> (y.toInt64 &&& 63)) pc ls st h
  | .lushr => shL (fun x y => (x.toUInt64 >>> (y.toInt64.toUInt64 &&& Int64.toUInt64 63)).toInt64) pc ls st h
  | .lcmp => (match st with | .long y :: .long x :: r => some (pc + 1, ls, .int (lg_cmp x y) :: r, h) | _ => none)
  | .i2l => (match st with | .int x :: r => some (pc + 1, ls, .long x.toInt64 :: r, h) | _ => none)
  | .l2i => (match st with | .long x :: r => some (pc + 1, ls, .int x.toInt32 :: r, h) | _ => none)
  | .dup => (match st with | .int x :: r => some (pc + 1, ls, .int x :: .int x :: r, h) | .ref a :: r => if a < 1000020 then some (pc + 1, ls, .ref a :: .ref a :: r, h) else none | _ => none)
  | .dup2 => (match st with | .int x :: .ref a :: r => if a < 1000020 then some (pc + 1, ls, .int x :: .ref a :: .int x :: .ref a :: r, h) else none | _ => none)
  | .pop => (match st with | .int _ :: r => some (pc + 1, ls, r, h) | _ => none)
  | .if_icmp c off => (match st with | .int y :: .int x :: r => brO (cI c x y) pc off ls r h | _ => none)
  | .ifCond c off => (match st with | .int x :: r => brO (cI c x 0) pc off ls r h | _ => none)
  | .goto off => (tgO pc off).map (fun t => (t, ls, st, h))
  | .tableswitch d lo hi offs => (match st with
      | .int x :: r => if x.toInt < lo ∨ hi < x.toInt then (tgO pc d).map (fun t => (t, ls, r, h)) else (match offs[(x.toInt - lo).toNat]? with | some off => (tgO pc off).map (fun t => (t, ls, r, h)) | none => none)
      | _ => none)
  | .lookupswitch d ps => (match st with
      | .int x :: r => if (ps.toList.zip (ps.toList.drop 1)).all (fun (a, next) => a.1 < next.1) = true then (tgO pc (Op.lookupswitch.offset ps.toList d x.toInt)).map (fun t => (t, ls, r, h)) else none
      | _ => none)
  | .getfield idx => gfO k idx pc ls st h
  | .putfield idx => pfO k idx pc ls st h
  | .getstatic idx => if mC k = 10 ∧ idx = 38 then some (pc + 3, ls, .int 1 :: st, h) else if mC k = 10 ∧ idx = 1053 then some (pc + 3, ls, .ref 1000021 :: st, h) else none
  | .ldc idx => if mC k = 5 ∧ idx = 19 then some (pc + 2, ls, .ref 1000001 :: st, h) else if mC k = 2 ∧ idx = 79 then some (pc + 2, ls, .ref 1000002 :: st, h) else none
  | .ldc2_w idx => (cstC (mC k) idx).map (fun v => (pc + 3, ls, .long v :: st, h))
  | .new idx => (match newC (mC k) idx with
      | some ci => if h.1.1 = h.2.1 ∧ h.2.1 < 999999 then some (pc + 3, ls, .ref h.2.1 :: st, newO h ci) else none
      | none => none)
  | .newarray t => (match st with
      | .int n :: r => if h.1.1 = h.2.1 ∧ h.2.1 < 999999 ∧ ¬ n < 0 ∧ n.toNatClampNeg ≤ 100000 then (arr0 t n.toNatClampNeg).map (fun e => (pc + 2, ls, .ref h.2.1 :: r, newA h n.toNatClampNeg e)) else none
      | _ => none)
  | .arraylength => (match st with
      | .ref a :: r => if a = 1000000 then (match h.2.2 a with | .inl (.int, L, .inl _) => some (pc + 1, ls, .int (Int32.ofNat L) :: r, h) | _ => none) else if 1000011 ≤ a ∧ a < 1000013 then some (pc + 1, ls, .int (Int32.ofNat (lenS (a - 1000011))) :: r, h) else none
      | _ => none)
  | .iaload => ldO .int pc ls st h
  | .baload => ldO .boolean pc ls st h
  | .caload => ldO .char pc ls st h
  | .laload => (match st with | .int j :: .ref a :: r => if a < h.2.1 then (ldL (h.2.2 a) j).map (fun v => (pc + 1, ls, v :: r, h)) else none | _ => none)
  | .iastore => stO .int pc ls st h
  | .bastore => stO .boolean pc ls st h
  | .castore => stO .char pc ls st h
  | .lastore => (match st with | .long x :: .int j :: .ref a :: r => if a < h.2.1 then (stL (h.2.2 a) j x).map (fun e => (pc + 1, ls, r, setC h a e)) else none | _ => none)
  | .invokespecial idx => (match st with | .ref a :: r => if oinC (mC k) idx = true ∧ a < 1000000 ∧ catS r ≤ 8 then some (pc + 3, ls, r, h) else none | _ => none)
  | .invokestatic idx => if acpC (mC k) idx = true then
        (match st with
        | .int n :: .int dp :: .ref a :: .int sp :: .ref a0 :: r => if a < h.2.1 ∧ a0 < h.2.1 ∧ catS r ≤ 8 then (cpA (h.2.2 a0) (h.2.2 a) sp dp n).map (fun e => (pc + 3, ls, r, setC h a e)) else none
        | _ => none)
      else (match mthC (mC k) idx with
        | some q => (match mthV q st with | some (v, r) => if catS r ≤ 8 then some (pc + 3, ls, .int v :: r, h) else none | none => none)
        | none => none)
  | _ => none
def lenI (i : Instr) (len : Nat) : Nat := match i with
  | .bipush _ | .iload _ | .lload _ | .aload _ | .istore _ | .lstore _ | .ldc _ | .newarray _ => 2
  | .sipush _ | .iinc _ _ | .if_icmp _ _ | .ifCond _ _ | .goto _ | .getfield _ | .putfield _ | .getstatic _ | .ldc2_w _ | .new _ | .invokevirtual _ | .invokespecial _ | .invokestatic _ => 3
  | .tableswitch .. | .lookupswitch .. => len
  | _ => 1
def isFin (k : Nat) (i : Instr) : Bool := match i with
  | .ireturn => true
  | .return_ => true
  | .new idx => decide (idx = 149 ∧ (k = 87 ∨ k = 88))
  | _ => false
def callOf (k : Nat) (i : Instr) : Option (Nat × Nat) := match i with
  | .invokevirtual idx => (match cal (mC k) idx with | some (kd, k') => if kd = 0 then some (kd, k') else none | none => none)
  | .invokestatic idx => (match cal (mC k) idx with | some (kd, k') => if kd = 1 ∨ kd = 3 then some (kd, k') else none | none => none)
  | .invokespecial idx => (match cal (mC k) idx with | some (kd, k') => if kd = 2 then some (kd, k') else none | none => none)
  | _ => none
def wrapOf (k : Nat) (i : Instr) : Option Nat := match i with
  | .invokestatic idx => if k = 149 ∧ idx = 77 then some 87 else if k = 149 ∧ idx = 86 then some 88 else none
  | _ => none
def iniL (as : List Value) : List Value := as.flatMap (fun v => if v.category = 2 then [v, poi] else [v])
def iniF (k : Nat) (as : List Value) : List Value := iniL as ++ List.replicate (mML k - (iniL as).length) poi
def lsOK (k : Nat) (l : List Value) : Bool := l.zipIdx.all (fun q => match q.1 with | .long _ => (mLS k).contains q.2 | _ => true)
def clsAt (e : AE) : Option Nat := match e with | .inr (c, _) => some c | .inl _ => none
def recvOK (kd k' : Nat) (as : List Value) (h : AH) : Bool := match kd with
  | 0 => (match as with | .ref a :: _ => (decide (a < h.2.1) && decide (clsAt (h.2.2 a) = some (mC k'))) || (decide (mC k' = 10) && decide (1000001 ≤ a) && decide (a < 1000003)) | _ => false)
  | 2 => (match as with | .ref a :: _ => decide (a < 1000000) | _ => false)
  | _ => true
def okA (v : Value) : Bool := match v with | .double _ => false | _ => true
def cAr (k d kd k' : Nat) (st : List Value) (h : AH) : Option (List Value × List Value) :=
  if mPar k' ≤ st.length ∧ catS (st.drop (mPar k')) ≤ 8 ∧ recvOK kd k' (st.take (mPar k')).reverse h = true ∧ (st.take (mPar k')).all okA = true ∧ lsOK k' (iniL (st.take (mPar k')).reverse) = true ∧ (iniL (st.take (mPar k')).reverse).length ≤ mML k' ∧ rk k' (dep k' (st.take (mPar k')).reverse) < rk k d then some ((st.take (mPar k')).reverse, st.drop (mPar k')) else none
/-- `throw new NoSuchElementException(text)` stands here -/
def nxOK (k pc : Nat) : Bool := (match decode (mCode k) pc with | .ok (.new i, 3) => decide (i = 149) | _ => false) && (match decode (mCode k) (pc + 3) with | .ok (.dup, 1) => true | _ => false) && (match decode (mCode k) (pc + 4) with | .ok (.ldc i, 2) => decide (i = 151 ∨ i = 184 ∨ i = 186 ∨ i = 198) | _ => false) && (match decode (mCode k) (pc + 6) with | .ok (.invokespecial i, 3) => decide (i = 153) | _ => false) && (match decode (mCode k) (pc + 9) with | .ok (.athrow, 1) => true | _ => false)
def retV (k pcf : Nat) (stf : List Value) : Option (List Value) := match decode (mCode k) pcf with
  | .ok (.ireturn, 1) => (match stf, mRet k with | [.int v], some ty => if narrow ty (.int v) = .int v then some [.int v] else none | _, _ => none)
  | .ok (.return_, 1) => (match stf, mRet k with | [], none => some [] | _, _ => none)
  | .ok (.new _, 3) => (match stf with | [] => if nxOK k pcf = true then some [thr] else none | _ => none)
  | _ => none
def ev : Nat → Nat → Nat → Nat → List Value → List Value → AH → Option (Nat × List Value × AH)
  | 0, _, _, _, _, _, _ => none
  | n + 1, k, d, pc, ls, st, h => match decode (mCode k) pc with
    | .error _ => none
    | .ok (i, len) => if len = lenI i len then
        (if isFin k i = true then some (pc, st, h) else
        match callOf k i with
        | some (kd, k') => (match cAr k d kd k' st h with
          | none => none
          | some (as, r) => (match ev n k' (dep k' as) 0 (iniF k' as) [] h with
            | none => none
            | some (pf, sf, h') => (match retV k' pf sf with
              | none => none
              | some rv => if rv = [thr] then none else ev n k d (pc + 3) ls (rv ++ r) h')))
        | none => (match wrapOf k i with
          | some k' => (match st with
            | .ref o :: .int p1 :: .int p0 :: .ref x :: r => if catS r ≤ 8 ∧ o < h.2.1 ∧ recvOK 0 k' [.ref x, .int p0, .int p1] h = true ∧ rk k' 0 + 1 < rk k d then
                (match ev n k' 0 0 (iniF k' [.ref x, .int p0, .int p1]) [] h with
                | none => none
                | some (pf, sf, h') => (match retV k' pf sf with
                  | some [.int v] => (match stL (h'.2.2 o) 0 v.toInt64 with
                    | some e => if o < h'.2.1 ∧ h'.1 = h.1 then ev n k d (pc + 3) ls (.int 0 :: r) (setC h' o e) else none
                    | none => none)
                  | some rv => if rv = [thr] ∧ h'.1 = h.1 then ev n k d (pc + 3) ls (.int 1 :: r) ((h.1.1 + 8, h.1.2 + 64), h'.2) else none
                  | none => none))
                else none
            | _ => none)
          | none => (match sI k i pc ls st h with
            | some (pc', ls', st', h') => ev n k d pc' ls' st' h'
            | none => none)))
      else none
