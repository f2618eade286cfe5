/-- how long an instruction is -/
def pmSz (ins : Instr) : Nat := match ins with
  | .bipush _ => 2
  | .sipush _ => 3
  | .ldc _ => 2
  | .ldc_w _ => 3
  | .ldc2_w _ => 3
  | .iload _ => 2
  | .aload _ => 2
  | .istore _ => 2
  | .astore _ => 2
  | .iinc _ _ => 3
  | .goto _ => 3
  | .ifCond _ _ => 3
  | .if_icmp _ _ => 3
  | .tableswitch _ _ _ _ => 0
  | .lookupswitch _ _ => 0
  | .getfield _ => 3
  | .putfield _ => 3
  | .new _ => 3
  | .newarray _ => 2
  | .anewarray _ => 3
  | .invokespecial _ => 3
  | .invokevirtual _ => 3
  | .invokestatic _ => 3
  | _ => 1
abbrev pmV : Type := Nat → Nat → Value
abbrev pmK : Type := List (Nat × Nat)
abbrev pmH : Type := pmK × pmV
abbrev pmLs : Type := List (Option Value)
abbrev pmS : Type := Nat × (Nat → Int32)
def pmPut (V : pmV) (c k : Nat) (v : Value) : pmV := fun a b => if a = c then (if b = k then v else V a b) else V a b
def pmRow (V : pmV) (n : Nat) (f : Nat → Value) : pmV := fun a b => if a = n then f b else V a b
def pmVI (v : Value) : Int32 := match v with
  | .int x => x
  | _ => 0
def pmVR (v : Value) : Option Nat := match v with
  | .ref a => some a
  | _ => none
def pmPush (ls : pmLs) (st : List Value) (v : Value) : Option (pmLs × List Value) := some (ls, v :: st)
def pmBi (f : Int32 → Int32 → Int32) (ls : pmLs) (st : List Value) : Option (pmLs × List Value) := match st with
  | .int y :: .int x :: r => some (ls, .int (f x y) :: r)
  | _ => none
def pmBd (f : Int32 → Int32 → Int32) (ls : pmLs) (st : List Value) : Option (pmLs × List Value) := match st with
  | .int y :: .int x :: r => if y = 0 then none else some (ls, .int (f x y) :: r)
  | _ => none
def pmBl (f : Int64 → Int64 → Int64) (ls : pmLs) (st : List Value) : Option (pmLs × List Value) := match st with
  | .long y :: .long x :: r => some (ls, .long (f x y) :: r)
  | _ => none
def pmBs (f : Int64 → Int32 → Int64) (ls : pmLs) (st : List Value) : Option (pmLs × List Value) := match st with
  | .int y :: .long x :: r => some (ls, .long (f x y) :: r)
  | _ => none
def pmIL (ls : pmLs) (st : List Value) : Option (pmLs × List Value) := match st with
  | .int x :: r => some (ls, .long x.toInt64 :: r)
  | _ => none
def pmLI (ls : pmLs) (st : List Value) : Option (pmLs × List Value) := match st with
  | .long x :: r => some (ls, .int x.toInt32 :: r)
  | _ => none
def pmLdI (i : Nat) (ls : pmLs) (st : List Value) : Option (pmLs × List Value) := match ls[i]? with
  | some (some (.int x)) => some (ls, .int x :: st)
  | _ => none
def pmLdL (i : Nat) (ls : pmLs) (st : List Value) : Option (pmLs × List Value) := match ls[i]? with
  | some (some (.long x)) => some (ls, .long x :: st)
  | _ => none
def pmLdA (i : Nat) (ls : pmLs) (st : List Value) : Option (pmLs × List Value) := match ls[i]? with
  | some (some (.ref x)) => some (ls, .ref x :: st)
  | some (some (.float x)) => some (ls, .float x :: st)
  | _ => none
def pmOkS (ls : pmLs) (i : Nat) : Bool := match i with
  | 0 => true
  | k + 1 => match ls[k]? with
    | some (some (.long _)) => false
    | some (some (.double _)) => false
    | _ => true
def pmStI (i : Nat) (ls : pmLs) (st : List Value) : Option (pmLs × List Value) := match st with
  | .int x :: r => if (Nat.blt i ls.length && pmOkS ls i) = true then some (ls.set i (some (.int x)), r) else none
  | _ => none
def pmStA (i : Nat) (ls : pmLs) (st : List Value) : Option (pmLs × List Value) := match st with
  | .ref x :: r => if (Nat.blt i ls.length && pmOkS ls i) = true then some (ls.set i (some (.ref x)), r) else none
  | _ => none
def pmInc (i : Nat) (n : Int) (ls : pmLs) (st : List Value) : Option (pmLs × List Value) := match ls[i]? with
  | some (some (.int x)) => if (Nat.blt i ls.length && pmOkS ls i) = true then some (ls.set i (some (.int (x + Int32.ofInt n))), st) else none
  | _ => none
def pmDup (ls : pmLs) (st : List Value) : Option (pmLs × List Value) := match st with
  | v :: r => if v.category = 1 then some (ls, v :: v :: r) else none
  | _ => none
def pmDup2 (ls : pmLs) (st : List Value) : Option (pmLs × List Value) := match st with
  | v :: w :: r => if v.category = 1 then (if w.category = 1 then some (ls, v :: w :: v :: w :: r) else none) else none
  | _ => none
def pmLdc (o : Option Int32) (ls : pmLs) (st : List Value) : Option (pmLs × List Value) := match o with
  | some x => some (ls, .int x :: st)
  | none => none
def pmLdc2 (o : Option Int64) (ls : pmLs) (st : List Value) : Option (pmLs × List Value) := match o with
  | some x => some (ls, .long x :: st)
  | none => none
/-- straight on, no cell -/
def pm1 (j : Nat) (ins : Instr) (ls : pmLs) (st : List Value) : Option (pmLs × List Value) := match ins with
  | .iconst n => pmPush ls st (.int (Int32.ofInt n))
  | .bipush n => pmPush ls st (.int (Int8.ofInt n).toInt32)
  | .sipush n => pmPush ls st (.int (Int16.ofInt n).toInt32)
  | .ldc i => pmLdc (ldcT j i) ls st
  | .ldc_w i => pmLdc (ldcT j i) ls st
  | .ldc2_w i => pmLdc2 (ld2T j i) ls st
  | .iload i => pmLdI i ls st
  | .iload_n i => pmLdI i.val ls st
  | .lload_n i => pmLdL i.val ls st
  | .aload i => pmLdA i ls st
  | .aload_n i => pmLdA i.val ls st
  | .istore i => pmStI i ls st
  | .istore_n i => pmStI i.val ls st
  | .astore i => pmStA i ls st
  | .astore_n i => pmStA i.val ls st
  | .iinc i n => pmInc i n ls st
  | .iadd => pmBi (fun x y => x + y) ls st
  | .isub => pmBi (fun x y => x - y) ls st
  | .imul => pmBi (fun x y => x * y) ls st
  | .iand => pmBi (fun x y => x &&& y) ls st
  | .ior => pmBi (fun x y => x ||| y) ls st
  | .ixor => pmBi (fun x y => x ^^^ y) ls st
  | .ishl => pmBi (fun x y => x <<< (y &&& 31)) ls st
  | .ishr => pmBi (fun x y => x >>> (y &&& 31)) ls st
  | .iushr => pmBi (fun x y => (x.toUInt32 >>> (y.toUInt32 &&& Int32.toUInt32 31)).toInt32) ls st
  | .idiv => pmBd (fun x y => x / y) ls st
  | .irem => pmBd (fun x y => x - x / y * y) ls st
  | .i2l => pmIL ls st
  | .l2i => pmLI ls st
  | .land => pmBl (fun x y => x &&& y) ls st
  | .lor => pmBl (fun x y => x ||| y) ls st
  | .lshl => pmBs (fun x y => x <<< (y.toInt64 &&& 63)) ls st
  | .lshr => pmBs (fun x y => x >>> (y.toInt64 &&& 63)) ls st
  | .dup => pmDup ls st
  | .dup2 => pmDup2 ls st
  | _ => none
def pmTg (pc : Nat) (off : Int) (st : List Value) : Option (Nat × List Value) := if 0 ≤ (pc : Int) + off then some (((pc : Int) + off).toNat, st) else none
def pmCnd (c : ClassFile.Cond) (x y : Int32) : Bool := match c with
  | .eq => decide (x = y)
  | .ne => decide (¬ x = y)
  | .lt => decide (x < y)
  | .ge => decide (y ≤ x)
  | .gt => decide (y < x)
  | .le => decide (x ≤ y)
def pmIf1 (c : ClassFile.Cond) (pc : Nat) (off : Int) (st : List Value) : Option (Nat × List Value) := match st with
  | .int x :: r => match pmTg pc off r with
    | some a => if pmCnd c x 0 = true then some a else some (pc + 3, r)
    | none => none
  | _ => none
def pmIf2 (c : ClassFile.Cond) (pc : Nat) (off : Int) (st : List Value) : Option (Nat × List Value) := match st with
  | .int y :: .int x :: r => match pmTg pc off r with
    | some a => if pmCnd c x y = true then some a else some (pc + 3, r)
    | none => none
  | _ => none
def pmTsw (dflt lo hi : Int) (offs : Array Int) (pc : Nat) (st : List Value) : Option (Nat × List Value) := match st with
  | .int x :: r => if x.toInt < lo ∨ hi < x.toInt then pmTg pc dflt r else match offs[(x.toInt - lo).toNat]? with
    | some off => pmTg pc off r
    | none => none
  | _ => none
def pmLsw (dflt : Int) (ps : Array (Int × Int)) (pc : Nat) (st : List Value) : Option (Nat × List Value) := match st with
  | .int x :: r => if (ps.toList.zip (ps.toList.drop 1)).all (fun (a, next) => a.1 < next.1) = true then pmTg pc (Op.lookupswitch.offset ps.toList dflt x.toInt) r else none
  | _ => none
/-- jumps -/
def pm2 (ins : Instr) (pc : Nat) (st : List Value) : Option (Nat × List Value) := match ins with
  | .goto off => pmTg pc off st
  | .ifCond c off => pmIf1 c pc off st
  | .if_icmp c off => pmIf2 c pc off st
  | .tableswitch d lo hi offs => pmTsw d lo hi offs pc st
  | .lookupswitch d ps => pmLsw d ps pc st
  | _ => none
def pmFit (t : Nat) (v : Value) : Bool := match v with
  | .int x => t == 0 || (t == 1 && (x == 0 || x == 1))
  | .ref _ => t == 2
  | _ => false
def pmGet (o : Option (Nat × Nat)) (st : List Value) (h : pmH) : Option (List Value × pmH) := match o with
  | none => none
  | some (ci, k) => match st with
    | .ref c :: r => match h.1[c]? with
      | some (t, n) => if (t == ci + 4 && n == nfT ci) = true then some (h.2 c k :: r, h) else none
      | none => none
    | _ => none
def pmSet (j : Nat) (o : Option (Nat × Nat)) (st : List Value) (h : pmH) : Option (List Value × pmH) := match o with
  | none => none
  | some (ci, k) => match st with
    | v :: .ref c :: r => match h.1[c]? with
      | some (t, n) => if (t == ci + 4 && n == nfT ci && pmFit (ftyT ci k) v && (!(finT ci k) || (iniT j && clsT j == ci))) = true then some (r, (h.1, pmPut h.2 c k v)) else none
      | none => none
    | _ => none
def pmArL (S : pmS) (tag : Nat) (st : List Value) (h : pmH) : Option (List Value × pmH) := match st with
  | .int i :: .ref c :: r => match h.1[c]? with
    | some (t, n) => if (t == tag && pmIn i n) = true then some (.int (pmVI (h.2 c i.toNatClampNeg)) :: r, h) else none
    | none => none
  | .int i :: .float _ :: r => if (tag == 1 && pmIn i (S.1 - 1)) = true then some (.int (S.2 i.toNatClampNeg) :: r, h) else none
  | _ => none
def pmArS (tag : Nat) (st : List Value) (h : pmH) : Option (List Value × pmH) := match st with
  | .int x :: .int i :: .ref c :: r => match h.1[c]? with
    | some (t, n) => if (t == tag && pmIn i n && (tag == 1 || (x == 0 || x == 1))) = true then some (r, (h.1, pmPut h.2 c i.toNatClampNeg (.int x))) else none
    | none => none
  | _ => none
def pmRfL (st : List Value) (h : pmH) : Option (List Value × pmH) := match st with
  | .int i :: .ref c :: r => match h.1[c]? with
    | some (t, n) => if (t == 3 && pmIn i n) = true then (match h.2 c i.toNatClampNeg with
      | .ref q => some (.ref q :: r, h)
      | _ => none) else none
    | none => none
  | _ => none
def pmRfS (st : List Value) (h : pmH) : Option (List Value × pmH) := match st with
  | .ref q :: .int i :: .ref c :: r => match h.1[c]? with
    | some (t, n) => match h.1[q]? with
      | some (t2, n2) => if (t == 3 && pmIn i n && t2 == rfcT + 4 && n2 == nfT rfcT) = true then some (r, (h.1, pmPut h.2 c i.toNatClampNeg (.ref q))) else none
      | none => none
    | none => none
  | _ => none
def pmLen (S : pmS) (st : List Value) (h : pmH) : Option (List Value × pmH) := match st with
  | .ref c :: r => match h.1[c]? with
    | some (t, n) => if (t == 1 || t == 2 || t == 3) = true then some (.int (Int32.ofNat n) :: r, h) else none
    | none => none
  | .float _ :: r => if S.1 = 0 then none else some (.int (Int32.ofNat (S.1 - 1)) :: r, h)
  | _ => none
def pmDf (ci k : Nat) : Value := if ftyT ci k = 2 then .null else .int 0
def pmNew (o : Option Nat) (st : List Value) (h : pmH) : Option (List Value × pmH) := match o with
  | none => none
  | some ci => some (.ref h.1.length :: st, (h.1 ++ [(ci + 4, nfT ci)], pmRow h.2 h.1.length (pmDf ci)))
def pmNwA (tag : Nat) (v : Value) (st : List Value) (h : pmH) : Option (List Value × pmH) := match st with
  | .int n :: r => if n < 0 then none else (if n.toNatClampNeg ≤ 100000 then some (.ref h.1.length :: r, (h.1 ++ [(tag, n.toNatClampNeg)], pmRow h.2 h.1.length (fun _ => v))) else none)
  | _ => none
def pmObj (o : Bool) (st : List Value) (h : pmH) : Option (List Value × pmH) := match st with
  | .ref _ :: r => if o = true then (if (r.map fun v => v.category).sum ≤ 8 then some (r, h) else none) else none
  | _ => none
/-- straight on, by the cells -/
def pm3 (S : pmS) (j : Nat) (ins : Instr) (st : List Value) (h : pmH) : Option (List Value × pmH) := match ins with
  | .getfield i => pmGet (fldT j i) st h
  | .putfield i => pmSet j (fldT j i) st h
  | .iaload => pmArL S 1 st h
  | .baload => pmArL S 2 st h
  | .iastore => pmArS 1 st h
  | .bastore => pmArS 2 st h
  | .aaload => pmRfL st h
  | .aastore => pmRfS st h
  | .arraylength => pmLen S st h
  | .new i => pmNew (newT j i) st h
  | .newarray t => (match t with
    | .int => pmNwA 1 (.int 0) st h
    | .boolean => pmNwA 2 (.int 0) st h
    | _ => none)
  | .anewarray i => if anwT j i = true then pmNwA 3 .null st h else none
  | .invokespecial i => pmObj (objT j i) st h
  | _ => none
def pmRcv (kd : Nat) (j' : Nat) (av : List Value) (K : pmK) : Bool := match av with
  | .ref c :: _ => (match K[c]? with
    | some (t, n) => t == clsT j' + 4 && n == nfT (clsT j')
    | none => false)
  | _ => kd == 2
def pmCal (kd : Nat) (o : Option (Nat × Nat)) (st : List Value) (K : pmK) : Option (Nat × List Value × List Value) := match o with
  | none => none
  | some (j', kd') => if (kd' == kd && Nat.ble (narT j') st.length && Nat.ble ((st.drop (narT j')).map fun v => v.category).sum 8 && (kd == 2 || pmRcv kd j' (st.take (narT j')).reverse K)) = true then some (j', (st.take (narT j')).reverse, st.drop (narT j')) else none
/-- calls: kind 0 by the receiver, 1 made anew, 2 static -/
def pmC (j : Nat) (ins : Instr) (st : List Value) (K : pmK) : Option (Nat × List Value × List Value) := match ins with
  | .invokevirtual i => pmCal 0 (calT j i) st K
  | .invokespecial i => pmCal 1 (calT j i) st K
  | .invokestatic i => pmCal 2 (calT j i) st K
  | _ => none
def pmT (j : Nat) (ins : Instr) (st : List Value) : Option (Option Value) := match ins with
  | .ireturn => (match st with
    | [.int v] => if retT j = 1 then some (some (.int v)) else if (retT j == 2 && (v == 0 || v == 1)) = true then some (some (.int v)) else none
    | _ => none)
  | .areturn => (match st with
    | [.ref a] => if retT j = 3 then some (some (.ref a)) else none
    | _ => none)
  | .return_ => (match st with
    | [] => if retT j = 0 then some none else none
    | _ => none)
  | _ => none
def pmR (S : pmS) (cl : Nat → List Value → pmH → Option Value → pmH → Prop) (j : Nat) : Nat → Nat → pmLs → List Value → pmH → Option Value → pmH → Prop
  | 0, _, _, _, _, _, _ => False
  | n + 1, pc, ls, st, h, r, h' => match codT j pc with
    | none => False
    | some (ins, len) => match pm1 j ins ls st with
      | some a => pmR S cl j n (pc + len) a.1 a.2 h r h'
      | none => match pm2 ins pc st with
        | some a => pmR S cl j n a.1 ls a.2 h r h'
        | none => match pm3 S j ins st h with
          | some a => pmR S cl j n (pc + len) ls a.1 a.2 r h'
          | none => match pmC j ins st h.1 with
            | some a => ∃ (v : Option Value) (h1 : pmH), cl a.1 a.2.1 h v h1 ∧ pmR S cl j n (pc + len) ls (v.toList ++ a.2.2) h1 r h'
            | none => pmT j ins st = some r ∧ h' = h
def pmSl : List Value → pmLs
  | [] => []
  | v :: vs => if v.category = 2 then some v :: none :: pmSl vs else some v :: pmSl vs
def pmEnt (av : List Value) (n : Nat) : pmLs := pmSl av ++ List.replicate (n - (pmSl av).length) none
def pmX (S : pmS) : Nat → Nat → List Value → pmH → Option Value → pmH → Prop
  | 0, _, _, _, _, _ => False
  | d + 1, j, av, h, r, h' => (pmSl av).length ≤ mxlT j ∧ ∃ n, pmR S (pmX S d) j n 0 (pmEnt av (mxlT j)) [] h r h'
