/-! OUR OWN MACHINE: first-order steps over a heap of numbers; cells are numbered; refs stand for cells -/
abbrev zH : Type := Nat → Nat → Int32
abbrev zL : Type := List (Option Value)
abbrev zS : Type := List Value
/-- pc, instruction, a, b, d, v, switch rows -/
abbrev zE : Type := Nat × Instr × Nat × Nat × Nat × Int32 × List (Int32 × Nat)
/-- goes on | calls (next pc, method, arguments, locals, stack) | returns -/
abbrev zO : Type := (Nat × zL × zS × zH) ⊕ ((Nat × Nat × List Value × zL × zS) ⊕ Option Value)
/-- the sorts of cells and the lengths of arrays -/
def zShA : List (Nat × Nat) :=
  [(6,0),(1,0),(10,14),(10,14),(10,14),(10,1344),(10,96),(2,0),(10,96),(10,96)]
  ++ [(5,0),(10,10),(10,10),(10,10),(10,10),(10,10),(10,6),(10,3)]
  ++ [(5,0),(10,10),(10,10),(10,10),(10,10),(10,10),(10,6),(10,3)]
  ++ [(5,0),(10,10),(10,10),(10,10),(10,10),(10,10),(10,6),(10,3)]
  ++ [(11,4),(3,0),(10,24),(3,0),(10,24),(3,0),(10,24),(3,0),(10,24),(12,5)]
  ++ [(4,0),(3,0),(10,24),(4,0),(3,0),(10,24),(4,0),(3,0),(10,24),(4,0),(3,0),(10,24),(4,0),(3,0),(10,24),(10,60)]
  ++ [(7,0),(10,3062),(10,3062),(10,3062),(10,4),(10,4),(10,96),(10,5),(10,5),(10,5),(10,5),(10,120),(10,10),(10,62),(10,96),(10,128),(10,100),(10,24),(10,60),(10,60)]
  ++ [(20,6),(20,6),(20,6),(22,9),(21,0),(99,0),(23,4),(23,4),(23,4)]
def zcls (c : Nat) : Nat := (zShA.getD c (99, 0)).1
def zaln (c : Nat) : Nat := (zShA.getD c (99, 0)).2
/-- the arrays of constants -/
def zkoA : List (List Int32) := [[-1,0,0,1,2,0],[0,0,1,0,1,0],[1,90,20,99,9999,10],[119,115,118,115,119,97,116,112,32]]
def zkon (c k : Nat) : Int32 := (zkoA.getD (c - 80) []).getD k 0
/-- how many fields -/
def znf (ci : Nat) : Nat := [0,5,11,3,5,15,10,33].getD ci 0
/-- the fields that hold references: where they point to -/
def zrfo (ci k c : Nat) : Option Nat := match ci, k with
  | 1, 0 => some 2 | 1, 1 => some 3 | 1, 2 => some 4 | 1, 3 => some 5 | 1, 4 => some 6
  | 2, 0 => some 8 | 2, 8 => some 9
  | 3, 2 => some (c + 1)
  | 4, 4 => some (c + 1)
  | 5, 0 => some 1 | 5, 2 => some (c + 1) | 5, 3 => some (c + 2) | 5, 4 => some (c + 3) | 5, 5 => some (c + 4) | 5, 6 => some (c + 5) | 5, 7 => some (c + 6) | 5, 13 => some (c + 7)
  | 6, 0 => some 1 | 6, 1 => some 7 | 6, 2 => some 10 | 6, 3 => some 18 | 6, 4 => some 26 | 6, 6 => some 34 | 6, 7 => some 43 | 6, 8 => some 59
  | 7, 0 => some 61 | 7, 1 => some 62 | 7, 2 => some 63 | 7, 4 => some 64 | 7, 5 => some 65 | 7, 6 => some 66 | 7, 7 => some 67 | 7, 8 => some 68 | 7, 9 => some 69 | 7, 10 => some 70 | 7, 11 => some 71 | 7, 13 => some 72 | 7, 14 => some 73 | 7, 15 => some 74 | 7, 27 => some 75 | 7, 28 => some 76 | 7, 29 => some 77 | 7, 30 => some 78 | 7, 32 => some 79
  | _, _ => none
def zfv (h : zH) (ci k c : Nat) : Value := match zrfo ci k c with
  | some r => .ref r
  | none => .int (h c k)
/-- a row of the heap replaced -/
def zhr (h : zH) (c : Nat) (r : Nat → Int32) : zH := fun c' => if c' = c then r else h c'
abbrev zix (i : Int32) : Nat := i.toNatClampNeg
/-- an index in range -/
def zok (i : Int32) (n : Nat) : Prop := ¬ i < 0 ∧ i.toNatClampNeg < n
def zp1 (st : zS) (f : Int32 → zS → Option zO) : Option zO := match st with | .int x :: r => f x r | _ => none
def zp2 (st : zS) (f : Int32 → Int32 → zS → Option zO) : Option zO := match st with | .int y :: .int x :: r => f x y r | _ => none
def zpR (st : zS) (f : Nat → zS → Option zO) : Option zO := match st with | .ref c :: r => f c r | _ => none
def zp1R (st : zS) (f : Int32 → Nat → zS → Option zO) : Option zO := match st with | .int x :: .ref c :: r => f x c r | _ => none
def zp2R (st : zS) (f : Int32 → Int32 → Nat → zS → Option zO) : Option zO := match st with | .int x :: .int i :: .ref c :: r => f x i c r | _ => none
def zpJ2 (st : zS) (f : Int64 → Int64 → zS → Option zO) : Option zO := match st with | .long y :: .long x :: r => f x y r | _ => none
def zpA (st : zS) (f : Option Nat → zS → Option zO) : Option zO := match st with | .ref c :: r => f (some c) r | .null :: r => f none r | _ => none
def zpV (st : zS) (f : Value → zS → Option zO) : Option zO := match st with | .int x :: r => f (.int x) r | .ref c :: r => f (.ref c) r | .null :: r => f .null r | _ => none
def zldI (lv : zL) (a : Nat) (f : Int32 → Option zO) : Option zO := match lv[a]? with | some (some (.int x)) => f x | _ => none
def zldJ (lv : zL) (a : Nat) (f : Int64 → Option zO) : Option zO := match lv[a]? with | some (some (.long x)) => f x | _ => none
def zldA (lv : zL) (a : Nat) (f : Option Nat → Option zO) : Option zO := match lv[a]? with | some (some (.ref c)) => f (some c) | some (some .null) => f none | _ => none
def zrf (r : Option Nat) : Value := match r with | some a => .ref a | none => .null
noncomputable def zif (c : Prop) (x : Option zO) : Option zO := @ite _ c (Classical.propDecidable c) x none
def zsw (ks : List (Int32 × Nat)) (dflt : Nat) (x : Int32) : Nat := match ks with
  | [] => dflt
  | q :: l => if x = q.1 then q.2 else zsw l dflt x
def zif1 (c : Jvm.ClassFile.Cond) (x : Int32) (a b : Nat) : Nat := match c with
  | .eq => if x = 0 then a else b
  | .ne => if x = 0 then b else a
  | .lt => if x < 0 then a else b
  | .ge => if x < 0 then b else a
  | .gt => if x ≤ 0 then b else a
  | .le => if x ≤ 0 then a else b
def zif2 (c : Jvm.ClassFile.Cond) (x y : Int32) (a b : Nat) : Nat := match c with
  | .eq => if x = y then a else b
  | .ne => if x = y then b else a
  | .lt => if x < y then a else b
  | .ge => if x < y then b else a
  | .gt => if x ≤ y then b else a
  | .le => if x ≤ y then a else b
/-- one step -/
noncomputable def znx (e : zE) (lv : zL) (st : zS) (h : zH) : Option zO := match e with
  | (pc, ins, a, b, d, v, ks) => match ins with
    | .iconst _ => some (.inl (pc + 1, lv, .int v :: st, h))
    | .bipush _ => some (.inl (pc + 2, lv, .int v :: st, h))
    | .sipush _ => some (.inl (pc + 3, lv, .int v :: st, h))
    | .ldc _ => some (.inl (pc + 2, lv, (if a = 0 then .int v else .ref b) :: st, h))
    | .ldc_w _ => some (.inl (pc + 3, lv, .int v :: st, h))
    | .lconst _ => some (.inl (pc + 1, lv, .long v.toInt64 :: st, h))
    | .ldc2_w _ => some (.inl (pc + 3, lv, .long v.toInt64 :: st, h))
    | .aconst_null => some (.inl (pc + 1, lv, .null :: st, h))
    | .iload _ => zldI lv a fun x => some (.inl (pc + 2, lv, .int x :: st, h))
    | .iload_n _ => zldI lv a fun x => some (.inl (pc + 1, lv, .int x :: st, h))
    | .lload _ => zldJ lv a fun x => some (.inl (pc + 2, lv, .long x :: st, h))
    | .lload_n _ => zldJ lv a fun x => some (.inl (pc + 1, lv, .long x :: st, h))
    | .aload _ => zldA lv a fun x => some (.inl (pc + 2, lv, zrf x :: st, h))
    | .aload_n _ => zldA lv a fun x => some (.inl (pc + 1, lv, zrf x :: st, h))
    | .istore _ => zp1 st fun x r => some (.inl (pc + 2, lv.set a (some (.int x)), r, h))
    | .istore_n _ => zp1 st fun x r => some (.inl (pc + 1, lv.set a (some (.int x)), r, h))
    | .astore _ => zpA st fun x r => some (.inl (pc + 2, lv.set a (some (zrf x)), r, h))
    | .astore_n _ => zpA st fun x r => some (.inl (pc + 1, lv.set a (some (zrf x)), r, h))
    | .iinc _ _ => zldI lv a fun x => some (.inl (pc + 3, lv.set a (some (.int (x + v))), st, h))
    | .iadd => zp2 st fun x y r => some (.inl (pc + 1, lv, .int (x + y) :: r, h))
    | .isub => zp2 st fun x y r => some (.inl (pc + 1, lv, .int (x - y) :: r, h))
    | .imul => zp2 st fun x y r => some (.inl (pc + 1, lv, .int (x * y) :: r, h))
    | .iand => zp2 st fun x y r => some (.inl (pc + 1, lv, .int (x &&& y) :: r, h))
    | .ior => zp2 st fun x y r => some (.inl (pc + 1, lv, .int (x ||| y) :: r, h))
    | .ixor => zp2 st fun x y r => some (.inl (pc + 1, lv, .int (x ^^^ y) :: r, h))
    | .idiv => zp2 st fun x y r => zif (¬ y = 0) (some (.inl (pc + 1, lv, .int (x / y) :: r, h)))
    | .irem => zp2 st fun x y r => zif (¬ y = 0) (some (.inl (pc + 1, lv, .int (x - x / y * y) :: r, h)))
    | .ineg => zp1 st fun x r => some (.inl (pc + 1, lv, .int (-x) :: r, h))
    | .ishl => zp2 st fun x y r => some (.inl (pc + 1, lv, .int (x <<< (y &&& 31)) :: r, h))
    | .ishr => zp2 st fun x y r => some (.inl (pc + 1, lv, .int (x >>> (y &&& 31)) :: r, h))
    | .iushr => zp2 st fun x y r => some (.inl (pc + 1, lv, .int ((x.toUInt32 >>> (y.toUInt32 &&& Int32.toUInt32 31)).toInt32) :: r, h))
    | .i2l => zp1 st fun x r => some (.inl (pc + 1, lv, .long x.toInt64 :: r, h))
    | .i2s => zp1 st fun x r => some (.inl (pc + 1, lv, .int x.toInt16.toInt32 :: r, h))
    | .ladd => zpJ2 st fun x y r => some (.inl (pc + 1, lv, .long (x + y) :: r, h))
    | .lcmp => zpJ2 st fun x y r => some (.inl (pc + 1, lv, .int (lg_cmp x y) :: r, h))
    | .dup => zpV st fun x r => some (.inl (pc + 1, lv, x :: x :: r, h))
    | .pop => zpV st fun _ r => some (.inl (pc + 1, lv, r, h))
    | .dup2 => zp1R st fun i c r => some (.inl (pc + 1, lv, .int i :: .ref c :: .int i :: .ref c :: r, h))
    | .goto _ => some (.inl (a, lv, st, h))
    | .ifCond c _ => zp1 st fun x r => some (.inl (zif1 c x a (pc + 3), lv, r, h))
    | .if_icmp c _ => zp2 st fun x y r => some (.inl (zif2 c x y a (pc + 3), lv, r, h))
    | .ifnull _ => zpA st fun x r => some (.inl (if x = none then a else pc + 3, lv, r, h))
    | .ifnonnull _ => zpA st fun x r => some (.inl (if x = none then pc + 3 else a, lv, r, h))
    | .tableswitch _ _ _ _ => zp1 st fun x r => some (.inl (zsw ks a x, lv, r, h))
    | .lookupswitch _ _ => zp1 st fun x r => some (.inl (zsw ks a x, lv, r, h))
    | .getfield _ => zpR st fun c r => zif (zcls c = a) (some (.inl (pc + 3, lv, zfv h a b c :: r, h)))
    | .putfield _ => zp1R st fun x c r => zif (zcls c = a ∧ (d = 0 ∨ x = 0 ∨ x = 1)) (some (.inl (pc + 3, lv, r, zhr h c (upd (h c) b x))))
    | .getstatic _ => some (.inl (pc + 3, lv, .ref b :: st, h))
    | .iaload => zp1R st fun i c r => match zcls c with
      | 10 => zif (zok i (zaln c)) (some (.inl (pc + 1, lv, .int (h c (zix i)) :: r, h)))
      | 20 => zif (zok i (zaln c)) (some (.inl (pc + 1, lv, .int (zkon c (zix i)) :: r, h)))
      | 21 => zif (zok i (zix (h 85 0))) (some (.inl (pc + 1, lv, .int (h 84 (zix i)) :: r, h)))
      | _ => none
    | .caload => zp1R st fun i c r => zif (zcls c = 22 ∧ zok i (zaln c)) (some (.inl (pc + 1, lv, .int (zkon c (zix i)) :: r, h)))
    | .aaload => zp1R st fun i c r => match zcls c with
      | 11 => zif (zok i 4) (some (.inl (pc + 1, lv, .ref (35 + 2 * zix i) :: r, h)))
      | 12 => zif (zok i 5) (some (.inl (pc + 1, lv, .ref (44 + 3 * zix i) :: r, h)))
      | _ => none
    | .iastore => zp2R st fun x i c r => zif (zcls c = 10 ∧ zok i (zaln c)) (some (.inl (pc + 1, lv, r, zhr h c (upd (h c) (zix i) x))))
    | .arraylength => zpR st fun c r => match zcls c with
      | 10 => some (.inl (pc + 1, lv, .int (Int32.ofNat (zaln c)) :: r, h))
      | 22 => some (.inl (pc + 1, lv, .int (Int32.ofNat (zaln c)) :: r, h))
      | 21 => some (.inl (pc + 1, lv, .int (h 85 0) :: r, h))
      | _ => none
    | .invokestatic _ => zif (b ≤ st.length ∧ (st.drop b).length ≤ 4) (some (.inr (.inl (pc + 3, a, (st.take b).reverse, lv, st.drop b))))
    | .invokevirtual _ => zif (b ≤ st.length) (zpR (st.drop b) fun c r => zif (zcls c = d ∧ r.length ≤ 4) (some (.inr (.inl (pc + 3, a, .ref c :: (st.take b).reverse, lv, r)))))
    | .ireturn => match st with
      | [.int x] => zif (d = 0 ∨ x = 0 ∨ x = 1) (some (.inr (.inr (some (.int x)))))
      | _ => none
    | .areturn => match st with
      | [.ref c] => some (.inr (.inr (some (.ref c))))
      | [.null] => some (.inr (.inr (some .null)))
      | _ => none
    | .return_ => match st with
      | [] => some (.inr (.inr none))
      | _ => none
    | _ => none
def zcopy (args : List Value) (h : zH) (Q : Option Value → zH → Prop) : Prop := match args with
  | [.ref a, .int sp, .ref b, .int dp, .int n] => (zcls a = 10 ∧ zcls b = 10 ∧ ¬ sp < 0 ∧ ¬ dp < 0 ∧ ¬ n < 0 ∧ zix sp + zix n ≤ zaln a ∧ zix dp + zix n ≤ zaln b) ∧ Q none (zhr h b (va_cpy (h a) (h b) (zix sp) (zix dp) (zix n)))
  | _ => False
/-- members of the JDK -/
def zbi (d : Nat) (y : Nat) (args : List Value) (h : zH) (Q : Option Value → zH → Prop) : Prop := match y with
  | 1000 => (match args with | [.int x, .int z] => Q (some (.int (if x < z then z else x))) h | _ => False)
  | 1001 => (match args with | [.int x, .int z] => Q (some (.int (if z < x then z else x))) h | _ => False)
  | 1002 => (match args with | [.int x] => Q (some (.int (if 0 ≤ x then x else 0 - x))) h | _ => False)
  | 1003 => zcopy args h Q
  | 1004 => (match args with | [.ref c] => (8 ≤ d ∧ zcls c = 23) ∧ Q (some (.int 4)) h | _ => False)
  | 1005 => (match args with | [.ref c, .int i] => (8 ≤ d ∧ zcls c = 23 ∧ zok i 4) ∧ Q (some (.int (([[116,111,108,108],[112,117,108,108],[102,105,110,101]].getD (c - 86) []).getD (zix i) 0))) h | _ => False)
  | _ => False
def zgo (cal : Nat → List Value → zH → (Option Value → zH → Prop) → Prop) (P : Nat → zL → zS → zH → Prop) (Q : Option Value → zH → Prop) (h : zH) : Option zO → Prop
  | none => False
  | some (.inl (pc, lv, st, h')) => P pc lv st h'
  | some (.inr (.inl (pc, y, args, lv, rest))) => cal y args h (fun r h' => P pc lv (r.toList ++ rest) h')
  | some (.inr (.inr v)) => Q v h
def zSx (cal : Nat → List Value → zH → (Option Value → zH → Prop) → Prop) (code : Nat → Option zE) (P : Nat → zL → zS → zH → Prop) (Q : Option Value → zH → Prop) (pc : Nat) (lv : zL) (st : zS) (h : zH) : Prop := match code pc with
  | none => False
  | some e => zgo cal P Q h (znx e lv st h)
/-- the least predicate that is closed -/
def zX0 (cal : Nat → List Value → zH → (Option Value → zH → Prop) → Prop) (code : Nat → Option zE) (Q : Option Value → zH → Prop) (pc : Nat) (lv : zL) (st : zS) (h : zH) : Prop :=
  ∀ P : Nat → zL → zS → zH → Prop, (∀ pc lv st h, zSx cal code P Q pc lv st h → P pc lv st h) → P pc lv st h
def zent (args : List Value) (n : Nat) : zL := args.flatMap (fun v => if v.category = 2 then [some v, none] else [some v]) ++ List.replicate (n - (args.flatMap (fun v => if v.category = 2 then [some v, (none : Option Value)] else [some v])).length) none
def zM0 (cod : Nat → Nat → Option zE) (nL : Nat → Nat) : Nat → Nat → List Value → zH → (Option Value → zH → Prop) → Prop
  | 0, _, _, _, _ => False
  | d + 1, y, args, h, Q => (1000 ≤ y → zbi d y args h Q) ∧ (y < 1000 → zX0 (zM0 cod nL d) (cod y) Q 0 (zent args (nL y)) [] h)
