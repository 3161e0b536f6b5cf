/-! ===== a row and the instruction that stands there ===== -/
def am_tb (pc : Nat) (lo : Int) : List Int → List (Int32 × Nat)
  | [] => []
  | o :: l => (Int32.ofInt lo, ((pc : Int) + o).toNat) :: am_tb pc (lo + 1) l
def am_dc (b : Nat) : ClassFile.Cond := match b with
  | 0 => .eq
  | 1 => .ne
  | 2 => .lt
  | 3 => .ge
  | 4 => .gt
  | _ => .le
def am_jmp (pc a : Nat) (o : Int) : Bool := decide ((pc : Int) + o = (a : Int))
/-- where String.length and String.charAt are called: class, entry, which -/
def am_st : List (Nat × Nat × Nat) := [(8, 152, 903), (8, 156, 904)]
/-- own is the number of the method's class, ini whether it is a constructor, rt its answer's kind -/
def am_dec (own : Nat) (ini : Bool) (rt : Option FieldType) (nL : Nat) (M : am_M) (q : am_Row) (d : Instr × Nat) : Bool :=
  match q with
  | (pc, _, k, a, b, v) => match k with
    | 0 => match d with
      | (.iconst n, 1) => decide (Int32.ofInt n = v)
      | (.bipush n, 2) => decide ((Int8.ofInt n).toInt32 = v)
      | (.sipush n, 3) => decide ((Int16.ofInt n).toInt32 = v)
      | (.ldc ix, 2) => decide ((own, ix, v) ∈ am_kt)
      | (.ldc_w ix, 3) => decide ((own, ix, v) ∈ am_kt)
      | _ => false
    | 1 => match d with
      | (.lconst n, 1) => decide (Int64.ofNat (n : Nat) = M.2.1.getD a 0)
      | (.ldc2_w ix, 3) => decide ((own, ix, M.2.1.getD a 0) ∈ am_klt)
      | _ => false
    | 2 => match d with
      | (.aconst_null, 1) => true
      | _ => false
    | 4 => match d with
      | (.iload i, 2) => decide (i = a)
      | (.iload_n i, 1) => decide ((i : Nat) = a)
      | _ => false
    | 5 => match d with
      | (.lload i, 2) => decide (i = a)
      | (.lload_n i, 1) => decide ((i : Nat) = a)
      | _ => false
    | 6 => match d with
      | (.aload i, 2) => decide (i = a)
      | (.aload_n i, 1) => decide ((i : Nat) = a)
      | _ => false
    | 7 => match d with
      | (.istore i, 2) => decide (i = a ∧ a < nL)
      | (.istore_n i, 1) => decide ((i : Nat) = a ∧ a < nL)
      | _ => false
    | 8 => match d with
      | (.lstore i, 2) => decide (i = a ∧ a + 1 < nL)
      | (.lstore_n i, 1) => decide ((i : Nat) = a ∧ a + 1 < nL)
      | _ => false
    | 9 => match d with
      | (.astore i, 2) => decide (i = a ∧ a < nL)
      | (.astore_n i, 1) => decide ((i : Nat) = a ∧ a < nL)
      | _ => false
    | 10 => match d with
      | (.iinc i n, 3) => decide (i = a ∧ a < nL ∧ Int32.ofInt n = v)
      | _ => false
    | 11 => decide (d = (.iadd, 1))
    | 12 => decide (d = (.isub, 1))
    | 13 => decide (d = (.imul, 1))
    | 14 => decide (d = (.iand, 1))
    | 15 => decide (d = (.ior, 1))
    | 16 => decide (d = (.ixor, 1))
    | 17 => decide (d = (.idiv, 1))
    | 18 => decide (d = (.irem, 1))
    | 19 => decide (d = (.ineg, 1))
    | 20 => decide (d = (.ishl, 1))
    | 21 => decide (d = (.ishr, 1))
    | 22 => decide (d = (.iushr, 1))
    | 23 => decide (d = (.land, 1))
    | 24 => decide (d = (.lor, 1))
    | 25 => decide (d = (.lshl, 1))
    | 26 => decide (d = (.lshr, 1))
    | 27 => decide (d = (.lcmp, 1))
    | 28 => decide (d = (.i2l, 1))
    | 29 => decide (d = (.l2i, 1))
    | 30 => decide (d = (.i2b, 1))
    | 31 => decide (d = (.i2c, 1))
    | 32 => decide (d = (.dup, 1))
    | 33 => decide (d = (.pop, 1))
    | 34 => decide (d = (.dup2, 1))
    | 35 => match d with
      | (.goto o, 3) => am_jmp pc a o
      | _ => false
    | 36 => match d with
      | (.ifCond c o, 3) => am_jmp pc a o && decide (c = am_dc b) && decide (b < 6)
      | _ => false
    | 37 => match d with
      | (.if_icmp c o, 3) => am_jmp pc a o && decide (c = am_dc b) && decide (b < 6)
      | _ => false
    | 38 => match d with
      | (.ifnull o, 3) => am_jmp pc a o
      | _ => false
    | 39 => match d with
      | (.ifnonnull o, 3) => am_jmp pc a o
      | _ => false
    | 40 => match d with
      | (.tableswitch df lo hi os, _) => am_jmp pc a df && decide (M.2.2.getD b [] = am_tb pc lo os.toList) && decide (-2147483648 ≤ lo ∧ hi ≤ 2147483647 ∧ hi = lo + os.size - 1 ∧ 0 < os.size) && os.toList.all (fun o => decide (0 ≤ (pc : Int) + o))
      | (.lookupswitch df ps, _) => am_jmp pc a df && decide (M.2.2.getD b [] = ps.toList.map fun r => (Int32.ofInt r.1, ((pc : Int) + r.2).toNat)) && (ps.toList.zip (ps.toList.drop 1)).all (fun (x, y) => x.1 < y.1) && ps.toList.all (fun r => decide (0 ≤ (pc : Int) + r.2 ∧ -2147483648 ≤ r.1 ∧ r.1 ≤ 2147483647))
      | _ => false
    | 41 => match d with
      | (.getfield ix, 3) => decide ((own, ix, a, b, 0) ∈ am_ft) || decide ((own, ix, a, b, 1) ∈ am_ft)
      | _ => false
    | 42 => match d with
      | (.putfield ix, 3) => (decide ((own, ix, a, b, 0) ∈ am_ft) && (!(am_fld a b).2.2.2 || (ini && decide ((am_fld a b).1 = am_ow own)))) || (decide ((own, ix, a, b, 1) ∈ am_ft) && !(am_fld a b).2.2.2)
      | _ => false
    | 43 => decide (d = (.iaload, 1))
    | 44 => decide (d = (.baload, 1))
    | 45 => decide (d = (.laload, 1))
    | 46 => decide (d = (.aaload, 1))
    | 47 => decide (d = (.iastore, 1))
    | 48 => decide (d = (.bastore, 1))
    | 49 => decide (d = (.lastore, 1))
    | 50 => decide (d = (.aastore, 1))
    | 51 => decide (d = (.arraylength, 1))
    | 52 => match d with
      | (.new ix, 3) => decide ((own, ix, a) ∈ am_nt)
      | _ => false
    | 53 => match d with
      | (.newarray .int, 2) => decide (a = 0)
      | (.newarray .byte, 2) => decide (a = 1)
      | (.newarray .boolean, 2) => decide (a = 2)
      | (.newarray .long, 2) => decide (a = 3)
      | _ => false
    | 54 => match d with
      | (.anewarray ix, 3) => decide ((own, ix, 4) ∈ am_nt)
      | _ => false
    | 55 => match d with
      | (.invokevirtual ix, 3) => (decide ((own, ix, 0, a) ∈ am_ct) || decide ((own, ix, 3, a) ∈ am_ct)) && decide (b / 4 = am_npl.getD a 0 + 1)
      | (.invokestatic ix, 3) => (decide ((own, ix, 1, a) ∈ am_ct) || decide ((own, ix, 4, a) ∈ am_ct)) && decide (b / 4 = am_npl.getD a 0)
      | _ => false
    | 61 => match d with
      | (.invokespecial ix, 3) => (decide ((own, ix, 2, a) ∈ am_ct) || decide ((own, ix, 5, a) ∈ am_ct)) && decide (b / 4 = am_npl.getD a 0 + 1)
      | _ => false
    | 62 => match d with
      | (.invokespecial ix, 3) => decide ((own, ix, 6, 0) ∈ am_ct)
      | _ => false
    | 64 => match d with
      | (.invokestatic ix, 3) => decide ((own, ix, 7, a) ∈ am_ct)
      | _ => false
    | 68 => decide (d = (.iaload, 1))
    | 69 => decide (d = (.arraylength, 1))
    | 70 => match d with
      | (.ldc ix, 2) => decide (Int32.ofNat ix = v) && decide (ix < 65536)
      | _ => false
    | 66 => match d with
      | (.invokevirtual ix, 3) => decide ((own, ix, 903) ∈ am_st)
      | _ => false
    | 67 => match d with
      | (.invokevirtual ix, 3) => decide ((own, ix, 904) ∈ am_st)
      | _ => false
    | 60 => match d with
      | (.getstatic ix, 3) => decide (Int32.ofNat ix = v) && decide (ix < 65536)
      | _ => false
    | 56 => decide (d = (.ireturn, 1)) && decide (rt = some .int)
    | 63 => decide (d = (.ireturn, 1)) && decide (rt = some .boolean)
    | 58 => decide (d = (.areturn, 1)) && (match rt with
      | some (.object _) => true
      | some (.array _) => true
      | _ => false)
    | 59 => decide (d = (.return_, 1)) && decide (rt = none)
    | _ => false
def am_row (own : Nat) (ini : Bool) (cc : ByteArray) (rt : Option FieldType) (nL : Nat) (M : am_M) (q : am_Row) : Bool := match decode cc q.1 with
  | .ok d => decide (q.2.1 = q.1 + d.2) && am_dec own ini rt nL M q d
  | .error _ => false
/-- the whole of a method -/
def am_mok (own i : Nat) (M : am_M) : Bool := decide ((am_y i).cls = am_ow own) && M.1.all (am_row own ((am_y i).name == "<init>") (am_cc i) (am_rt i) (am_nL i) M)
