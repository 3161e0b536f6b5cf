/-! ===== the abstract machine: worlds, rows, one step, runs ===== -/
def am_mcq (i : Nat) : List (Nat × Nat × Nat) → Nat × Nat
  | [] => (0, 0)
  | q :: l => bif Nat.beq q.1 i then q.2 else am_mcq i l
def am_mc (i : Nat) : Nat := (am_mcq i am_mcs).1
def am_ms (i : Nat) : Nat := (am_mcq i am_mcs).2
def am_sz (q : Nat × Nat) : Nat := if q.1 = 5 then (am_KD.getD q.2 []).length else q.2
/-- slots of the first n cells -/
def am_ss (n : Nat) : Nat := ((am_SH.take n).map am_sz).sum
def am_fr (x k : Nat) : Option Nat := match (am_FR.getD x []).getD k 0 with
  | 0 => none
  | t + 1 => some t
/-- a world: how many cells, their ints, their longs, their references (abstract addresses) -/
abbrev am_W : Type := Nat × (Nat → Nat → Int32) × (Nat → Nat → Int64) × (Nat → Nat → Option Nat)
def am_u {α : Type} (f : Nat → Nat → α) (a k : Nat) (x : α) : Nat → Nat → α := fun b j => if b = a then (if j = k then x else f b j) else f b j
def am_z {α : Type} (f : Nat → Nat → α) (a : Nat) (x : α) : Nat → Nat → α := fun b j => if b = a then x else f b j
def am_si (w : am_W) (a k : Nat) (x : Int32) : am_W := (w.1, am_u w.2.1 a k x, w.2.2)
def am_sl (w : am_W) (a k : Nat) (x : Int64) : am_W := (w.1, w.2.1, am_u w.2.2.1 a k x, w.2.2.2)
def am_sr (w : am_W) (a k : Nat) (x : Option Nat) : am_W := (w.1, w.2.1, w.2.2.1, am_u w.2.2.2 a k x)
def am_nw (w : am_W) : am_W := (w.1 + 1, am_z w.2.1 w.1 0, am_z w.2.2.1 w.1 0, am_z w.2.2.2 w.1 none)
def am_gi (w : am_W) (a k : Nat) : Int32 := w.2.1 a k
def am_gl (w : am_W) (a k : Nat) : Int64 := w.2.2.1 a k
def am_gr (w : am_W) (a k : Nat) : Option Nat := w.2.2.2 a k
def am_rv : Option Nat → Value
  | none => .null
  | some a => .ref a
/-- locals, by place -/
def am_k2 : Option Value → Option Value
  | some (.long _) => none
  | some (.double _) => none
  | o => o
def am_s1 : Nat → Value → List (Option Value) → List (Option Value)
  | _, _, [] => []
  | 0, v, _ :: r => some v :: r
  | 1, v, o :: r => am_k2 o :: am_s1 0 v r
  | i + 2, v, o :: r => o :: am_s1 (i + 1) v r
def am_s2 : Nat → Value → List (Option Value) → List (Option Value)
  | 0, v, _ :: _ :: r => some v :: none :: r
  | 1, v, o :: r => am_k2 o :: am_s2 0 v r
  | i + 2, v, o :: r => o :: am_s2 (i + 1) v r
  | _, _, _ => []
def am_li (ls : List (Option Value)) (i : Nat) (K : Int32 → Prop) : Prop := match ls[i]? with
  | some (some (.int x)) => K x
  | _ => False
def am_ll (ls : List (Option Value)) (i : Nat) (K : Int64 → Prop) : Prop := match ls[i]? with
  | some (some (.long x)) => K x
  | _ => False
def am_la (ls : List (Option Value)) (i : Nat) (K : Value → Prop) : Prop := match ls[i]? with
  | some (some (.ref x)) => K (.ref x)
  | some (some .null) => K .null
  | _ => False
def am_sw (x : Int32) (Y : Nat → Prop) (d : Nat) : List (Int32 × Nat) → Prop
  | [] => Y d
  | q :: l => (x = q.1 → Y q.2) ∧ (¬ x = q.1 → am_sw x Y d l)
def am_br (c : Nat) (x y : Int32) (A B : Prop) : Prop := match c with
  | 0 => (x = y → A) ∧ (¬ x = y → B)
  | 1 => (¬ x = y → A) ∧ (x = y → B)
  | 2 => (x < y → A) ∧ (¬ x < y → B)
  | 3 => (y ≤ x → A) ∧ (¬ y ≤ x → B)
  | 4 => (y < x → A) ∧ (¬ y < x → B)
  | 5 => (x ≤ y → A) ∧ (¬ x ≤ y → B)
  | _ => False
def am_ri : Option Value → (Int32 → Prop) → Prop
  | some (.int y), K => K y
  | _, _ => False
def am_rv1 : Option Value → (Value → Prop) → Prop
  | some y, K => K y
  | _, _ => False
theorem am_ri_mono {y : Option Value} {K L : Int32 → Prop} (h : ∀ z, K z → L z) (k : am_ri y K) : am_ri y L := by
  match y, k with
  | some (.int y), k => exact h _ k
theorem am_rv1_mono {y : Option Value} {K L : Value → Prop} (h : ∀ z, K z → L z) (k : am_rv1 y K) : am_rv1 y L := by
  match y, k with
  | some y, k => exact h _ k
def am_rl : Option Value → (Int64 → Prop) → Prop
  | some (.long y), K => K y
  | _, _ => False
def am_rr : Option Value → (Value → Prop) → Prop
  | some (.ref y), K => K (.ref y)
  | some .null, K => K .null
  | _, _ => False
/-- a row: pc, next pc, what, a, b, v -/
abbrev am_Row : Type := Nat × Nat × Nat × Nat × Nat × Int32
/-- a method: rows, long constants, switches -/
abbrev am_M : Type := List am_Row × List Int64 × List (List (Int32 × Nat))
abbrev am_P : Type := Nat → List (Option Value) → List Value → am_W → Prop
abbrev am_S : Type := Nat → List Value → am_W → (Option Value → am_W → Prop) → Prop
def am_find (pc : Nat) : List am_Row → Option am_Row
  | [] => none
  | r :: l => bif Nat.beq r.1 pc then some r else am_find pc l
def am_rev : Nat → List Value → List Value → (List Value → List Value → Prop) → Prop
  | 0, acc, st, K => K acc st
  | n + 1, acc, v :: st, K => am_rev n (v :: acc) st K
  | _ + 1, _, [], _ => False
/-- what moves ints, longs and references about: no heap, no jump -/
def am_xp (lc : List Int64) (nx k a : Nat) (v : Int32) (ls : List (Option Value)) (st : List Value) (X : Nat → List (Option Value) → List Value → Prop) : Prop :=
  match k with
  | 0 => X nx ls (.int v :: st)
  | 1 => X nx ls (.long (lc.getD a 0) :: st)
  | 2 => X nx ls (.null :: st)
  | 4 => am_li ls a fun x => X nx ls (.int x :: st)
  | 5 => am_ll ls a fun x => X nx ls (.long x :: st)
  | 6 => am_la ls a fun x => X nx ls (x :: st)
  | 7 => match st with
    | .int x :: r => X nx (am_s1 a (.int x) ls) r
    | _ => False
  | 8 => match st with
    | .long x :: r => X nx (am_s2 a (.long x) ls) r
    | _ => False
  | 9 => match st with
    | .ref x :: r => X nx (am_s1 a (.ref x) ls) r
    | .null :: r => X nx (am_s1 a .null ls) r
    | _ => False
  | 10 => am_li ls a fun x => X nx (am_s1 a (.int (x + v)) ls) st
  | 11 => match st with
    | .int y :: .int x :: r => X nx ls (.int (x + y) :: r)
    | _ => False
  | 12 => match st with
    | .int y :: .int x :: r => X nx ls (.int (x - y) :: r)
    | _ => False
  | 13 => match st with
    | .int y :: .int x :: r => X nx ls (.int (x * y) :: r)
    | _ => False
  | 14 => match st with
    | .int y :: .int x :: r => X nx ls (.int (x &&& y) :: r)
    | _ => False
  | 15 => match st with
    | .int y :: .int x :: r => X nx ls (.int (x ||| y) :: r)
    | _ => False
  | 16 => match st with
    | .int y :: .int x :: r => X nx ls (.int (x ^^^ y) :: r)
    | _ => False
  | 17 => match st with
    | .int y :: .int x :: r => ¬ y = 0 ∧ X nx ls (.int (x / y) :: r)
    | _ => False
  | 18 => match st with
    | .int y :: .int x :: r => ¬ y = 0 ∧ X nx ls (.int (x - x / y * y) :: r)
    | _ => False
  | 19 => match st with
    | .int x :: r => X nx ls (.int (-x) :: r)
    | _ => False
  | 20 => match st with
    | .int y :: .int x :: r => X nx ls (.int (x <<< (y &&& 31)) :: r)
    | _ => False
  | 21 => match st with
    | .int y :: .int x :: r => X nx ls (.int (x >>> (y &&& 31)) :: r)
    | _ => False
  | 22 => match st with
    | .int y :: .int x :: r => X nx ls (.int (x.toUInt32 >>> (y.toUInt32 &&& Int32.toUInt32 31)).toInt32 :: r)
    | _ => False
  | 23 => match st with
    | .long y :: .long x :: r => X nx ls (.long (x &&& y) :: r)
    | _ => False
  | 24 => match st with
    | .long y :: .long x :: r => X nx ls (.long (x ||| y) :: r)
    | _ => False
  | 25 => match st with
    | .int y :: .long x :: r => X nx ls (.long (x <<< (y.toInt64 &&& 63)) :: r)
    | _ => False
  | 26 => match st with
    | .int y :: .long x :: r => X nx ls (.long (x >>> (y.toInt64 &&& 63)) :: r)
    | _ => False
  | 27 => match st with
    | .long y :: .long x :: r => X nx ls (.int (lg_cmp x y) :: r)
    | _ => False
  | 28 => match st with
    | .int x :: r => X nx ls (.long x.toInt64 :: r)
    | _ => False
  | 29 => match st with
    | .long x :: r => X nx ls (.int x.toInt32 :: r)
    | _ => False
  | 30 => match st with
    | .int x :: r => X nx ls (.int x.toInt8.toInt32 :: r)
    | _ => False
  | 31 => match st with
    | .int x :: r => X nx ls (.int (x.toUInt32 % 65536).toInt32 :: r)
    | _ => False
  | 32 => match st with
    | .int x :: r => X nx ls (.int x :: .int x :: r)
    | .ref x :: r => X nx ls (.ref x :: .ref x :: r)
    | _ => False
  | 33 => match st with
    | .int _ :: r => X nx ls r
    | .ref _ :: r => X nx ls r
    | _ => False
  | 34 => match st with
    | .int y :: .int x :: r => X nx ls (.int y :: .int x :: .int y :: .int x :: r)
    | .int y :: .ref x :: r => X nx ls (.int y :: .ref x :: .int y :: .ref x :: r)
    | _ => False
  | _ => False
/-- jumps -/
def am_xj (sws : List (List (Int32 × Nat))) (nx k a b : Nat) (st : List Value) (X : Nat → List Value → Prop) : Prop :=
  match k with
  | 35 => X a st
  | 36 => match st with
    | .int x :: r => am_br b x 0 (X a r) (X nx r)
    | _ => False
  | 37 => match st with
    | .int y :: .int x :: r => am_br b x y (X a r) (X nx r)
    | _ => False
  | 38 => match st with
    | .null :: r => X a r
    | .ref _ :: r => X nx r
    | _ => False
  | 39 => match st with
    | .null :: r => X nx r
    | .ref _ :: r => X a r
    | _ => False
  | 40 => match st with
    | .int x :: r => am_sw x (fun t => X t r) a (sws.getD b [])
    | _ => False
  | _ => False
/-- where a reference points: a cell of that shape that is there -/
def am_at (w : am_W) (x : Nat) (sh : Nat × Nat) : Prop := am_SH[x]? = some sh ∧ x < w.1
/-- a reference read out of the world -/
def am_or (o : Option Nat) (K : Value → Prop) : Prop := (∃ y, o = some y ∧ K (.ref y)) ∨ (o = none ∧ K .null)
def am_kd (a b : Nat) : Nat := (am_KD.getD a []).getD b 9
def am_fg (kd : Nat) (w : am_W) (x b : Nat) (K : Value → Prop) : Prop := match kd with
  | 0 => K (.int (am_gi w x b))
  | 1 => K (.long (am_gl w x b))
  | 2 => am_or (am_gr w x b) K
  | 3 => K (.int (am_gi w x b))
  | _ => False
def am_fp (kd : Nat) (w : am_W) (x b : Nat) (v : Value) (K : am_W → Prop) : Prop := match kd with
  | 0 => match v with
    | .int y => K (am_si w x b y)
    | _ => False
  | 1 => match v with
    | .long y => K (am_sl w x b y)
    | _ => False
  | 2 => match v with
    | .ref y => K (am_sr w x b (some y))
    | .null => K (am_sr w x b none)
    | _ => False
  | 3 => match v with
    | .int y => (y = 0 ∨ y = 1) ∧ K (am_si w x b y)
    | _ => False
  | _ => False
/-- fields, arrays, new cells -/
def am_xh (n1 : Nat) (nx k a b : Nat) (st : List Value) (w : am_W) (X : Nat → List Value → am_W → Prop) : Prop :=
  match k with
  | 41 => match st with
    | .ref x :: r => am_at w x (5, a) ∧ am_fg (am_kd a b) w x b fun v => X nx (v :: r) w
    | _ => False
  | 42 => match st with
    | v :: .ref x :: r => am_at w x (5, a) ∧ am_fp (am_kd a b) w x b v fun w1 => X nx r w1
    | _ => False
  | 43 => match st with
    | .int i :: .ref x :: r => ∃ n, am_at w x (0, n) ∧ vp_in i n ∧ X nx (.int (am_gi w x i.toNatClampNeg) :: r) w
    | _ => False
  | 44 => match st with
    | .int i :: .ref x :: r => ∃ n, (am_at w x (1, n) ∨ am_at w x (2, n)) ∧ vp_in i n ∧ X nx (.int (am_gi w x i.toNatClampNeg) :: r) w
    | _ => False
  | 45 => match st with
    | .int i :: .ref x :: r => ∃ n, am_at w x (3, n) ∧ vp_in i n ∧ X nx (.long (am_gl w x i.toNatClampNeg) :: r) w
    | _ => False
  | 46 => match st with
    | .int i :: .ref x :: r => ∃ n, am_at w x (4, n) ∧ vp_in i n ∧ am_or (am_gr w x i.toNatClampNeg) fun v => X nx (v :: r) w
    | _ => False
  | 47 => match st with
    | .int y :: .int i :: .ref x :: r => ∃ n, am_at w x (0, n) ∧ vp_in i n ∧ X nx r (am_si w x i.toNatClampNeg y)
    | _ => False
  | 48 => match st with
    | .int y :: .int i :: .ref x :: r => ∃ n, vp_in i n ∧ ((am_at w x (1, n) ∧ X nx r (am_si w x i.toNatClampNeg y.toInt8.toInt32)) ∨ (am_at w x (2, n) ∧ (y = 0 ∨ y = 1) ∧ X nx r (am_si w x i.toNatClampNeg y)))
    | _ => False
  | 49 => match st with
    | .long y :: .int i :: .ref x :: r => ∃ n, am_at w x (3, n) ∧ vp_in i n ∧ X nx r (am_sl w x i.toNatClampNeg y)
    | _ => False
  | 50 => match st with
    | .ref y :: .int i :: .ref x :: r => ∃ n, am_at w x (4, n) ∧ am_at w y (5, 4) ∧ vp_in i n ∧ X nx r (am_sr w x i.toNatClampNeg (some y))
    | _ => False
  | 51 => match st with
    | .ref x :: r => ∃ t n, am_at w x (t, n) ∧ t < 5 ∧ X nx (.int (Int32.ofNat n) :: r) w
    | _ => False
  | 52 => (am_SH[w.1]? = some (5, a) ∧ w.1 < n1) ∧ X nx (.ref w.1 :: st) (am_nw w)
  | 53 => match st with
    | .int n :: r => (am_SH[w.1]? = some (a, n.toNatClampNeg) ∧ a < 4 ∧ w.1 < n1 ∧ ¬ n < 0) ∧ X nx (.ref w.1 :: r) (am_nw w)
    | _ => False
  | 54 => match st with
    | .int n :: r => (am_SH[w.1]? = some (4, n.toNatClampNeg) ∧ w.1 < n1 ∧ ¬ n < 0) ∧ X nx (.ref w.1 :: r) (am_nw w)
    | _ => False
  | _ => False
def am_fit (n1 i : Nat) (w : am_W) : Prop := w.1 + am_mc i ≤ n1 ∧ am_ss (w.1 + am_mc i) = am_ss w.1 + am_ms i
/-- all is made -/
def am_fin (w : am_W) : Prop := w.1 = 168 ∧ ∀ x k t, am_fr x k = some t → am_gr w x k = some t
/-- answers of a call, by their kind -/
def am_ra (v : Nat) (r : Option Value) (st : List Value) (K : List Value → Prop) : Prop := match v with
  | 0 => r = none ∧ K st
  | 1 => am_ri r fun y => K (.int y :: st)
  | 2 => am_rl r fun y => K (.long y :: st)
  | 3 => am_rr r fun y => K (y :: st)
  | _ => False
/-- the receiver of a call, where there is one, is there -/
def am_rcv (c : Nat) (as : List Value) (w : am_W) : Prop := match c with
  | 0 => True
  | c + 1 => match as with
    | .ref x :: _ => am_at w x (5, c)
    | _ => False
def am_ht (st : List Value) : Nat := (st.map fun v => v.category).sum
/-- calls and returns -/
def am_xc (SP : am_S) (n1 : Nat) (Q : Option Value → am_W → Prop) (nx k a b : Nat) (v : Int32) (st : List Value) (w : am_W) (X : Nat → List Value → am_W → Prop) : Prop :=
  match k with
  | 55 => am_rev (b / 4) [] st fun as r => am_ht r ≤ 8 ∧ am_rcv (am_vc a) as w ∧ SP a as w fun y w1 => w1.1 = w.1 → am_ra (b % 4) y r fun st1 => X nx st1 w1
  | 61 => am_rev (b / 4) [] st fun as r => am_ht r ≤ 8 ∧ am_fit n1 a w ∧ SP a as w fun y w1 => w1.1 = w.1 + am_mc a → y = none ∧ X nx r w1
  | 62 => match st with
    | .ref _ :: r => am_ht r ≤ 8 ∧ X nx r w
    | _ => False
  | 64 => match a with
    | 286 => match st with
      | .int x :: r => am_ht r ≤ 8 ∧ X nx (.int (if 0 ≤ x then x else 0 - x) :: r) w
      | _ => False
    | 287 => match st with
      | .int y :: .int x :: r => am_ht r ≤ 8 ∧ X nx (.int (if x < y then y else x) :: r) w
      | _ => False
    | 288 => match st with
      | .int y :: .int x :: r => am_ht r ≤ 8 ∧ X nx (.int (if y < x then y else x) :: r) w
      | _ => False
    | _ => False
  | 68 => match st with
    | .int j :: .ref x :: r => SP 900 [.ref x, .int j] w fun y w1 => w1 = w → am_ri y fun z => X nx (.int z :: r) w
    | _ => False
  | 69 => match st with
    | .ref x :: r => SP 901 [.ref x] w fun y w1 => w1 = w → am_ri y fun z => X nx (.int z :: r) w
    | _ => False
  | 66 => match st with
    | .ref x :: r => am_ht r ≤ 8 ∧ SP 903 [.ref x] w fun y w1 => w1 = w → am_ri y fun z => X nx (.int z :: r) w
    | _ => False
  | 67 => match st with
    | .int j :: .ref x :: r => am_ht r ≤ 8 ∧ SP 904 [.ref x, .int j] w fun y w1 => w1 = w → am_ri y fun z => X nx (.int z :: r) w
    | _ => False
  | 70 => SP 905 [.int v] w fun y w1 => w1 = w → am_rv1 y fun z => X nx (z :: st) w
  | 60 => SP 902 [.int v] w fun y w1 => w1 = w → am_rv1 y fun z => X nx (z :: st) w
  | 56 => match st with
    | [.int y] => w.1 = n1 ∧ Q (some (.int y)) w
    | _ => False
  | 63 => match st with
    | [.int y] => w.1 = n1 ∧ (y = 0 ∨ y = 1) ∧ Q (some (.int y)) w
    | _ => False
  | 58 => match st with
    | [.ref y] => w.1 = n1 ∧ Q (some (.ref y)) w
    | [.null] => w.1 = n1 ∧ Q (some .null) w
    | _ => False
  | 59 => match st with
    | [] => w.1 = n1 ∧ Q none w
    | _ => False
  | _ => False
def am_x (M : am_M) (SP : am_S) (n1 : Nat) (Q : Option Value → am_W → Prop) (q : am_Row) (ls : List (Option Value)) (st : List Value) (w : am_W) (X : am_P) : Prop :=
  match Nat.ble q.2.2.1 34, Nat.ble q.2.2.1 40, Nat.ble q.2.2.1 54 with
  | true, _, _ => am_xp M.2.1 q.2.1 q.2.2.1 q.2.2.2.1 q.2.2.2.2.2 ls st fun pc ls st => X pc ls st w
  | false, true, _ => am_xj M.2.2 q.2.1 q.2.2.1 q.2.2.2.1 q.2.2.2.2.1 st fun pc st => X pc ls st w
  | false, false, true => am_xh n1 q.2.1 q.2.2.1 q.2.2.2.1 q.2.2.2.2.1 st w fun pc st w => X pc ls st w
  | false, false, false => am_xc SP n1 Q q.2.1 q.2.2.1 q.2.2.2.1 q.2.2.2.2.1 q.2.2.2.2.2 st w fun pc st w => X pc ls st w
def am_stp (M : am_M) (SP : am_S) (n1 : Nat) (Q : Option Value → am_W → Prop) (pc : Nat) (ls : List (Option Value)) (st : List Value) (w : am_W) (X : am_P) : Prop := match am_find pc M.1 with
  | none => False
  | some q => am_x M SP n1 Q q ls st w X
/-- the run ends, and ends well: the least X that is closed under steps -/
def am_T (M : am_M) (SP : am_S) (n1 : Nat) (Q : Option Value → am_W → Prop) (pc : Nat) (ls : List (Option Value)) (st : List Value) (w : am_W) : Prop :=
  ∀ X : am_P, (∀ pc ls st w, am_stp M SP n1 Q pc ls st w X → X pc ls st w) → X pc ls st w
/-- n steps, but not past a cut -/
def am_wp (M : am_M) (SP : am_S) (n1 : Nat) (Q : Option Value → am_W → Prop) (K : am_P) (cuts : List Nat) : Nat → am_P
  | 0 => K
  | n + 1 => fun pc ls st w => am_stp M SP n1 Q pc ls st w fun pc ls st w => match cuts.contains pc with
    | true => K pc ls st w
    | false => am_wp M SP n1 Q K cuts n pc ls st w
theorem am_sw_mono {x : Int32} {Y Z : Nat → Prop} (h : ∀ t, Y t → Z t) {d : Nat} : ∀ {l : List (Int32 × Nat)}, am_sw x Y d l → am_sw x Z d l
  | [], k => h _ k
  | _ :: _, k => ⟨fun e => h _ (k.1 e), fun e => am_sw_mono h (k.2 e)⟩
theorem am_li_mono {ls : List (Option Value)} {i : Nat} {Y Z : Int32 → Prop} (h : ∀ t, Y t → Z t) (k : am_li ls i Y) : am_li ls i Z := by
  unfold am_li at k ⊢
  split at k
  · exact h _ k
  · exact k.elim
theorem am_ll_mono {ls : List (Option Value)} {i : Nat} {Y Z : Int64 → Prop} (h : ∀ t, Y t → Z t) (k : am_ll ls i Y) : am_ll ls i Z := by
  unfold am_ll at k ⊢
  split at k
  · exact h _ k
  · exact k.elim
theorem am_la_mono {ls : List (Option Value)} {i : Nat} {Y Z : Value → Prop} (h : ∀ t, Y t → Z t) (k : am_la ls i Y) : am_la ls i Z := by
  unfold am_la at k ⊢
  split at k
  · exact h _ k
  · exact h _ k
  · exact k.elim
theorem am_br_mono {c : Nat} {x y : Int32} {A B A' B' : Prop} (ha : A → A') (hb : B → B') (k : am_br c x y A B) : am_br c x y A' B' := by
  unfold am_br at k ⊢
  split at k
  · exact ⟨fun e => ha (k.1 e), fun e => hb (k.2 e)⟩
  · exact ⟨fun e => ha (k.1 e), fun e => hb (k.2 e)⟩
  · exact ⟨fun e => ha (k.1 e), fun e => hb (k.2 e)⟩
  · exact ⟨fun e => ha (k.1 e), fun e => hb (k.2 e)⟩
  · exact ⟨fun e => ha (k.1 e), fun e => hb (k.2 e)⟩
  · exact ⟨fun e => ha (k.1 e), fun e => hb (k.2 e)⟩
  · exact k
theorem am_or_mono {o : Option Nat} {Y Z : Value → Prop} (h : ∀ t, Y t → Z t) (k : am_or o Y) : am_or o Z := by
  rcases k with ⟨y, e, k⟩ | ⟨e, k⟩
  · exact Or.inl ⟨y, e, h _ k⟩
  · exact Or.inr ⟨e, h _ k⟩
theorem am_fg_mono {kd : Nat} {w : am_W} {x b : Nat} {Y Z : Value → Prop} (h : ∀ t, Y t → Z t) (k : am_fg kd w x b Y) : am_fg kd w x b Z := by
  unfold am_fg at k ⊢
  split at k
  · exact h _ k
  · exact h _ k
  · exact am_or_mono h k
  · exact h _ k
  · exact k
theorem am_fp_mono {kd : Nat} {w : am_W} {x b : Nat} {v : Value} {Y Z : am_W → Prop} (h : ∀ t, Y t → Z t) (k : am_fp kd w x b v Y) : am_fp kd w x b v Z := by
  unfold am_fp at k ⊢
  split at k
  · split at k
    · exact h _ k
    · exact k
  · split at k
    · exact h _ k
    · exact k
  · split at k
    · exact h _ k
    · exact h _ k
    · exact k
  · split at k
    · exact ⟨k.1, h _ k.2⟩
    · exact k
  · exact k
theorem am_rev_mono {Y Z : List Value → List Value → Prop} (h : ∀ a r, Y a r → Z a r) (n : Nat) : ∀ (acc st : List Value), am_rev n acc st Y → am_rev n acc st Z := by
  induction n with
  | zero => exact fun _ _ k => h _ _ k
  | succ n ih =>
    intro acc st k
    cases st with
    | nil => exact k
    | cons v st => exact ih _ _ k
theorem am_ra_mono {v : Nat} {r : Option Value} {st : List Value} {Y Z : List Value → Prop} (h : ∀ t, Y t → Z t) (k : am_ra v r st Y) : am_ra v r st Z := by
  match v, k with
  | 0, k => exact ⟨k.1, h _ k.2⟩
  | 1, k =>
    match r, k with
    | some (.int y), k => exact h _ k
  | 2, k =>
    match r, k with
    | some (.long y), k => exact h _ k
  | 3, k =>
    match r, k with
    | some (.ref y), k => exact h _ k
    | some .null, k => exact h _ k
theorem am_xp_mono {lc : List Int64} {nx k a : Nat} {v : Int32} {ls : List (Option Value)} {st : List Value} {X Y : Nat → List (Option Value) → List Value → Prop} (h : ∀ p l s, X p l s → Y p l s) (q : am_xp lc nx k a v ls st X) : am_xp lc nx k a v ls st Y := by
  unfold am_xp at q ⊢
  split at q
  all_goals first
    | exact h _ _ _ q
    | exact am_li_mono (fun _ => h _ _ _) q
    | exact am_ll_mono (fun _ => h _ _ _) q
    | exact am_la_mono (fun _ => h _ _ _) q
    | exact q.elim
    | (split at q <;> first | exact h _ _ _ q | exact ⟨q.1, h _ _ _ q.2⟩ | exact q.elim)
theorem am_xj_mono {sws : List (List (Int32 × Nat))} {nx k a b : Nat} {st : List Value} {X Y : Nat → List Value → Prop} (h : ∀ p s, X p s → Y p s) (q : am_xj sws nx k a b st X) : am_xj sws nx k a b st Y := by
  unfold am_xj at q ⊢
  split at q
  all_goals first
    | exact h _ _ q
    | exact q.elim
    | (split at q <;> first | exact h _ _ q | exact am_br_mono (h _ _) (h _ _) q | exact am_sw_mono (fun _ => h _ _) q | exact q.elim)
theorem am_xh_mono {n1 nx k a b : Nat} {st : List Value} {w : am_W} {X Y : Nat → List Value → am_W → Prop} (h : ∀ p s w, X p s w → Y p s w) (q : am_xh n1 nx k a b st w X) : am_xh n1 nx k a b st w Y := by
  unfold am_xh at q ⊢
  split at q
  all_goals first
    | exact ⟨q.1, h _ _ _ q.2⟩
    | exact q.elim
    | (split at q
       · first
         | exact ⟨q.1, am_fg_mono (fun _ => h _ _ _) q.2⟩
         | exact ⟨q.1, am_fp_mono (fun _ => h _ _ _) q.2⟩
         | exact ⟨q.1, h _ _ _ q.2⟩
         | (obtain ⟨n, q1, q2, q3⟩ := q; first | exact ⟨n, q1, q2, h _ _ _ q3⟩ | exact ⟨n, q1, q2, am_or_mono (fun _ => h _ _ _) q3⟩ | exact ⟨n, q1, q2, q3.1, h _ _ _ q3.2⟩)
         | (obtain ⟨n, q1, q2⟩ := q
            rcases q2 with ⟨q2, q3⟩ | ⟨q2, q3, q4⟩
            · exact ⟨n, q1, Or.inl ⟨q2, h _ _ _ q3⟩⟩
            · exact ⟨n, q1, Or.inr ⟨q2, q3, h _ _ _ q4⟩⟩)
       · exact q.elim)
/-- specs let go on in any way that they let go on -/
def am_Smono (SP : am_S) : Prop := ∀ (i : Nat) (as : List Value) (w : am_W) (Y Z : Option Value → am_W → Prop), (∀ r w1, Y r w1 → Z r w1) → SP i as w Y → SP i as w Z
theorem am_xc_mono {SP : am_S} (hs : am_Smono SP) {n1 : Nat} {Q : Option Value → am_W → Prop} {nx k a b : Nat} {v : Int32} {st : List Value} {w : am_W} {X Y : Nat → List Value → am_W → Prop} (h : ∀ p s w, X p s w → Y p s w) (q : am_xc SP n1 Q nx k a b v st w X) : am_xc SP n1 Q nx k a b v st w Y := by
  unfold am_xc at q ⊢
  split at q
  · exact am_rev_mono (fun a r q => ⟨q.1, q.2.1, hs _ _ _ _ _ (fun r w1 q e => am_ra_mono (fun _ => h _ _ _) (q e)) q.2.2⟩) _ _ _ q
  · exact am_rev_mono (fun a r q => ⟨q.1, q.2.1, hs _ _ _ _ _ (fun r w1 q e => ⟨(q e).1, h _ _ _ (q e).2⟩) q.2.2⟩) _ _ _ q
  · split at q
    · exact ⟨q.1, h _ _ _ q.2⟩
    · exact q
  · split at q
    · split at q
      · exact ⟨q.1, h _ _ _ q.2⟩
      · exact q
    · split at q
      · exact ⟨q.1, h _ _ _ q.2⟩
      · exact q
    · split at q
      · exact ⟨q.1, h _ _ _ q.2⟩
      · exact q
    · exact q
  · split at q
    · exact hs _ _ _ _ _ (fun r w1 q e => am_ri_mono (fun _ => h _ _ _) (q e)) q
    · exact q
  · split at q
    · exact hs _ _ _ _ _ (fun r w1 q e => am_ri_mono (fun _ => h _ _ _) (q e)) q
    · exact q
  · split at q
    · exact ⟨q.1, hs _ _ _ _ _ (fun r w1 q e => am_ri_mono (fun _ => h _ _ _) (q e)) q.2⟩
    · exact q
  · split at q
    · exact ⟨q.1, hs _ _ _ _ _ (fun r w1 q e => am_ri_mono (fun _ => h _ _ _) (q e)) q.2⟩
    · exact q
  · exact hs _ _ _ _ _ (fun r w1 q e => am_rv1_mono (fun _ => h _ _ _) (q e)) q
  · exact hs _ _ _ _ _ (fun r w1 q e => am_rv1_mono (fun _ => h _ _ _) (q e)) q
  · exact q
  · exact q
  · exact q
  · exact q
  · exact q
theorem am_stp_mono {M : am_M} {SP : am_S} (hs : am_Smono SP) {n1 : Nat} {Q : Option Value → am_W → Prop} {pc : Nat} {ls : List (Option Value)} {st : List Value} {w : am_W} {X Y : am_P} (h : ∀ pc ls st w, X pc ls st w → Y pc ls st w) (q : am_stp M SP n1 Q pc ls st w X) : am_stp M SP n1 Q pc ls st w Y := by
  unfold am_stp at q ⊢
  split at q
  · exact q
  · unfold am_x at q ⊢
    split at q
    · exact am_xp_mono (fun _ _ _ => h _ _ _ _) q
    · exact am_xj_mono (fun _ _ => h _ _ _ _) q
    · exact am_xh_mono (fun _ _ _ => h _ _ _ _) q
    · exact am_xc_mono hs (fun _ _ _ => h _ _ _ _) q
theorem am_T.step {M : am_M} {SP : am_S} (hs : am_Smono SP) {n1 : Nat} {Q : Option Value → am_W → Prop} {pc : Nat} {ls : List (Option Value)} {st : List Value} {w : am_W} (h : am_stp M SP n1 Q pc ls st w (am_T M SP n1 Q)) : am_T M SP n1 Q pc ls st w :=
  fun X hX => hX _ _ _ _ (am_stp_mono hs (fun _ _ _ _ k => k X hX) h)
theorem am_T.wp {M : am_M} {SP : am_S} (hs : am_Smono SP) {n1 : Nat} {Q : Option Value → am_W → Prop} {K : am_P} {cuts : List Nat} (hK : ∀ pc ls st w, K pc ls st w → am_T M SP n1 Q pc ls st w) : ∀ (n : Nat) {pc : Nat} {ls : List (Option Value)} {st : List Value} {w : am_W}, am_wp M SP n1 Q K cuts n pc ls st w → am_T M SP n1 Q pc ls st w
  | 0, _, _, _, _, h => hK _ _ _ _ h
  | n + 1, _, _, _, _, h => am_T.step hs (am_stp_mono hs (fun pc ls st w k => by
      split at k
      · exact hK _ _ _ _ k
      · exact am_T.wp hs hK n k) h)
/-- the end may be weakened -/
theorem am_T.mono {M : am_M} {SP : am_S} {n1 : Nat} {Q Q' : Option Value → am_W → Prop} (hq : ∀ r w, Q r w → Q' r w) {pc : Nat} {ls : List (Option Value)} {st : List Value} {w : am_W} (h : am_T M SP n1 Q pc ls st w) : am_T M SP n1 Q' pc ls st w := by
  intro X hX
  refine h X (fun pc ls st w k => hX _ _ _ _ ?_)
  unfold am_stp at k ⊢
  split at k
  · exact k
  · unfold am_x at k ⊢
    split at k
    · exact k
    · exact k
    · exact k
    · unfold am_xc at k ⊢
      split at k
      · exact k
      · exact k
      · exact k
      · exact k
      · exact k
      · exact k
      · exact k
      · exact k
      · exact k
      · exact k
      · split at k
        · exact ⟨k.1, hq _ _ k.2⟩
        · exact k
      · split at k
        · exact ⟨k.1, k.2.1, hq _ _ k.2.2⟩
        · exact k
      · split at k
        · exact ⟨k.1, hq _ _ k.2⟩
        · exact ⟨k.1, hq _ _ k.2⟩
        · exact k
      · split at k
        · exact ⟨k.1, hq _ _ k.2⟩
        · exact k
      · exact k
theorem am_len : am_SH.length = 168 := by decide +kernel
theorem am_a {w : am_W} (hf : am_fin w) {x : Nat} {sh : Nat × Nat} (h : am_SH[x]? = some sh) : am_at w x sh := ⟨h, by
  have := (List.getElem?_eq_some_iff.mp h).1
  rw [am_len] at this
  rw [hf.1]
  exact this⟩
