/-! ===== tools: numbers, ranges ===== -/
theorem ns_i0 : (0 : Int32) = nI 0 := rfl
theorem ns_i1 : (1 : Int32) = nI 1 := rfl
theorem ns_i2 : (2 : Int32) = nI 2 := rfl
theorem ns_i3 : (3 : Int32) = nI 3 := rfl
theorem ns_i4 : (4 : Int32) = nI 4 := rfl
theorem ns_i5 : (5 : Int32) = nI 5 := rfl
theorem ns_i6 : (6 : Int32) = nI 6 := rfl
theorem ns_i7 : (7 : Int32) = nI 7 := rfl
theorem ns_i8 : (8 : Int32) = nI 8 := rfl
theorem ns_i9 : (9 : Int32) = nI 9 := rfl
theorem ns_i10 : (10 : Int32) = nI 10 := rfl
theorem ns_i11 : (11 : Int32) = nI 11 := rfl
theorem ns_i12 : (12 : Int32) = nI 12 := rfl
theorem ns_i13 : (13 : Int32) = nI 13 := rfl
theorem ns_i20 : (20 : Int32) = nI 20 := rfl
theorem ns_i23 : (23 : Int32) = nI 23 := rfl
theorem ns_i24 : (24 : Int32) = nI 24 := rfl
theorem ns_i31 : (31 : Int32) = nI 31 := rfl
theorem ns_i50 : (50 : Int32) = nI 50 := rfl
theorem ns_i60 : (60 : Int32) = nI 60 := rfl
theorem ns_i99 : (99 : Int32) = nI 99 := rfl
theorem ns_i100 : (100 : Int32) = nI 100 := rfl
theorem ns_i144 : (144 : Int32) = nI 144 := rfl
theorem ns_i200 : (200 : Int32) = nI 200 := rfl
theorem ns_i255 : (255 : Int32) = nI 255 := rfl
theorem ns_i700 : (700 : Int32) = nI 700 := rfl
theorem ns_i880 : (880 : Int32) = nI 880 := rfl
theorem ns_i899 : (899 : Int32) = nI 899 := rfl
theorem ns_i900 : (900 : Int32) = nI 900 := rfl
theorem ns_i901 : (901 : Int32) = nI 901 := rfl
theorem ns_i999 : (999 : Int32) = nI 999 := rfl
theorem ns_i1000 : (1000 : Int32) = nI 1000 := rfl
theorem ns_i1440 : (1440 : Int32) = nI 1440 := rfl
theorem ns_i4095 : (4095 : Int32) = nI 4095 := rfl
theorem ns_i1000000 : (1000000 : Int32) = nI 1000000 := rfl
theorem ns_let {a b : Nat} (h : a ≤ b) (hb : b < 2 ^ 31) : (nI a ≤ nI b) = True := eq_true (nI_le h hb)
theorem ns_lef {a b : Nat} (h : b < a) (ha : a < 2 ^ 31) : (nI a ≤ nI b) = False := eq_false (nI_ge h ha)
theorem ns_ltt {a b : Nat} (h : a < b) (hb : b < 2 ^ 31) : (nI a < nI b) = True := eq_true (nI_lt h hb)
theorem ns_ltf {a b : Nat} (h : b ≤ a) (ha : a < 2 ^ 31) : (nI a < nI b) = False := eq_false (nI_nlt h ha)
theorem ns_eqt {a b : Nat} (h : a = b) : (nI a = nI b) = True := eq_true (by rw [h])
theorem ns_eqf {a b : Nat} (h : ¬ a = b) (ha : a < 2 ^ 31) (hb : b < 2 ^ 31) : (nI a = nI b) = False := eq_false fun e => h ((nI_eq ha hb).mp e)
theorem ns_gd {R : Type} {a n : Nat} {x : Option R} (h : a < n) (hn : n < 2 ^ 31) : gd_ (ix_ (nI a) n) x = x := gd_t (ix_i (vp_in_nI h hn))
def M1_ : Int32 := -1
theorem ns_m1 : (-1 : Int32) = M1_ := rfl
theorem ns_m1i : M1_.toInt = -1 := by decide
theorem ns_m1a {a : Nat} (ha : a < 2 ^ 31) : (nI a = M1_) = False := eq_false fun e => by
  have e1 := congrArg Int32.toInt e
  rw [nI_toInt ha, ns_m1i] at e1
  omega
theorem ns_m1b {a : Nat} (ha : a < 2 ^ 31) : (M1_ = nI a) = False := eq_false fun e => by
  have e1 := congrArg Int32.toInt e
  rw [nI_toInt ha, ns_m1i] at e1
  omega
theorem ns_m1c {a : Nat} (ha : a < 2 ^ 31) : (M1_ < nI a) = True := eq_true (by
  rw [Int32.lt_iff_toInt_lt, nI_toInt ha, ns_m1i]
  omega)
theorem ns_m1d {a : Nat} (ha : a < 2 ^ 31) : (nI a < M1_) = False := eq_false (by
  rw [Int32.lt_iff_toInt_lt, nI_toInt ha, ns_m1i]
  omega)
theorem ns_m1e {a : Nat} (ha : a < 2 ^ 31) : (M1_ ≤ nI a) = True := eq_true (by
  rw [Int32.le_iff_toInt_le, nI_toInt ha, ns_m1i]
  omega)
theorem ns_m1f {a : Nat} (ha : a < 2 ^ 31) : (nI a ≤ M1_) = False := eq_false (by
  rw [Int32.le_iff_toInt_le, nI_toInt ha, ns_m1i]
  omega)
theorem ns_m1g {a : Nat} (ha : 1 ≤ a) : nI a + M1_ = nI (a - 1) := by
  obtain ⟨b, rfl⟩ : ∃ b, a = b + 1 := ⟨a - 1, by omega⟩
  exact pk_m1 b
theorem ns_un1 {j n : Nat} {m : fm_} (h : j < n) (hn : n < 2 ^ 31) : f_X11_isUnder (nI j) (nI n) m = some (nI 1, m) := by
  rw [und_, bu_1 (nat_nI h hn)]
  rfl
theorem ns_un0 {j n : Nat} {m : fm_} (h : n ≤ j) (hn : j < 2 ^ 31) : f_X11_isUnder (nI j) (nI n) m = some (nI 0, m) := by
  unfold f_X11_isUnder
  rw [if_neg (nI_pos hn), if_pos (nI_le h hn)]
  rfl
theorem ns_day1 {j : Nat} {m : fm_} (h : j < 100) : f_X11_isDay (nI j) m = some (nI 1, m) := by
  rw [day_c, bu_1 (nat_nI h (by omega))]
  rfl
theorem ns_day2 {j : Nat} {m : fm_} (h : j < 100) : f_X12_isDay (nI j) m = some (nI 1, m) := by
  rw [day_m, bu_1 (nat_nI h (by omega))]
  rfl
/-- least, greatest of two -/
theorem ns_mn {a b : Nat} (ha : a < 2 ^ 31) (hb : b < 2 ^ 31) : mn_ (nI a) (nI b) = nI (min a b) := by
  unfold mn_
  by_cases h : b < a
  · rw [if_pos (nI_lt h ha), Nat.min_eq_right (Nat.le_of_lt h)]
  · rw [if_neg (nI_nlt (by omega) hb), Nat.min_eq_left (by omega)]
theorem ns_mx {a b : Nat} (ha : a < 2 ^ 31) (hb : b < 2 ^ 31) : mx_ (nI a) (nI b) = nI (max a b) := by
  unfold mx_
  by_cases h : a < b
  · rw [if_pos (nI_lt h hb), Nat.max_eq_right (Nat.le_of_lt h)]
  · rw [if_neg (nI_nlt (by omega) ha), Nat.max_eq_left (by omega)]
/-- a loop that counts up -/
theorem lp_ {S R : Type} {n : Nat} {F : Nat → S → Option R} {I : Nat → S → Prop} (hs : ∀ i s, i < n → I i s → ∃ s', F i s = F (i + 1) s' ∧ I (i + 1) s') : ∀ (k i : Nat) (s : S), i + k = n → I i s → ∃ s', F i s = F n s' ∧ I n s'
  | 0, i, s, e, h => ⟨s, by rw [show i = n by omega], by rw [← show i = n by omega]; exact h⟩
  | k + 1, i, s, e, h => by
    obtain ⟨s1, e1, h1⟩ := hs i s (by omega) h
    obtain ⟨s2, e2, h2⟩ := lp_ hs k (i + 1) s1 (by omega) h1
    exact ⟨s2, e1.trans e2, h2⟩
theorem lp0_ {S R : Type} {n : Nat} {F : Nat → S → Option R} {I : Nat → S → Prop} (hs : ∀ i s, i < n → I i s → ∃ s', F i s = F (i + 1) s' ∧ I (i + 1) s') {s : S} (h : I 0 s) : ∃ s', F 0 s = F n s' ∧ I n s' := lp_ hs n 0 s (by omega) h
/-! ===== bits ===== -/
/-- the bit of z at j -/
def bb_ (z j : Nat) : Nat := z / 2 ^ j % 2
theorem bb_lt (z j : Nat) : bb_ z j < 2 := Nat.mod_lt _ (by omega)
theorem sh_smod {j : Nat} (hj : j < 32) : ((nI j &&& 31).toBitVec.smod 32).toNat = j := by
  have : ∀ i, i < 32 → ((nI i &&& 31).toBitVec.smod 32).toNat = i := by decide +kernel
  exact this j hj
theorem bb_shr {z j : Nat} (hz : z < 2 ^ 31) (hj : j < 32) : nI z >>> (nI j &&& 31) = nI (z / 2 ^ j) := pk_shrN hz _ j (sh_smod hj)
theorem bb_and1 {z : Nat} (hz : z < 2 ^ 32) : nI z &&& 1 = nI (z % 2) := pk_andN hz 1 rfl
theorem bb_eq {z j : Nat} (hz : z < 2 ^ 31) (hj : j < 32) : (nI z >>> (nI j &&& 31)) &&& 1 = nI (bb_ z j) := by
  rw [bb_shr hz hj, bb_and1 (by have := Nat.div_le_self z (2 ^ j); omega)]
  rfl
/-- the same where the numbers have been written out -/
theorem ns_bb {z j : Nat} (hz : z < 2 ^ 31) (hj : j < 32) : (nI z >>> (nI j &&& nI 31)) &&& nI 1 = nI (bb_ z j) := bb_eq hz hj
theorem bb_shl {j : Nat} (hj : j < 31) : (1 : Int32) <<< (nI j &&& 31) = nI (2 ^ j) := by
  have : ∀ i, i < 31 → (1 : Int32) <<< (nI i &&& 31) = nI (2 ^ i) := by decide +kernel
  exact this j hj
theorem ns_shl {j : Nat} (hj : j < 31) : nI 1 <<< (nI j &&& nI 31) = nI (2 ^ j) := bb_shl hj
theorem nI_and {a b : Nat} (ha : a < 2 ^ 32) (hb : b < 2 ^ 32) : nI a &&& nI b = nI (a &&& b) := by
  apply Int32.toBitVec_inj.mp
  apply BitVec.eq_of_toNat_eq
  rw [Int32.toBitVec_and, BitVec.toNat_and, pk_tn ha, pk_tn hb, pk_tn (Nat.lt_of_le_of_lt Nat.and_le_left ha)]
theorem nI_or {a b k : Nat} (ha : a < 2 ^ k) (hb : b < 2 ^ k) (hk : k ≤ 32) : nI a ||| nI b = nI (a ||| b) := by
  have h2 : 2 ^ k ≤ 2 ^ 32 := Nat.pow_le_pow_right (by omega) hk
  apply Int32.toBitVec_inj.mp
  apply BitVec.eq_of_toNat_eq
  rw [Int32.toBitVec_or, BitVec.toNat_or, pk_tn (by omega), pk_tn (by omega), pk_tn (Nat.lt_of_lt_of_le (Nat.or_lt_two_pow ha hb) h2)]
theorem nI_xor {a b k : Nat} (ha : a < 2 ^ k) (hb : b < 2 ^ k) (hk : k ≤ 32) : nI a ^^^ nI b = nI (a ^^^ b) := by
  have h2 : 2 ^ k ≤ 2 ^ 32 := Nat.pow_le_pow_right (by omega) hk
  apply Int32.toBitVec_inj.mp
  apply BitVec.eq_of_toNat_eq
  rw [Int32.toBitVec_xor, BitVec.toNat_xor, pk_tn (by omega), pk_tn (by omega), pk_tn (Nat.lt_of_lt_of_le (Nat.xor_lt_two_pow ha hb) h2)]
theorem bb_tb (z j : Nat) : bb_ z j = if z.testBit j = true then 1 else 0 := by
  unfold bb_
  rw [Nat.testBit_eq_decide_div_mod_eq]
  have := Nat.mod_lt (z / 2 ^ j) (show 0 < 2 by omega)
  by_cases h : z / 2 ^ j % 2 = 1
  · rw [h]; rfl
  · have h0 : z / 2 ^ j % 2 = 0 := by omega
    rw [h0]; rfl
/-! ===== a row filled with one number ===== -/
theorem fill_ {a0 L : Nat} {x : Int32} (hL : L < 2 ^ 31) (m : fm_) : ∃ m1, f_J7_fill_53178 a0 L x m = some (0, m1) ∧ ∀ j, j < L → gi_ m1 a0 j = x := by
  obtain ⟨s, e, h⟩ := lp0_ (n := L) (F := fun i m => f_J7_fill_53178_5 a0 L x (nI i) (nI L) m) (I := fun i m => ∀ j, j < i → gi_ m a0 j = x) (fun i s hi h => by
    refine ⟨si_ s a0 i x, ?_, fun j hj => ?_⟩
    · show f_J7_fill_53178_5 a0 L x (nI i) (nI L) s = _
      rw [e_J7_fill_53178_5]
      simp (disch := omega) only [↓reduceIte, ↓ns_m1, ns_let, ns_lef, ns_ltt, ns_ltf, ns_eqt, ns_eqf, ns_gd, nI_clamp, nI_add, pk_sub, pk_mul, ns_m1a, ns_m1b, ns_m1c, ns_m1d, ns_m1e, ns_m1f, ns_m1g, ns_un1, ns_un0, ns_day1, Option.bind_some, gi_si_self, gi_si_ne, gl_si, gi_sl, gl_sl_self, gl_sl_ne, if_true, if_false, ns_i0, ns_i1, ns_i2, ns_i3, ns_i4, ns_i5, ns_i6, ns_i7, ns_i8, ns_i9, ns_i10, ns_i11, ns_i12, ns_i13, ns_i20, ns_i23, ns_i24, ns_i31, ns_i50, ns_i60, ns_i99, ns_i100, ns_i144, ns_i200, ns_i255, ns_i700, ns_i880, ns_i899, ns_i900, ns_i901, ns_i999, ns_i1000, ns_i1440, ns_i4095, ns_i1000000]
    · rw [gi_si]
      by_cases e : j = i
      · rw [if_pos ⟨rfl, e⟩]
      · rw [if_neg (fun q => e q.2)]
        exact h j (by omega)) (s := m) (fun j hj => absurd hj (Nat.not_lt_zero _))
  refine ⟨s, ?_, h⟩
  show f_J7_fill_53178_5 a0 L x (nI 0) (nI L) m = _
  rw [show f_J7_fill_53178_5 a0 L x (nI 0) (nI L) m = f_J7_fill_53178_5 a0 L x (nI L) (nI L) s from e, e_J7_fill_53178_5]
  simp (disch := omega) only [↓reduceIte, ↓ns_m1, ns_let, ns_lef, ns_ltt, ns_ltf, ns_eqt, ns_eqf, ns_gd, nI_clamp, nI_add, pk_sub, pk_mul, ns_m1a, ns_m1b, ns_m1c, ns_m1d, ns_m1e, ns_m1f, ns_m1g, ns_un1, ns_un0, ns_day1, Option.bind_some, gi_si_self, gi_si_ne, gl_si, gi_sl, gl_sl_self, gl_sl_ne, if_true, if_false, ns_i0, ns_i1, ns_i2, ns_i3, ns_i4, ns_i5, ns_i6, ns_i7, ns_i8, ns_i9, ns_i10, ns_i11, ns_i12, ns_i13, ns_i20, ns_i23, ns_i24, ns_i31, ns_i50, ns_i60, ns_i99, ns_i100, ns_i144, ns_i200, ns_i255, ns_i700, ns_i880, ns_i899, ns_i900, ns_i901, ns_i999, ns_i1000, ns_i1440, ns_i4095, ns_i1000000]
