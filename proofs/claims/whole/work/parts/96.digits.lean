/-! ===== digits and letters in a row ===== -/
def isd_ (b : Nat) : Bool := decide (48 ≤ b ∧ b ≤ 57)
def isl_ (b : Nat) : Bool := decide (97 ≤ b ∧ b ≤ 122)
def run_ (p : Nat → Bool) : List Nat → Nat
  | [] => 0
  | b :: l => if p b = true then run_ p l + 1 else 0
theorem run_le {p : Nat → Bool} : ∀ l, run_ p l ≤ l.length
  | [] => Nat.le_refl _
  | b :: l => by
    have := run_le (p := p) l
    unfold run_
    by_cases c : p b = true
    · rw [if_pos c, List.length_cons]; omega
    · rw [if_neg c]; exact Nat.zero_le _
theorem isd_c {b : Nat} (hb : b < 256) (m : fm_) : f_X8_isDigit (nI b) m = some (b01_ (isd_ b), m) := by
  unfold f_X8_isDigit isd_
  by_cases c1 : b < 48
  · rw [decide_eq_false (by omega)]
    show _ = some (nI 0, m)
    simp (disch := omega) only [↓reduceIte, ↓ns_m1, ns_let, ns_lef, ns_ltt, ns_ltf, ns_eqt, ns_eqf, ns_gd, nI_clamp, nI_add, pk_sub, pk_mul, ns_m1a, ns_m1b, ns_m1c, ns_m1d, ns_m1e, ns_m1f, ns_m1g, ns_un1, ns_un0, ns_day1, Option.bind_some, gi_si_self, gi_si_ne, gl_si, gi_sl, gl_sl_self, gl_sl_ne, if_true, if_false, ns_i0, ns_i1, ns_i2, ns_i3, ns_i4, ns_i5, ns_i6, ns_i7, ns_i8, ns_i9, ns_i10, ns_i11, ns_i12, ns_i13, ns_i20, ns_i23, ns_i24, ns_i31, ns_i50, ns_i60, ns_i99, ns_i100, ns_i144, ns_i200, ns_i255, ns_i700, ns_i880, ns_i899, ns_i900, ns_i901, ns_i999, ns_i1000, ns_i1440, ns_i4095, ns_i1000000, show (48 : Int32) = nI 48 from rfl, show (57 : Int32) = nI 57 from rfl]
  · by_cases c2 : 57 < b
    · rw [decide_eq_false (by omega)]
      show _ = some (nI 0, m)
      simp (disch := omega) only [↓reduceIte, ↓ns_m1, ns_let, ns_lef, ns_ltt, ns_ltf, ns_eqt, ns_eqf, ns_gd, nI_clamp, nI_add, pk_sub, pk_mul, ns_m1a, ns_m1b, ns_m1c, ns_m1d, ns_m1e, ns_m1f, ns_m1g, ns_un1, ns_un0, ns_day1, Option.bind_some, gi_si_self, gi_si_ne, gl_si, gi_sl, gl_sl_self, gl_sl_ne, if_true, if_false, ns_i0, ns_i1, ns_i2, ns_i3, ns_i4, ns_i5, ns_i6, ns_i7, ns_i8, ns_i9, ns_i10, ns_i11, ns_i12, ns_i13, ns_i20, ns_i23, ns_i24, ns_i31, ns_i50, ns_i60, ns_i99, ns_i100, ns_i144, ns_i200, ns_i255, ns_i700, ns_i880, ns_i899, ns_i900, ns_i901, ns_i999, ns_i1000, ns_i1440, ns_i4095, ns_i1000000, show (48 : Int32) = nI 48 from rfl, show (57 : Int32) = nI 57 from rfl]
    · rw [decide_eq_true (by omega)]
      show _ = some (nI 1, m)
      simp (disch := omega) only [↓reduceIte, ↓ns_m1, ns_let, ns_lef, ns_ltt, ns_ltf, ns_eqt, ns_eqf, ns_gd, nI_clamp, nI_add, pk_sub, pk_mul, ns_m1a, ns_m1b, ns_m1c, ns_m1d, ns_m1e, ns_m1f, ns_m1g, ns_un1, ns_un0, ns_day1, Option.bind_some, gi_si_self, gi_si_ne, gl_si, gi_sl, gl_sl_self, gl_sl_ne, if_true, if_false, ns_i0, ns_i1, ns_i2, ns_i3, ns_i4, ns_i5, ns_i6, ns_i7, ns_i8, ns_i9, ns_i10, ns_i11, ns_i12, ns_i13, ns_i20, ns_i23, ns_i24, ns_i31, ns_i50, ns_i60, ns_i99, ns_i100, ns_i144, ns_i200, ns_i255, ns_i700, ns_i880, ns_i899, ns_i900, ns_i901, ns_i999, ns_i1000, ns_i1440, ns_i4095, ns_i1000000, show (48 : Int32) = nI 48 from rfl, show (57 : Int32) = nI 57 from rfl]
theorem isl_c {b : Nat} (hb : b < 256) (m : fm_) : f_X8_isLetter (nI b) m = some (b01_ (isl_ b), m) := by
  unfold f_X8_isLetter isl_
  by_cases c1 : b < 97
  · rw [decide_eq_false (by omega)]
    show _ = some (nI 0, m)
    simp (disch := omega) only [↓reduceIte, ↓ns_m1, ns_let, ns_lef, ns_ltt, ns_ltf, ns_eqt, ns_eqf, ns_gd, nI_clamp, nI_add, pk_sub, pk_mul, ns_m1a, ns_m1b, ns_m1c, ns_m1d, ns_m1e, ns_m1f, ns_m1g, ns_un1, ns_un0, ns_day1, Option.bind_some, gi_si_self, gi_si_ne, gl_si, gi_sl, gl_sl_self, gl_sl_ne, if_true, if_false, ns_i0, ns_i1, ns_i2, ns_i3, ns_i4, ns_i5, ns_i6, ns_i7, ns_i8, ns_i9, ns_i10, ns_i11, ns_i12, ns_i13, ns_i20, ns_i23, ns_i24, ns_i31, ns_i50, ns_i60, ns_i99, ns_i100, ns_i144, ns_i200, ns_i255, ns_i700, ns_i880, ns_i899, ns_i900, ns_i901, ns_i999, ns_i1000, ns_i1440, ns_i4095, ns_i1000000, show (97 : Int32) = nI 97 from rfl, show (122 : Int32) = nI 122 from rfl]
  · by_cases c2 : 122 < b
    · rw [decide_eq_false (by omega)]
      show _ = some (nI 0, m)
      simp (disch := omega) only [↓reduceIte, ↓ns_m1, ns_let, ns_lef, ns_ltt, ns_ltf, ns_eqt, ns_eqf, ns_gd, nI_clamp, nI_add, pk_sub, pk_mul, ns_m1a, ns_m1b, ns_m1c, ns_m1d, ns_m1e, ns_m1f, ns_m1g, ns_un1, ns_un0, ns_day1, Option.bind_some, gi_si_self, gi_si_ne, gl_si, gi_sl, gl_sl_self, gl_sl_ne, if_true, if_false, ns_i0, ns_i1, ns_i2, ns_i3, ns_i4, ns_i5, ns_i6, ns_i7, ns_i8, ns_i9, ns_i10, ns_i11, ns_i12, ns_i13, ns_i20, ns_i23, ns_i24, ns_i31, ns_i50, ns_i60, ns_i99, ns_i100, ns_i144, ns_i200, ns_i255, ns_i700, ns_i880, ns_i899, ns_i900, ns_i901, ns_i999, ns_i1000, ns_i1440, ns_i4095, ns_i1000000, show (97 : Int32) = nI 97 from rfl, show (122 : Int32) = nI 122 from rfl]
    · rw [decide_eq_true (by omega)]
      show _ = some (nI 1, m)
      simp (disch := omega) only [↓reduceIte, ↓ns_m1, ns_let, ns_lef, ns_ltt, ns_ltf, ns_eqt, ns_eqf, ns_gd, nI_clamp, nI_add, pk_sub, pk_mul, ns_m1a, ns_m1b, ns_m1c, ns_m1d, ns_m1e, ns_m1f, ns_m1g, ns_un1, ns_un0, ns_day1, Option.bind_some, gi_si_self, gi_si_ne, gl_si, gi_sl, gl_sl_self, gl_sl_ne, if_true, if_false, ns_i0, ns_i1, ns_i2, ns_i3, ns_i4, ns_i5, ns_i6, ns_i7, ns_i8, ns_i9, ns_i10, ns_i11, ns_i12, ns_i13, ns_i20, ns_i23, ns_i24, ns_i31, ns_i50, ns_i60, ns_i99, ns_i100, ns_i144, ns_i200, ns_i255, ns_i700, ns_i880, ns_i899, ns_i900, ns_i901, ns_i999, ns_i1000, ns_i1440, ns_i4095, ns_i1000000, show (97 : Int32) = nI 97 from rfl, show (122 : Int32) = nI 122 from rfl]
theorem dge_c {L : List Nat} {m : fm_} (h : bc9_ L m) {x1 : Int32} : ∀ (l : List Nat) (i : Nat), L.drop i = l → i ≤ 1000 → f_X8_digitsEnd_2 x1 (nI i) m = some (nI (i + run_ isd_ l), m) := by
  have h1 := h.1
  have h2 := h.2.1
  intro l
  induction l with
  | nil =>
    intro i hl hi
    have : L.length ≤ i := by
      have := congrArg List.length hl
      rw [List.length_drop, List.length_nil] at this
      omega
    rw [e_X8_digitsEnd_2]
    simp (disch := omega) only [↓reduceIte, ↓ns_m1, ns_let, ns_lef, ns_ltt, ns_ltf, ns_eqt, ns_eqf, ns_gd, nI_clamp, nI_add, pk_sub, pk_mul, ns_m1a, ns_m1b, ns_m1c, ns_m1d, ns_m1e, ns_m1f, ns_m1g, ns_un1, ns_un0, ns_day1, Option.bind_some, gi_si_self, gi_si_ne, gl_si, gi_sl, gl_sl_self, gl_sl_ne, if_true, if_false, ns_i0, ns_i1, ns_i2, ns_i3, ns_i4, ns_i5, ns_i6, ns_i7, ns_i8, ns_i9, ns_i10, ns_i11, ns_i12, ns_i13, ns_i20, ns_i23, ns_i24, ns_i31, ns_i50, ns_i60, ns_i99, ns_i100, ns_i144, ns_i200, ns_i255, ns_i700, ns_i880, ns_i899, ns_i900, ns_i901, ns_i999, ns_i1000, ns_i1440, ns_i4095, ns_i1000000, h2]
    rfl
  | cons b l ih =>
    intro i hl hi
    obtain ⟨k1, k2, k3⟩ := drop_p hl
    obtain ⟨hb, _⟩ := h.2.2 i b k1
    have e1 := byt_c h (i := i) (by omega)
    have e1 : f_X8_byteAt (nI i) m = some (nI b, m) := by
      rw [e1]; unfold byt_; rw [k1]
    have e2 := isd_c hb m
    have e1t : b01_ true = nI 1 := rfl
    have e0t : b01_ false = nI 0 := rfl
    rw [e_X8_digitsEnd_2]
    unfold run_
    by_cases c : isd_ b = true
    · rw [c, e1t] at e2
      rw [if_pos c]
      have := ih (i + 1) k2 (by omega)
      have ea : i + 1 + run_ isd_ l = i + (run_ isd_ l + 1) := by omega
      rw [ea] at this
      simp (disch := omega) only [↓reduceIte, ↓ns_m1, ns_let, ns_lef, ns_ltt, ns_ltf, ns_eqt, ns_eqf, ns_gd, nI_clamp, nI_add, pk_sub, pk_mul, ns_m1a, ns_m1b, ns_m1c, ns_m1d, ns_m1e, ns_m1f, ns_m1g, ns_un1, ns_un0, ns_day1, Option.bind_some, gi_si_self, gi_si_ne, gl_si, gi_sl, gl_sl_self, gl_sl_ne, if_true, if_false, ns_i0, ns_i1, ns_i2, ns_i3, ns_i4, ns_i5, ns_i6, ns_i7, ns_i8, ns_i9, ns_i10, ns_i11, ns_i12, ns_i13, ns_i20, ns_i23, ns_i24, ns_i31, ns_i50, ns_i60, ns_i99, ns_i100, ns_i144, ns_i200, ns_i255, ns_i700, ns_i880, ns_i899, ns_i900, ns_i901, ns_i999, ns_i1000, ns_i1440, ns_i4095, ns_i1000000, h2, e1, e2, this]
    · rw [Bool.eq_false_iff.mpr c, e0t] at e2
      rw [if_neg c]
      simp (disch := omega) only [↓reduceIte, ↓ns_m1, ns_let, ns_lef, ns_ltt, ns_ltf, ns_eqt, ns_eqf, ns_gd, nI_clamp, nI_add, pk_sub, pk_mul, ns_m1a, ns_m1b, ns_m1c, ns_m1d, ns_m1e, ns_m1f, ns_m1g, ns_un1, ns_un0, ns_day1, Option.bind_some, gi_si_self, gi_si_ne, gl_si, gi_sl, gl_sl_self, gl_sl_ne, if_true, if_false, ns_i0, ns_i1, ns_i2, ns_i3, ns_i4, ns_i5, ns_i6, ns_i7, ns_i8, ns_i9, ns_i10, ns_i11, ns_i12, ns_i13, ns_i20, ns_i23, ns_i24, ns_i31, ns_i50, ns_i60, ns_i99, ns_i100, ns_i144, ns_i200, ns_i255, ns_i700, ns_i880, ns_i899, ns_i900, ns_i901, ns_i999, ns_i1000, ns_i1440, ns_i4095, ns_i1000000, h2, e1, e2, Nat.add_zero]
/-- the number that a row of digits spells -/
def nmv_ : List Nat → Nat → Nat
  | [], a => a
  | b :: l, a => nmv_ l (a * 10 + b - 48)
