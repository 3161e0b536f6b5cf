/-! ===== orders: which are in force, what a class is charged ===== -/
/-- a row of steps for a stack: (what, number) -/
abbrev cd_ : Type := List (Nat × Nat)
/-- day, charges, hours, grace, class lines, free, appeal -/
abbrev od_ : Type := Nat × (Nat → Option Nat) × Option (Nat × Nat) × Option Nat × List (Nat × cd_) × Option cd_ × Option cd_
def dyo_ (O : List od_) (i : Nat) : Nat := match O[i]? with
  | none => 0
  | some o => o.1
def infn_ (O : List od_) (d i : Nat) (b : Option Nat) : Option Nat := if d < dyo_ O i then b else match b with
  | none => some i
  | some j => if dyo_ O i < dyo_ O j then b else some i
def inf_ (O : List od_) (d : Nat) : Nat → Option Nat
  | 0 => none
  | n + 1 => infn_ O d n (inf_ O d n)
theorem inf_u {O : List od_} {d : Nat} : ∀ n j, inf_ O d n = some j → j < n ∧ dyo_ O j ≤ d
  | 0, _, h => by cases h
  | n + 1, j, h => by
    have ih := inf_u (O := O) (d := d) n
    have h : infn_ O d n (inf_ O d n) = some j := h
    unfold infn_ at h
    by_cases c : d < dyo_ O n
    · rw [if_pos c] at h
      have := ih j h
      exact ⟨by omega, this.2⟩
    · rw [if_neg c] at h
      cases e : inf_ O d n with
      | none =>
        rw [e] at h
        cases h
        exact ⟨by omega, by omega⟩
      | some k =>
        rw [e] at h
        simp only at h
        by_cases c2 : dyo_ O n < dyo_ O k
        · rw [if_pos c2] at h
          cases h
          have := ih j e
          exact ⟨by omega, this.2⟩
        · rw [if_neg c2] at h
          cases h
          exact ⟨by omega, by omega⟩
def oof_ (o : Option Nat) : Option Nat := match o with
  | none => none
  | some j => some (32 + 6 * j)
theorem om_n {R : Type} {a : Option R} {f : Nat → Option R} : om_ none a f = a := rfl
theorem om_s {R : Type} {x : Nat} {a : Option R} {f : Nat → Option R} : om_ (some x) a f = f x := rfl
/-- days and charges, the class -/
def ooc_ (o : Option Nat) : Int32 := match o with
  | none => -1
  | some v => nI v
def oom_ (o : Option Nat) : Nat := match o with
  | none => 0
  | some v => v
def ok1_ (O : List od_) : Prop := O.length ≤ 6 ∧ ∀ o ∈ O, o.1 < 100 ∧ ∀ k v, o.2.1 k = some v → v ≤ 999
def oc1_ (O : List od_) (m : fm_) : Prop := gi_ m 30 1 = nI O.length ∧ ∀ j o, O[j]? = some o → gi_ m (32 + 6 * j) 0 = nI o.1 ∧ ∀ k, k < 10 → gi_ m (32 + 6 * j + 4) k = ooc_ (o.2.1 k)
def om1_ (O : List od_) (m : fm_) : Prop := gi_ m 106 33 = nI O.length ∧ ∀ j o, O[j]? = some o → gi_ m 132 j = nI o.1 ∧ ∀ k, k < 10 → gi_ m 128 (10 * j + k) = nI (oom_ (o.2.1 k))
theorem dyo_s {O : List od_} {j : Nat} {o : od_} (h : O[j]? = some o) : dyo_ O j = o.1 := by unfold dyo_; simp only [h]
theorem dyo_c {O : List od_} {m : fm_} (h : oc1_ O m) {j : Nat} (hj : j < O.length) : gi_ m (32 + 6 * j) 0 = nI (dyo_ O j) := by
  have e := List.getElem?_eq_getElem hj
  rw [dyo_s e]
  exact (h.2 j _ e).1
theorem dyo_m {O : List od_} {m : fm_} (h : om1_ O m) {j : Nat} (hj : j < O.length) : gi_ m 132 j = nI (dyo_ O j) := by
  have e := List.getElem?_eq_getElem hj
  rw [dyo_s e]
  exact (h.2 j _ e).1
theorem dyo_lt {O : List od_} (h : ok1_ O) {j : Nat} (hj : j < O.length) : dyo_ O j < 100 := by
  have e := List.getElem?_eq_getElem hj
  rw [dyo_s e]
  exact (h.2 _ (List.getElem_mem hj)).1
theorem inf_c {O : List od_} {m : fm_} (hO : ok1_ O) (h : oc1_ O m) {d : Nat} (hd : d < 100) : f_X3_inForce (nI d) m = some (oof_ (inf_ O d O.length), m) := by
  have hl := hO.1
  obtain ⟨x, e, hx⟩ := lp0_ (n := O.length) (F := fun i x => f_X3_inForce_4 (nI d) x (nI i) m) (I := fun i x => x = oof_ (inf_ O d i)) (fun i x hi hx => by
    have hx : x = oof_ (inf_ O d i) := hx
    subst hx
    have g1 := dyo_c h hi
    have b1 := dyo_lt hO hi
    show ∃ s', f_X3_inForce_4 (nI d) (oof_ (inf_ O d i)) (nI i) m = f_X3_inForce_4 (nI d) s' (nI (i + 1)) m ∧ s' = oof_ (infn_ O d i (inf_ O d i))
    rw [e_X3_inForce_4]
    unfold infn_
    cases hb : inf_ O d i with
    | none =>
      have e0 : oof_ none = none := rfl
      by_cases c : d < dyo_ O i
      · simp (disch := omega) only [↓reduceIte, ↓ns_m1, ns_let, ns_lef, ns_ltt, ns_ltf, ns_eqt, ns_eqf, ns_gd, nI_clamp, nI_add, pk_sub, pk_mul, ns_m1a, ns_m1b, ns_m1c, ns_m1d, ns_m1e, ns_m1f, ns_m1g, ns_un1, ns_un0, ns_day1, Option.bind_some, gi_si_self, gi_si_ne, gl_si, gi_sl, gl_sl_self, gl_sl_ne, if_true, if_false, ns_i0, ns_i1, ns_i2, ns_i3, ns_i4, ns_i5, ns_i6, ns_i7, ns_i8, ns_i9, ns_i10, ns_i11, ns_i12, ns_i13, ns_i20, ns_i23, ns_i24, ns_i31, ns_i50, ns_i60, ns_i99, ns_i100, ns_i144, ns_i200, ns_i255, ns_i700, ns_i880, ns_i899, ns_i900, ns_i901, ns_i999, ns_i1000, ns_i1440, ns_i4095, ns_i1000000, e0, om_n, h.1, g1, c]
        exact ⟨_, rfl, rfl⟩
      · simp (disch := omega) only [↓reduceIte, ↓ns_m1, ns_let, ns_lef, ns_ltt, ns_ltf, ns_eqt, ns_eqf, ns_gd, nI_clamp, nI_add, pk_sub, pk_mul, ns_m1a, ns_m1b, ns_m1c, ns_m1d, ns_m1e, ns_m1f, ns_m1g, ns_un1, ns_un0, ns_day1, Option.bind_some, gi_si_self, gi_si_ne, gl_si, gi_sl, gl_sl_self, gl_sl_ne, if_true, if_false, ns_i0, ns_i1, ns_i2, ns_i3, ns_i4, ns_i5, ns_i6, ns_i7, ns_i8, ns_i9, ns_i10, ns_i11, ns_i12, ns_i13, ns_i20, ns_i23, ns_i24, ns_i31, ns_i50, ns_i60, ns_i99, ns_i100, ns_i144, ns_i200, ns_i255, ns_i700, ns_i880, ns_i899, ns_i900, ns_i901, ns_i999, ns_i1000, ns_i1440, ns_i4095, ns_i1000000, e0, om_n, h.1, g1, c]
        exact ⟨_, rfl, rfl⟩
    | some j =>
      have e0 : oof_ (some j) = some (32 + 6 * j) := rfl
      have hj := (inf_u _ _ hb).1
      have g2 := dyo_c h (show j < O.length by omega)
      have b2 := dyo_lt hO (show j < O.length by omega)
      by_cases c : d < dyo_ O i
      · simp (disch := omega) only [↓reduceIte, ↓ns_m1, ns_let, ns_lef, ns_ltt, ns_ltf, ns_eqt, ns_eqf, ns_gd, nI_clamp, nI_add, pk_sub, pk_mul, ns_m1a, ns_m1b, ns_m1c, ns_m1d, ns_m1e, ns_m1f, ns_m1g, ns_un1, ns_un0, ns_day1, Option.bind_some, gi_si_self, gi_si_ne, gl_si, gi_sl, gl_sl_self, gl_sl_ne, if_true, if_false, ns_i0, ns_i1, ns_i2, ns_i3, ns_i4, ns_i5, ns_i6, ns_i7, ns_i8, ns_i9, ns_i10, ns_i11, ns_i12, ns_i13, ns_i20, ns_i23, ns_i24, ns_i31, ns_i50, ns_i60, ns_i99, ns_i100, ns_i144, ns_i200, ns_i255, ns_i700, ns_i880, ns_i899, ns_i900, ns_i901, ns_i999, ns_i1000, ns_i1440, ns_i4095, ns_i1000000, e0, om_s, h.1, g1, g2, c]
        exact ⟨_, rfl, rfl⟩
      · by_cases c2 : dyo_ O i < dyo_ O j
        · simp (disch := omega) only [↓reduceIte, ↓ns_m1, ns_let, ns_lef, ns_ltt, ns_ltf, ns_eqt, ns_eqf, ns_gd, nI_clamp, nI_add, pk_sub, pk_mul, ns_m1a, ns_m1b, ns_m1c, ns_m1d, ns_m1e, ns_m1f, ns_m1g, ns_un1, ns_un0, ns_day1, Option.bind_some, gi_si_self, gi_si_ne, gl_si, gi_sl, gl_sl_self, gl_sl_ne, if_true, if_false, ns_i0, ns_i1, ns_i2, ns_i3, ns_i4, ns_i5, ns_i6, ns_i7, ns_i8, ns_i9, ns_i10, ns_i11, ns_i12, ns_i13, ns_i20, ns_i23, ns_i24, ns_i31, ns_i50, ns_i60, ns_i99, ns_i100, ns_i144, ns_i200, ns_i255, ns_i700, ns_i880, ns_i899, ns_i900, ns_i901, ns_i999, ns_i1000, ns_i1440, ns_i4095, ns_i1000000, e0, om_s, h.1, g1, g2, c, c2]
          exact ⟨_, rfl, rfl⟩
        · simp (disch := omega) only [↓reduceIte, ↓ns_m1, ns_let, ns_lef, ns_ltt, ns_ltf, ns_eqt, ns_eqf, ns_gd, nI_clamp, nI_add, pk_sub, pk_mul, ns_m1a, ns_m1b, ns_m1c, ns_m1d, ns_m1e, ns_m1f, ns_m1g, ns_un1, ns_un0, ns_day1, Option.bind_some, gi_si_self, gi_si_ne, gl_si, gi_sl, gl_sl_self, gl_sl_ne, if_true, if_false, ns_i0, ns_i1, ns_i2, ns_i3, ns_i4, ns_i5, ns_i6, ns_i7, ns_i8, ns_i9, ns_i10, ns_i11, ns_i12, ns_i13, ns_i20, ns_i23, ns_i24, ns_i31, ns_i50, ns_i60, ns_i99, ns_i100, ns_i144, ns_i200, ns_i255, ns_i700, ns_i880, ns_i899, ns_i900, ns_i901, ns_i999, ns_i1000, ns_i1440, ns_i4095, ns_i1000000, e0, om_s, h.1, g1, g2, c, c2]
          exact ⟨_, rfl, rfl⟩) (s := none) rfl
  have hx : x = oof_ (inf_ O d O.length) := hx
  have e : f_X3_inForce_4 (nI d) none (nI 0) m = f_X3_inForce_4 (nI d) x (nI O.length) m := e
  show f_X3_inForce_4 (nI d) none (nI 0) m = _
  rw [e, e_X3_inForce_4, ← hx]
  cases x with
  | none => simp (disch := omega) only [↓reduceIte, ↓ns_m1, ns_let, ns_lef, ns_ltt, ns_ltf, ns_eqt, ns_eqf, ns_gd, nI_clamp, nI_add, pk_sub, pk_mul, ns_m1a, ns_m1b, ns_m1c, ns_m1d, ns_m1e, ns_m1f, ns_m1g, ns_un1, ns_un0, ns_day1, Option.bind_some, gi_si_self, gi_si_ne, gl_si, gi_sl, gl_sl_self, gl_sl_ne, if_true, if_false, ns_i0, ns_i1, ns_i2, ns_i3, ns_i4, ns_i5, ns_i6, ns_i7, ns_i8, ns_i9, ns_i10, ns_i11, ns_i12, ns_i13, ns_i20, ns_i23, ns_i24, ns_i31, ns_i50, ns_i60, ns_i99, ns_i100, ns_i144, ns_i200, ns_i255, ns_i700, ns_i880, ns_i899, ns_i900, ns_i901, ns_i999, ns_i1000, ns_i1440, ns_i4095, ns_i1000000, om_n, h.1]
  | some o => simp (disch := omega) only [↓reduceIte, ↓ns_m1, ns_let, ns_lef, ns_ltt, ns_ltf, ns_eqt, ns_eqf, ns_gd, nI_clamp, nI_add, pk_sub, pk_mul, ns_m1a, ns_m1b, ns_m1c, ns_m1d, ns_m1e, ns_m1f, ns_m1g, ns_un1, ns_un0, ns_day1, Option.bind_some, gi_si_self, gi_si_ne, gl_si, gi_sl, gl_sl_self, gl_sl_ne, if_true, if_false, ns_i0, ns_i1, ns_i2, ns_i3, ns_i4, ns_i5, ns_i6, ns_i7, ns_i8, ns_i9, ns_i10, ns_i11, ns_i12, ns_i13, ns_i20, ns_i23, ns_i24, ns_i31, ns_i50, ns_i60, ns_i99, ns_i100, ns_i144, ns_i200, ns_i255, ns_i700, ns_i880, ns_i899, ns_i900, ns_i901, ns_i999, ns_i1000, ns_i1440, ns_i4095, ns_i1000000, om_s, h.1]
theorem inf_m {O : List od_} {m : fm_} (hO : ok1_ O) (h : om1_ O m) {d : Nat} (hd : d < 100) : f_X12_inForce (nI d) m = some (en1_ (inf_ O d O.length), m) := by
  have hl := hO.1
  obtain ⟨x, e, hx⟩ := lp0_ (n := O.length) (F := fun i x => f_X12_inForce_4 (nI d) x (nI i) m) (I := fun i x => x = en1_ (inf_ O d i)) (fun i x hi hx => by
    have hx : x = en1_ (inf_ O d i) := hx
    subst hx
    have g1 := dyo_m h hi
    have b1 := dyo_lt hO hi
    show ∃ s', f_X12_inForce_4 (nI d) (en1_ (inf_ O d i)) (nI i) m = f_X12_inForce_4 (nI d) s' (nI (i + 1)) m ∧ s' = en1_ (infn_ O d i (inf_ O d i))
    rw [e_X12_inForce_4]
    unfold infn_
    cases hb : inf_ O d i with
    | none =>
      have e0 : en1_ none = -1 := rfl
      by_cases c : d < dyo_ O i
      · simp (disch := omega) only [↓reduceIte, ↓ns_m1, ns_let, ns_lef, ns_ltt, ns_ltf, ns_eqt, ns_eqf, ns_gd, nI_clamp, nI_add, pk_sub, pk_mul, ns_m1a, ns_m1b, ns_m1c, ns_m1d, ns_m1e, ns_m1f, ns_m1g, ns_un1, ns_un0, ns_day1, Option.bind_some, gi_si_self, gi_si_ne, gl_si, gi_sl, gl_sl_self, gl_sl_ne, if_true, if_false, ns_i0, ns_i1, ns_i2, ns_i3, ns_i4, ns_i5, ns_i6, ns_i7, ns_i8, ns_i9, ns_i10, ns_i11, ns_i12, ns_i13, ns_i20, ns_i23, ns_i24, ns_i31, ns_i50, ns_i60, ns_i99, ns_i100, ns_i144, ns_i200, ns_i255, ns_i700, ns_i880, ns_i899, ns_i900, ns_i901, ns_i999, ns_i1000, ns_i1440, ns_i4095, ns_i1000000, e0, h.1, g1, c]
        exact ⟨_, rfl, rfl⟩
      · simp (disch := omega) only [↓reduceIte, ↓ns_m1, ns_let, ns_lef, ns_ltt, ns_ltf, ns_eqt, ns_eqf, ns_gd, nI_clamp, nI_add, pk_sub, pk_mul, ns_m1a, ns_m1b, ns_m1c, ns_m1d, ns_m1e, ns_m1f, ns_m1g, ns_un1, ns_un0, ns_day1, Option.bind_some, gi_si_self, gi_si_ne, gl_si, gi_sl, gl_sl_self, gl_sl_ne, if_true, if_false, ns_i0, ns_i1, ns_i2, ns_i3, ns_i4, ns_i5, ns_i6, ns_i7, ns_i8, ns_i9, ns_i10, ns_i11, ns_i12, ns_i13, ns_i20, ns_i23, ns_i24, ns_i31, ns_i50, ns_i60, ns_i99, ns_i100, ns_i144, ns_i200, ns_i255, ns_i700, ns_i880, ns_i899, ns_i900, ns_i901, ns_i999, ns_i1000, ns_i1440, ns_i4095, ns_i1000000, e0, h.1, g1, c]
        exact ⟨_, rfl, rfl⟩
    | some j =>
      have e0 : en1_ (some j) = nI j := rfl
      have hj := (inf_u _ _ hb).1
      have g2 := dyo_m h (show j < O.length by omega)
      have b2 := dyo_lt hO (show j < O.length by omega)
      by_cases c : d < dyo_ O i
      · simp (disch := omega) only [↓reduceIte, ↓ns_m1, ns_let, ns_lef, ns_ltt, ns_ltf, ns_eqt, ns_eqf, ns_gd, nI_clamp, nI_add, pk_sub, pk_mul, ns_m1a, ns_m1b, ns_m1c, ns_m1d, ns_m1e, ns_m1f, ns_m1g, ns_un1, ns_un0, ns_day1, Option.bind_some, gi_si_self, gi_si_ne, gl_si, gi_sl, gl_sl_self, gl_sl_ne, if_true, if_false, ns_i0, ns_i1, ns_i2, ns_i3, ns_i4, ns_i5, ns_i6, ns_i7, ns_i8, ns_i9, ns_i10, ns_i11, ns_i12, ns_i13, ns_i20, ns_i23, ns_i24, ns_i31, ns_i50, ns_i60, ns_i99, ns_i100, ns_i144, ns_i200, ns_i255, ns_i700, ns_i880, ns_i899, ns_i900, ns_i901, ns_i999, ns_i1000, ns_i1440, ns_i4095, ns_i1000000, e0, h.1, g1, g2, c]
        exact ⟨_, rfl, rfl⟩
      · by_cases c2 : dyo_ O i < dyo_ O j
        · simp (disch := omega) only [↓reduceIte, ↓ns_m1, ns_let, ns_lef, ns_ltt, ns_ltf, ns_eqt, ns_eqf, ns_gd, nI_clamp, nI_add, pk_sub, pk_mul, ns_m1a, ns_m1b, ns_m1c, ns_m1d, ns_m1e, ns_m1f, ns_m1g, ns_un1, ns_un0, ns_day1, Option.bind_some, gi_si_self, gi_si_ne, gl_si, gi_sl, gl_sl_self, gl_sl_ne, if_true, if_false, ns_i0, ns_i1, ns_i2, ns_i3, ns_i4, ns_i5, ns_i6, ns_i7, ns_i8, ns_i9, ns_i10, ns_i11, ns_i12, ns_i13, ns_i20, ns_i23, ns_i24, ns_i31, ns_i50, ns_i60, ns_i99, ns_i100, ns_i144, ns_i200, ns_i255, ns_i700, ns_i880, ns_i899, ns_i900, ns_i901, ns_i999, ns_i1000, ns_i1440, ns_i4095, ns_i1000000, e0, h.1, g1, g2, c, c2]
          exact ⟨_, rfl, rfl⟩
        · simp (disch := omega) only [↓reduceIte, ↓ns_m1, ns_let, ns_lef, ns_ltt, ns_ltf, ns_eqt, ns_eqf, ns_gd, nI_clamp, nI_add, pk_sub, pk_mul, ns_m1a, ns_m1b, ns_m1c, ns_m1d, ns_m1e, ns_m1f, ns_m1g, ns_un1, ns_un0, ns_day1, Option.bind_some, gi_si_self, gi_si_ne, gl_si, gi_sl, gl_sl_self, gl_sl_ne, if_true, if_false, ns_i0, ns_i1, ns_i2, ns_i3, ns_i4, ns_i5, ns_i6, ns_i7, ns_i8, ns_i9, ns_i10, ns_i11, ns_i12, ns_i13, ns_i20, ns_i23, ns_i24, ns_i31, ns_i50, ns_i60, ns_i99, ns_i100, ns_i144, ns_i200, ns_i255, ns_i700, ns_i880, ns_i899, ns_i900, ns_i901, ns_i999, ns_i1000, ns_i1440, ns_i4095, ns_i1000000, e0, h.1, g1, g2, c, c2]
          exact ⟨_, rfl, rfl⟩) (s := -1) rfl
  have hx : x = en1_ (inf_ O d O.length) := hx
  have e : f_X12_inForce_4 (nI d) (-1) (nI 0) m = f_X12_inForce_4 (nI d) x (nI O.length) m := e
  show f_X12_inForce_4 (nI d) (-1) (nI 0) m = _
  rw [e, e_X12_inForce_4, ← hx]
  simp (disch := omega) only [↓reduceIte, ↓ns_m1, ns_let, ns_lef, ns_ltt, ns_ltf, ns_eqt, ns_eqf, ns_gd, nI_clamp, nI_add, pk_sub, pk_mul, ns_m1a, ns_m1b, ns_m1c, ns_m1d, ns_m1e, ns_m1f, ns_m1g, ns_un1, ns_un0, ns_day1, Option.bind_some, gi_si_self, gi_si_ne, gl_si, gi_sl, gl_sl_self, gl_sl_ne, if_true, if_false, ns_i0, ns_i1, ns_i2, ns_i3, ns_i4, ns_i5, ns_i6, ns_i7, ns_i8, ns_i9, ns_i10, ns_i11, ns_i12, ns_i13, ns_i20, ns_i23, ns_i24, ns_i31, ns_i50, ns_i60, ns_i99, ns_i100, ns_i144, ns_i200, ns_i255, ns_i700, ns_i880, ns_i899, ns_i900, ns_i901, ns_i999, ns_i1000, ns_i1440, ns_i4095, ns_i1000000, h.1]
/-- the charge of a class on a day -/
def chg_ (O : List od_) (d k : Nat) : Nat := match inf_ O d O.length with
  | none => 0
  | some j => match O[j]? with
    | none => 0
    | some o => oom_ (o.2.1 k)
theorem chg_b {O : List od_} (hO : ok1_ O) (d k : Nat) : chg_ O d k ≤ 999 := by
  unfold chg_
  cases inf_ O d O.length with
  | none => exact Nat.zero_le _
  | some j =>
    simp only
    cases e : O[j]? with
    | none => exact Nat.zero_le _
    | some o =>
      simp only
      unfold oom_
      cases e2 : o.2.1 k with
      | none => exact Nat.zero_le _
      | some v => exact (hO.2 o (List.mem_of_getElem? e)).2 k v e2
theorem isO_ {j : Nat} (hj : j < 6) : is_O (32 + 6 * j) = true := by
  have : ∀ j, j < 6 → is_O (32 + 6 * j) = true := by decide
  exact this j hj
theorem chg_c {O : List od_} {m : fm_} (hO : ok1_ O) (h : oc1_ O m) {d k : Nat} (hd : d < 100) (hk : k < 10) : f_X3_chargeOn (nI d) (nI k) m = some (nI (chg_ O d k), m) := by
  have hl := hO.1
  unfold f_X3_chargeOn chg_
  rw [inf_c hO h hd]
  simp only [Option.bind_some]
  cases hb : inf_ O d O.length with
  | none => rfl
  | some j =>
    have hj := (inf_u _ _ hb).1
    have e := List.getElem?_eq_getElem hj
    generalize O[j] = o at e
    have g := (h.2 j o e).2 k hk
    simp only [e]
    show gd_ (is_O (32 + 6 * j)) _ = _
    rw [gd_t (isO_ (by omega))]
    unfold f_X4_chargeOf
    cases e2 : o.2.1 k with
    | none =>
      rw [e2] at g
      have g : gi_ m (32 + 6 * j + 4) k = -1 := g
      simp (disch := omega) only [↓reduceIte, ↓ns_m1, ns_let, ns_lef, ns_ltt, ns_ltf, ns_eqt, ns_eqf, ns_gd, nI_clamp, nI_add, pk_sub, pk_mul, ns_m1a, ns_m1b, ns_m1c, ns_m1d, ns_m1e, ns_m1f, ns_m1g, ns_un1, ns_un0, ns_day1, Option.bind_some, gi_si_self, gi_si_ne, gl_si, gi_sl, gl_sl_self, gl_sl_ne, if_true, if_false, ns_i0, ns_i1, ns_i2, ns_i3, ns_i4, ns_i5, ns_i6, ns_i7, ns_i8, ns_i9, ns_i10, ns_i11, ns_i12, ns_i13, ns_i20, ns_i23, ns_i24, ns_i31, ns_i50, ns_i60, ns_i99, ns_i100, ns_i144, ns_i200, ns_i255, ns_i700, ns_i880, ns_i899, ns_i900, ns_i901, ns_i999, ns_i1000, ns_i1440, ns_i4095, ns_i1000000, g]
      rfl
    | some v =>
      rw [e2] at g
      have g : gi_ m (32 + 6 * j + 4) k = nI v := g
      have b := (hO.2 o (List.mem_of_getElem? e)).2 k v e2
      have e3 : oom_ (some v) = v := rfl
      have e4 : max v 0 = v := by omega
      simp (disch := omega) only [↓reduceIte, ↓ns_m1, ns_let, ns_lef, ns_ltt, ns_ltf, ns_eqt, ns_eqf, ns_gd, nI_clamp, nI_add, pk_sub, pk_mul, ns_m1a, ns_m1b, ns_m1c, ns_m1d, ns_m1e, ns_m1f, ns_m1g, ns_un1, ns_un0, ns_day1, Option.bind_some, gi_si_self, gi_si_ne, gl_si, gi_sl, gl_sl_self, gl_sl_ne, if_true, if_false, ns_i0, ns_i1, ns_i2, ns_i3, ns_i4, ns_i5, ns_i6, ns_i7, ns_i8, ns_i9, ns_i10, ns_i11, ns_i12, ns_i13, ns_i20, ns_i23, ns_i24, ns_i31, ns_i50, ns_i60, ns_i99, ns_i100, ns_i144, ns_i200, ns_i255, ns_i700, ns_i880, ns_i899, ns_i900, ns_i901, ns_i999, ns_i1000, ns_i1440, ns_i4095, ns_i1000000, g, ns_mx, e3, e4]
/-! ===== between ===== -/
def sbt_ (W : List (Nat × Nat × Nat)) (x y : Int32) : Int32 := match nat_ x 12, nat_ y 12 with
  | some a, some b => if ner_ W a b < 1000000 then nI (ner_ W a b) else -1
  | _, _ => -1
theorem at_no {c : Nat} {x y : Int32} (m : fm_) (h : nat_ x 12 = none ∨ nat_ y 12 = none) : f_X9_at c x y m = some (1000000, m) := by
  unfold f_X9_at
  rcases nat_ix x (n := 12) (by omega) with ⟨e, q | ⟨q, q2⟩⟩ | ⟨a, ha, rfl, e, q, q2⟩
  · rw [if_pos q]
  · rw [if_neg q, if_pos (show (12 : Int32) ≤ x from q2)]
  · rcases h with h | h
    · rw [h] at e; cases e
    · rw [if_neg q, if_neg (show ¬ (12 : Int32) ≤ nI a from q2)]
      rcases nat_ix y (n := 12) (by omega) with ⟨e, q | ⟨q, q2⟩⟩ | ⟨b, hb, rfl, e, q, q2⟩
      · rw [if_pos q]
      · rw [if_neg q, if_pos (show (12 : Int32) ≤ y from q2)]
      · rw [h] at e; cases e
theorem lt_far_f : ¬ (1000000 : Int32) < 1000000 := by decide
theorem bet_c {W : List (Nat × Nat × Nat)} (hW : wok_ W) {m : fm_} (h : tb_ (ner_ W) 14 m) (x y : Int32) : f_X11_between x y m = some (sbt_ W x y, m) := by
  unfold f_X11_between f_X9_near sbt_
  rcases nat_ix x (n := 12) (by omega) with ⟨e, _⟩ | ⟨a, ha, rfl, e, -⟩
  · rw [at_no m (Or.inl e), e]; simp only [Option.bind_some, if_neg lt_far_f] <;> rfl
  rcases nat_ix y (n := 12) (by omega) with ⟨e2, _⟩ | ⟨b, hb, rfl, e2, -⟩
  · rw [at_no m (Or.inr e2), e, e2]; simp only [Option.bind_some, if_neg lt_far_f] <;> rfl
  rw [at_ h ha hb, e, e2]
  have := ner_far hW a b
  by_cases c : ner_ W a b < 1000000
  · simp (disch := omega) only [↓reduceIte, ↓ns_m1, ns_let, ns_lef, ns_ltt, ns_ltf, ns_eqt, ns_eqf, ns_gd, nI_clamp, nI_add, pk_sub, pk_mul, ns_m1a, ns_m1b, ns_m1c, ns_m1d, ns_m1e, ns_m1f, ns_m1g, ns_un1, ns_un0, ns_day1, Option.bind_some, gi_si_self, gi_si_ne, gl_si, gi_sl, gl_sl_self, gl_sl_ne, if_true, if_false, ns_i0, ns_i1, ns_i2, ns_i3, ns_i4, ns_i5, ns_i6, ns_i7, ns_i8, ns_i9, ns_i10, ns_i11, ns_i12, ns_i13, ns_i20, ns_i23, ns_i24, ns_i31, ns_i50, ns_i60, ns_i99, ns_i100, ns_i144, ns_i200, ns_i255, ns_i700, ns_i880, ns_i899, ns_i900, ns_i901, ns_i999, ns_i1000, ns_i1440, ns_i4095, ns_i1000000, c]
  · simp (disch := omega) only [↓reduceIte, ↓ns_m1, ns_let, ns_lef, ns_ltt, ns_ltf, ns_eqt, ns_eqf, ns_gd, nI_clamp, nI_add, pk_sub, pk_mul, ns_m1a, ns_m1b, ns_m1c, ns_m1d, ns_m1e, ns_m1f, ns_m1g, ns_un1, ns_un0, ns_day1, Option.bind_some, gi_si_self, gi_si_ne, gl_si, gi_sl, gl_sl_self, gl_sl_ne, if_true, if_false, ns_i0, ns_i1, ns_i2, ns_i3, ns_i4, ns_i5, ns_i6, ns_i7, ns_i8, ns_i9, ns_i10, ns_i11, ns_i12, ns_i13, ns_i20, ns_i23, ns_i24, ns_i31, ns_i50, ns_i60, ns_i99, ns_i100, ns_i144, ns_i200, ns_i255, ns_i700, ns_i880, ns_i899, ns_i900, ns_i901, ns_i999, ns_i1000, ns_i1440, ns_i4095, ns_i1000000, c]
theorem isp12_m (x : Int32) (m : fm_) : f_X12_isPoint x m = some (bu_ x 12, m) := by
  unfold f_X12_isPoint bu_ nat_
  by_cases h1 : x < 0
  · rw [if_pos h1, if_pos h1]; rfl
  · rw [if_neg h1, if_neg h1]
    by_cases h2 : 12 ≤ x
    · rw [if_pos h2, if_pos (show nI 12 ≤ x from h2)]; rfl
    · rw [if_neg h2, if_neg (show ¬ nI 12 ≤ x from h2)]; rfl
theorem bet_m {W : List (Nat × Nat × Nat)} (hW : wok_ W) {m : fm_} (h : tb_ (ner_ W) 120 m) (x y : Int32) : f_X12_between x y m = some (sbt_ W x y, m) := by
  unfold f_X12_between sbt_
  rw [isp12_m]
  simp only [Option.bind_some]
  rcases nat_ix x (n := 12) (by omega) with ⟨e, _⟩ | ⟨a, ha, rfl, e, -⟩
  · rw [if_pos (bu_0 e), e]
  rw [if_neg (bu_ne e), e, isp12_m]
  simp only [Option.bind_some]
  rcases nat_ix y (n := 12) (by omega) with ⟨e2, _⟩ | ⟨b, hb, rfl, e2, -⟩
  · rw [if_pos (bu_0 e2), e2]
  rw [if_neg (bu_ne e2), e2]
  have := ner_far hW a b
  have t := tb_c h ha hb
  by_cases c : ner_ W a b < 1000000
  · simp (disch := omega) only [↓reduceIte, ↓ns_m1, ns_let, ns_lef, ns_ltt, ns_ltf, ns_eqt, ns_eqf, ns_gd, nI_clamp, nI_add, pk_sub, pk_mul, ns_m1a, ns_m1b, ns_m1c, ns_m1d, ns_m1e, ns_m1f, ns_m1g, ns_un1, ns_un0, ns_day1, Option.bind_some, gi_si_self, gi_si_ne, gl_si, gi_sl, gl_sl_self, gl_sl_ne, if_true, if_false, ns_i0, ns_i1, ns_i2, ns_i3, ns_i4, ns_i5, ns_i6, ns_i7, ns_i8, ns_i9, ns_i10, ns_i11, ns_i12, ns_i13, ns_i20, ns_i23, ns_i24, ns_i31, ns_i50, ns_i60, ns_i99, ns_i100, ns_i144, ns_i200, ns_i255, ns_i700, ns_i880, ns_i899, ns_i900, ns_i901, ns_i999, ns_i1000, ns_i1440, ns_i4095, ns_i1000000, t, c]
  · simp (disch := omega) only [↓reduceIte, ↓ns_m1, ns_let, ns_lef, ns_ltt, ns_ltf, ns_eqt, ns_eqf, ns_gd, nI_clamp, nI_add, pk_sub, pk_mul, ns_m1a, ns_m1b, ns_m1c, ns_m1d, ns_m1e, ns_m1f, ns_m1g, ns_un1, ns_un0, ns_day1, Option.bind_some, gi_si_self, gi_si_ne, gl_si, gi_sl, gl_sl_self, gl_sl_ne, if_true, if_false, ns_i0, ns_i1, ns_i2, ns_i3, ns_i4, ns_i5, ns_i6, ns_i7, ns_i8, ns_i9, ns_i10, ns_i11, ns_i12, ns_i13, ns_i20, ns_i23, ns_i24, ns_i31, ns_i50, ns_i60, ns_i99, ns_i100, ns_i144, ns_i200, ns_i255, ns_i700, ns_i880, ns_i899, ns_i900, ns_i901, ns_i999, ns_i1000, ns_i1440, ns_i4095, ns_i1000000, t, c]
