/-! ===== how many bits ===== -/
def popn_ (s : Nat) : Nat → Nat
  | 0 => 0
  | n + 1 => popn_ s n + bb_ s n
def pop_ (s : Nat) : Nat := popn_ s 12
theorem popn_b (s : Nat) : ∀ n, popn_ s n ≤ n
  | 0 => Nat.le_refl _
  | n + 1 => by
    have := popn_b s n
    have := bb_lt s n
    unfold popn_
    omega
def m0_ : fm_ := (fun _ _ => 0, fun _ _ => 0)
theorem bc_m (x : Int32) (m : fm_) : f_J6_bitCount_0f7a4 x m = (f_J6_bitCount_0f7a4 x m0_).map fun q => (q.1, m) := rfl
set_option maxRecDepth 100000 in
theorem bc_all : ∀ u, u < 64 → ∀ v, v < 64 → (f_J6_bitCount_0f7a4 (nI (64 * u + v)) m0_).map Prod.fst = some (nI (pop_ (64 * u + v))) := by decide +kernel
theorem bc_ {s : Nat} (hs : s < 4096) (m : fm_) : f_J6_bitCount_0f7a4 (nI s) m = some (nI (pop_ s), m) := by
  have := bc_all (s / 64) (by omega) (s % 64) (by omega)
  rw [show 64 * (s / 64) + s % 64 = s by omega] at this
  rw [bc_m]
  cases e : f_J6_bitCount_0f7a4 (nI s) m0_ with
  | none => rw [e] at this; cases this
  | some q =>
    rw [e] at this
    have e1 : q.1 = nI (pop_ s) := Option.some.inj this
    show some (q.1, m) = _
    rw [e1]
theorem bits_m {s : Nat} (hs : s < 4096) (m : fm_) : f_X12_bitsOf (nI s) m = some (nI (pop_ s), m) := by
  obtain ⟨x, e, hx⟩ := lp0_ (n := 12) (F := fun i x => f_X12_bitsOf_4 (nI s) x (nI i) m) (I := fun i x => x = nI (popn_ s i)) (fun i x hi hx => by
    have hx : x = nI (popn_ s i) := hx
    subst hx
    have hb := popn_b s i
    show ∃ s', f_X12_bitsOf_4 (nI s) (nI (popn_ s i)) (nI i) m = f_X12_bitsOf_4 (nI s) s' (nI (i + 1)) m ∧ s' = nI (popn_ s i + bb_ s i)
    rw [e_X12_bitsOf_4]
    simp (disch := omega) only [↓reduceIte, ↓ns_m1, ns_let, ns_lef, ns_ltt, ns_ltf, ns_eqt, ns_eqf, ns_gd, nI_clamp, nI_add, pk_sub, pk_mul, ns_m1a, ns_m1b, ns_m1c, ns_m1d, ns_m1e, ns_m1f, ns_m1g, ns_un1, ns_un0, ns_day1, Option.bind_some, gi_si_self, gi_si_ne, gl_si, gi_sl, gl_sl_self, gl_sl_ne, if_true, if_false, ns_i0, ns_i1, ns_i2, ns_i3, ns_i4, ns_i5, ns_i6, ns_i7, ns_i8, ns_i9, ns_i10, ns_i11, ns_i12, ns_i13, ns_i20, ns_i23, ns_i24, ns_i31, ns_i50, ns_i60, ns_i99, ns_i100, ns_i144, ns_i200, ns_i255, ns_i700, ns_i880, ns_i899, ns_i900, ns_i901, ns_i999, ns_i1000, ns_i1440, ns_i4095, ns_i1000000, ns_bb]
    exact ⟨_, rfl, rfl⟩) (s := nI 0) rfl
  have hx : x = nI (pop_ s) := hx
  have e : f_X12_bitsOf_4 (nI s) (nI 0) (nI 0) m = f_X12_bitsOf_4 (nI s) x (nI 12) m := e
  show f_X12_bitsOf_4 (nI s) (nI 0) (nI 0) m = _
  rw [e, e_X12_bitsOf_4, hx]
  simp (disch := omega) only [↓reduceIte, ↓ns_m1, ns_let, ns_lef, ns_ltt, ns_ltf, ns_eqt, ns_eqf, ns_gd, nI_clamp, nI_add, pk_sub, pk_mul, ns_m1a, ns_m1b, ns_m1c, ns_m1d, ns_m1e, ns_m1f, ns_m1g, ns_un1, ns_un0, ns_day1, Option.bind_some, gi_si_self, gi_si_ne, gl_si, gi_sl, gl_sl_self, gl_sl_ne, if_true, if_false, ns_i0, ns_i1, ns_i2, ns_i3, ns_i4, ns_i5, ns_i6, ns_i7, ns_i8, ns_i9, ns_i10, ns_i11, ns_i12, ns_i13, ns_i20, ns_i23, ns_i24, ns_i31, ns_i50, ns_i60, ns_i99, ns_i100, ns_i144, ns_i200, ns_i255, ns_i700, ns_i880, ns_i899, ns_i900, ns_i901, ns_i999, ns_i1000, ns_i1440, ns_i4095, ns_i1000000]
/-! ===== who goes around ===== -/
theorem and_lt {a b k : Nat} (h : a < k) : a &&& b < k := Nat.lt_of_le_of_lt Nat.and_le_left h
/-- the points of a trip's route -/
def mk1_ (W : List (Nat × Nat × Nat)) (z : Nat) (O : List od_) (q : Nat × Nat × Nat × Nat × Nat) (d : Nat) (b : Bool) : Nat := msk_ (q.1 :: rtl_ W z O q d b)
theorem mk1_lt {W : List (Nat × Nat × Nat)} {z : Nat} {O : List od_} {q : Nat × Nat × Nat × Nat × Nat} {d : Nat} {b : Bool} (hq : q.1 < 12) : mk1_ W z O q d b < 4096 := msk_lt (rtl_12 hq).2
theorem gone_ {V : List Nat} {m : fm_} (h : pth_ V m) (h12 : V.length ≤ 12) (hx : ∀ x ∈ V, x < 12) : f_X12_gone m = some (nI (msk_ V), m) := by
  have key : ∀ (r : List Nat) (j acc : Nat), V.drop j = r → j ≤ 12 → acc < 2 ^ 12 → f_X12_gone_4 (nI acc) (nI j) m = some (nI (r.foldl (fun s p => s ||| 2 ^ p) acc), m) := by
    intro r
    induction r with
    | nil =>
      intro j acc hr hj ha
      have : V.length ≤ j := by
        have := congrArg List.length hr
        rw [List.length_drop, List.length_nil] at this
        omega
      rw [e_X12_gone_4]
      simp (disch := omega) only [↓reduceIte, ↓ns_m1, ns_let, ns_lef, ns_ltt, ns_ltf, ns_eqt, ns_eqf, ns_gd, nI_clamp, nI_add, pk_sub, pk_mul, ns_m1a, ns_m1b, ns_m1c, ns_m1d, ns_m1e, ns_m1f, ns_m1g, ns_un1, ns_un0, ns_day1, Option.bind_some, gi_si_self, gi_si_ne, gl_si, gi_sl, gl_sl_self, gl_sl_ne, if_true, if_false, ns_i0, ns_i1, ns_i2, ns_i3, ns_i4, ns_i5, ns_i6, ns_i7, ns_i8, ns_i9, ns_i10, ns_i11, ns_i12, ns_i13, ns_i20, ns_i23, ns_i24, ns_i31, ns_i50, ns_i60, ns_i99, ns_i100, ns_i144, ns_i200, ns_i255, ns_i700, ns_i880, ns_i899, ns_i900, ns_i901, ns_i999, ns_i1000, ns_i1440, ns_i4095, ns_i1000000, h.1]
      rfl
    | cons y r ih =>
      intro j acc hr hj ha
      obtain ⟨h1, h2, h3⟩ := drop_s hr
      have g1 := h.2 j y h1
      have hy := hx y (List.mem_of_getElem? h1)
      have p2 := pow_12 hy
      have eo : nI acc ||| nI (2 ^ y) = nI (acc ||| 2 ^ y) := nI_or (k := 12) ha p2 (by omega)
      have ih := ih (j + 1) (acc ||| 2 ^ y) h2 (by omega) (Nat.or_lt_two_pow ha p2)
      rw [e_X12_gone_4]
      simp (disch := omega) only [↓reduceIte, ↓ns_m1, ns_let, ns_lef, ns_ltt, ns_ltf, ns_eqt, ns_eqf, ns_gd, nI_clamp, nI_add, pk_sub, pk_mul, ns_m1a, ns_m1b, ns_m1c, ns_m1d, ns_m1e, ns_m1f, ns_m1g, ns_un1, ns_un0, ns_day1, Option.bind_some, gi_si_self, gi_si_ne, gl_si, gi_sl, gl_sl_self, gl_sl_ne, if_true, if_false, ns_i0, ns_i1, ns_i2, ns_i3, ns_i4, ns_i5, ns_i6, ns_i7, ns_i8, ns_i9, ns_i10, ns_i11, ns_i12, ns_i13, ns_i20, ns_i23, ns_i24, ns_i31, ns_i50, ns_i60, ns_i99, ns_i100, ns_i144, ns_i200, ns_i255, ns_i700, ns_i880, ns_i899, ns_i900, ns_i901, ns_i999, ns_i1000, ns_i1440, ns_i4095, ns_i1000000, h.1, g1, ns_shl, eo, ih]
      rfl
  exact key V 0 0 rfl (by omega) (by omega)
def ar1_ (W : List (Nat × Nat × Nat)) (z : Nat) (O : List od_) (q : Nat × Nat × Nat × Nat × Nat) (d : Nat) : Nat := if mk1_ W z O q d false &&& z = 0 then 0 else if mk1_ W z O q d true &&& z = 0 then q.2.2.1 else 0
def ars_ (W : List (Nat × Nat × Nat)) (z : Nat) (O : List od_) (TR : tp_) (d : Nat) : Nat → Nat
  | 0 => 0
  | n + 1 => match TR[n]? with
    | none => ars_ W z O TR d n
    | some q => ars_ W z O TR d n + ar1_ W z O q d
theorem ars_s {W : List (Nat × Nat × Nat)} {z : Nat} {O : List od_} {TR : tp_} {d n : Nat} {q : Nat × Nat × Nat × Nat × Nat} (h : TR[n]? = some q) : ars_ W z O TR d (n + 1) = ars_ W z O TR d n + ar1_ W z O q d := by
  show (match TR[n]? with
    | none => ars_ W z O TR d n
    | some q => ars_ W z O TR d n + ar1_ W z O q d) = _
  rw [h]
def saro_ (W : List (Nat × Nat × Nat)) (z : Nat) (O : List od_) (TR : tp_) (x : Int32) : Int32 := match nat_ x 100 with
  | none => -1
  | some d => nI (ars_ W z O TR d TR.length)
theorem aro_c {W : List (Nat × Nat × Nat)} {z : Nat} {O : List od_} {TR : tp_} (hk : dwok_ W z O TR) {m : fm_} (hm : dwc_ W z O TR m) (x : Int32) : ∃ m1, f_X11_around x m = some (saro_ W z O TR x, m1) ∧ dwc_ W z O TR m1 := by
  have hl := hk.2.2.2.1
  have hz := hk.2.1
  unfold f_X11_around saro_
  rcases nat_ix x (n := 100) (by omega) with ⟨e, _⟩ | ⟨d, hd, rfl, e, -⟩
  · rw [e]
    simp (disch := omega) only [↓reduceIte, ↓ns_m1, ns_let, ns_lef, ns_ltt, ns_ltf, ns_eqt, ns_eqf, ns_gd, nI_clamp, nI_add, pk_sub, pk_mul, ns_m1a, ns_m1b, ns_m1c, ns_m1d, ns_m1e, ns_m1f, ns_m1g, ns_un1, ns_un0, ns_day1, Option.bind_some, gi_si_self, gi_si_ne, gl_si, gi_sl, gl_sl_self, gl_sl_ne, if_true, if_false, ns_i0, ns_i1, ns_i2, ns_i3, ns_i4, ns_i5, ns_i6, ns_i7, ns_i8, ns_i9, ns_i10, ns_i11, ns_i12, ns_i13, ns_i20, ns_i23, ns_i24, ns_i31, ns_i50, ns_i60, ns_i99, ns_i100, ns_i144, ns_i200, ns_i255, ns_i700, ns_i880, ns_i899, ns_i900, ns_i901, ns_i999, ns_i1000, ns_i1440, ns_i4095, ns_i1000000, day0 e]
    exact ⟨m, rfl, hm⟩
  rw [e]
  obtain ⟨s, e1, h1⟩ := lp0_ (n := TR.length) (F := fun i (y : Int32 × fm_) => f_X10_carsAround_4 (nI d) y.1 (nI i) y.2) (I := fun i y => y.1 = nI (ars_ W z O TR d i) ∧ dwc_ W z O TR y.2) (fun i y hi hI => by
    obtain ⟨x, m0⟩ := y
    obtain ⟨i1, i2⟩ := hI
    have i1 : x = nI (ars_ W z O TR d i) := i1
    have i2 : dwc_ W z O TR m0 := i2
    subst i1
    have hq := List.getElem?_eq_getElem hi
    generalize TR[i] = q at hq
    have hv := hk.2.2.2.2 q (List.mem_of_getElem? hq)
    obtain ⟨m2, e2, r2, w2⟩ := follow_c hk i2 hq hd false
    have e2 : f_X10_follow (nI i) (nI d) (nI 0) m0 = some (0, m2) := e2
    obtain ⟨m3, e3, r3, w3⟩ := follow_c hk w2 hq hd true
    have e3 : f_X10_follow (nI i) (nI d) (nI 1) m2 = some (0, m3) := e3
    have l2 : mk1_ W z O q d false < 4096 := mk1_lt hv.1
    have l3 : mk1_ W z O q d true < 4096 := mk1_lt hv.1
    have g2 : gi_ m2 98 10 = nI (mk1_ W z O q d false) := r2.2.1
    have g3 : gi_ m3 98 10 = nI (mk1_ W z O q d true) := r3.2.1
    have a2 : mk1_ W z O q d false &&& z < 4096 := and_lt l2
    have a3 : mk1_ W z O q d true &&& z < 4096 := and_lt l3
    have n2 : nI (mk1_ W z O q d false) &&& nI z = nI (mk1_ W z O q d false &&& z) := nI_and (by omega) (by omega)
    have n3 : nI (mk1_ W z O q d true) &&& nI z = nI (mk1_ W z O q d true &&& z) := nI_and (by omega) (by omega)
    have z2 := w2.1.2.1
    have z3 := w3.1.2.1
    have hc := (w3.2.2.2 i q hq).2.2.1
    refine ⟨(nI (ars_ W z O TR d (i + 1)), m3), ?_, rfl, w3⟩
    show f_X10_carsAround_4 (nI d) (nI (ars_ W z O TR d i)) (nI i) m0 = f_X10_carsAround_4 (nI d) (nI (ars_ W z O TR d (i + 1))) (nI (i + 1)) m3
    rw [e_X10_carsAround_4, ars_s hq]
    unfold ar1_
    by_cases c1 : mk1_ W z O q d false &&& z = 0
    · simp (disch := omega) only [↓reduceIte, ↓ns_m1, ns_let, ns_lef, ns_ltt, ns_ltf, ns_eqt, ns_eqf, ns_gd, nI_clamp, nI_add, pk_sub, pk_mul, ns_m1a, ns_m1b, ns_m1c, ns_m1d, ns_m1e, ns_m1f, ns_m1g, ns_un1, ns_un0, ns_day1, Option.bind_some, gi_si_self, gi_si_ne, gl_si, gi_sl, gl_sl_self, gl_sl_ne, if_true, if_false, ns_i0, ns_i1, ns_i2, ns_i3, ns_i4, ns_i5, ns_i6, ns_i7, ns_i8, ns_i9, ns_i10, ns_i11, ns_i12, ns_i13, ns_i20, ns_i23, ns_i24, ns_i31, ns_i50, ns_i60, ns_i99, ns_i100, ns_i144, ns_i200, ns_i255, ns_i700, ns_i880, ns_i899, ns_i900, ns_i901, ns_i999, ns_i1000, ns_i1440, ns_i4095, ns_i1000000, i2.2.2.1, e2, g2, z2, n2, c1, e3, Nat.add_zero]
    · by_cases c2 : mk1_ W z O q d true &&& z = 0
      · simp (disch := omega) only [↓reduceIte, ↓ns_m1, ns_let, ns_lef, ns_ltt, ns_ltf, ns_eqt, ns_eqf, ns_gd, nI_clamp, nI_add, pk_sub, pk_mul, ns_m1a, ns_m1b, ns_m1c, ns_m1d, ns_m1e, ns_m1f, ns_m1g, ns_un1, ns_un0, ns_day1, Option.bind_some, gi_si_self, gi_si_ne, gl_si, gi_sl, gl_sl_self, gl_sl_ne, if_true, if_false, ns_i0, ns_i1, ns_i2, ns_i3, ns_i4, ns_i5, ns_i6, ns_i7, ns_i8, ns_i9, ns_i10, ns_i11, ns_i12, ns_i13, ns_i20, ns_i23, ns_i24, ns_i31, ns_i50, ns_i60, ns_i99, ns_i100, ns_i144, ns_i200, ns_i255, ns_i700, ns_i880, ns_i899, ns_i900, ns_i901, ns_i999, ns_i1000, ns_i1440, ns_i4095, ns_i1000000, i2.2.2.1, e2, g2, z2, n2, c1, e3, g3, z3, n3, c2, hc]
      · simp (disch := omega) only [↓reduceIte, ↓ns_m1, ns_let, ns_lef, ns_ltt, ns_ltf, ns_eqt, ns_eqf, ns_gd, nI_clamp, nI_add, pk_sub, pk_mul, ns_m1a, ns_m1b, ns_m1c, ns_m1d, ns_m1e, ns_m1f, ns_m1g, ns_un1, ns_un0, ns_day1, Option.bind_some, gi_si_self, gi_si_ne, gl_si, gi_sl, gl_sl_self, gl_sl_ne, if_true, if_false, ns_i0, ns_i1, ns_i2, ns_i3, ns_i4, ns_i5, ns_i6, ns_i7, ns_i8, ns_i9, ns_i10, ns_i11, ns_i12, ns_i13, ns_i20, ns_i23, ns_i24, ns_i31, ns_i50, ns_i60, ns_i99, ns_i100, ns_i144, ns_i200, ns_i255, ns_i700, ns_i880, ns_i899, ns_i900, ns_i901, ns_i999, ns_i1000, ns_i1440, ns_i4095, ns_i1000000, i2.2.2.1, e2, g2, z2, n2, c1, e3, g3, z3, n3, c2, Nat.add_zero]) (s := (nI 0, m)) ⟨rfl, hm⟩
  have e1 : f_X10_carsAround_4 (nI d) (nI 0) (nI 0) m = f_X10_carsAround_4 (nI d) s.1 (nI TR.length) s.2 := e1
  have e3 : f_X10_carsAround (nI d) m = some (s.1, s.2) := by
    show f_X10_carsAround_4 (nI d) (nI 0) (nI 0) m = _
    rw [e1, e_X10_carsAround_4]
    simp (disch := omega) only [↓reduceIte, ↓ns_m1, ns_let, ns_lef, ns_ltt, ns_ltf, ns_eqt, ns_eqf, ns_gd, nI_clamp, nI_add, pk_sub, pk_mul, ns_m1a, ns_m1b, ns_m1c, ns_m1d, ns_m1e, ns_m1f, ns_m1g, ns_un1, ns_un0, ns_day1, Option.bind_some, gi_si_self, gi_si_ne, gl_si, gi_sl, gl_sl_self, gl_sl_ne, if_true, if_false, ns_i0, ns_i1, ns_i2, ns_i3, ns_i4, ns_i5, ns_i6, ns_i7, ns_i8, ns_i9, ns_i10, ns_i11, ns_i12, ns_i13, ns_i20, ns_i23, ns_i24, ns_i31, ns_i50, ns_i60, ns_i99, ns_i100, ns_i144, ns_i200, ns_i255, ns_i700, ns_i880, ns_i899, ns_i900, ns_i901, ns_i999, ns_i1000, ns_i1440, ns_i4095, ns_i1000000, h1.2.2.2.1]
  simp (disch := omega) only [↓reduceIte, ↓ns_m1, ns_let, ns_lef, ns_ltt, ns_ltf, ns_eqt, ns_eqf, ns_gd, nI_clamp, nI_add, pk_sub, pk_mul, ns_m1a, ns_m1b, ns_m1c, ns_m1d, ns_m1e, ns_m1f, ns_m1g, ns_un1, ns_un0, ns_day1, Option.bind_some, gi_si_self, gi_si_ne, gl_si, gi_sl, gl_sl_self, gl_sl_ne, if_true, if_false, ns_i0, ns_i1, ns_i2, ns_i3, ns_i4, ns_i5, ns_i6, ns_i7, ns_i8, ns_i9, ns_i10, ns_i11, ns_i12, ns_i13, ns_i20, ns_i23, ns_i24, ns_i31, ns_i50, ns_i60, ns_i99, ns_i100, ns_i144, ns_i200, ns_i255, ns_i700, ns_i880, ns_i899, ns_i900, ns_i901, ns_i999, ns_i1000, ns_i1440, ns_i4095, ns_i1000000, e3]
  exact ⟨s.2, by rw [h1.1], h1.2⟩
theorem aro_m {W : List (Nat × Nat × Nat)} {z : Nat} {O : List od_} {TR : tp_} (hk : dwok_ W z O TR) {m : fm_} (hm : dwm_ W z O TR m) (x : Int32) : ∃ m1, f_X12_around x m = some (saro_ W z O TR x, m1) ∧ dwm_ W z O TR m1 := by
  have hl := hk.2.2.2.1
  have hz := hk.2.1
  unfold f_X12_around saro_
  rcases nat_ix x (n := 100) (by omega) with ⟨e, _⟩ | ⟨d, hd, rfl, e, -⟩
  · rw [e]
    simp (disch := omega) only [↓reduceIte, ↓ns_m1, ns_let, ns_lef, ns_ltt, ns_ltf, ns_eqt, ns_eqf, ns_gd, nI_clamp, nI_add, pk_sub, pk_mul, ns_m1a, ns_m1b, ns_m1c, ns_m1d, ns_m1e, ns_m1f, ns_m1g, ns_un1, ns_un0, ns_day1, Option.bind_some, gi_si_self, gi_si_ne, gl_si, gi_sl, gl_sl_self, gl_sl_ne, if_true, if_false, ns_i0, ns_i1, ns_i2, ns_i3, ns_i4, ns_i5, ns_i6, ns_i7, ns_i8, ns_i9, ns_i10, ns_i11, ns_i12, ns_i13, ns_i20, ns_i23, ns_i24, ns_i31, ns_i50, ns_i60, ns_i99, ns_i100, ns_i144, ns_i200, ns_i255, ns_i700, ns_i880, ns_i899, ns_i900, ns_i901, ns_i999, ns_i1000, ns_i1440, ns_i4095, ns_i1000000, day0m e]
    exact ⟨m, rfl, hm⟩
  rw [e]
  obtain ⟨s, e1, h1⟩ := lp0_ (n := TR.length) (F := fun i (y : Int32 × fm_) => f_X12_around_13 (nI d) y.1 (nI i) y.2) (I := fun i y => y.1 = nI (ars_ W z O TR d i) ∧ dwm_ W z O TR y.2) (fun i y hi hI => by
    obtain ⟨x, m0⟩ := y
    obtain ⟨i1, i2⟩ := hI
    have i1 : x = nI (ars_ W z O TR d i) := i1
    have i2 : dwm_ W z O TR m0 := i2
    subst i1
    have hq := List.getElem?_eq_getElem hi
    generalize TR[i] = q at hq
    have hv := hk.2.2.2.2 q (List.mem_of_getElem? hq)
    obtain ⟨m2, e2, r2, w2⟩ := go_ hk i2 hq hd false
    have e2 : f_X12_go (nI i) (nI d) (nI 0) m0 = some (1, m2) := e2
    obtain ⟨m3, e3, r3, w3⟩ := go_ hk w2 hq hd true
    have e3 : f_X12_go (nI i) (nI d) (nI 1) m2 = some (1, m3) := e3
    have l2 : mk1_ W z O q d false < 4096 := mk1_lt hv.1
    have l3 : mk1_ W z O q d true < 4096 := mk1_lt hv.1
    have b2 := rtl_12 (W := W) (z := z) (O := O) (d := d) (b := false) hv.1
    have b3 := rtl_12 (W := W) (z := z) (O := O) (d := d) (b := true) hv.1
    have g2 : f_X12_gone m2 = some (nI (mk1_ W z O q d false), m2) := gone_ r2 b2.1 b2.2
    have g3 : f_X12_gone m3 = some (nI (mk1_ W z O q d true), m3) := gone_ r3 b3.1 b3.2
    have a2 : mk1_ W z O q d false &&& z < 4096 := and_lt l2
    have a3 : mk1_ W z O q d true &&& z < 4096 := and_lt l3
    have n2 : nI (mk1_ W z O q d false) &&& nI z = nI (mk1_ W z O q d false &&& z) := nI_and (by omega) (by omega)
    have n3 : nI (mk1_ W z O q d true) &&& nI z = nI (mk1_ W z O q d true &&& z) := nI_and (by omega) (by omega)
    have z2 := w2.2.1
    have z3 := w3.2.1
    have hc := (w3.2.2.2.2.2 i q hq).2.2.1
    refine ⟨(nI (ars_ W z O TR d (i + 1)), m3), ?_, rfl, w3⟩
    show f_X12_around_13 (nI d) (nI (ars_ W z O TR d i)) (nI i) m0 = f_X12_around_13 (nI d) (nI (ars_ W z O TR d (i + 1))) (nI (i + 1)) m3
    rw [e_X12_around_13, ars_s hq]
    unfold ar1_
    by_cases c1 : mk1_ W z O q d false &&& z = 0
    · simp (disch := omega) only [↓reduceIte, ↓ns_m1, ns_let, ns_lef, ns_ltt, ns_ltf, ns_eqt, ns_eqf, ns_gd, nI_clamp, nI_add, pk_sub, pk_mul, ns_m1a, ns_m1b, ns_m1c, ns_m1d, ns_m1e, ns_m1f, ns_m1g, ns_un1, ns_un0, ns_day1, Option.bind_some, gi_si_self, gi_si_ne, gl_si, gi_sl, gl_sl_self, gl_sl_ne, if_true, if_false, ns_i0, ns_i1, ns_i2, ns_i3, ns_i4, ns_i5, ns_i6, ns_i7, ns_i8, ns_i9, ns_i10, ns_i11, ns_i12, ns_i13, ns_i20, ns_i23, ns_i24, ns_i31, ns_i50, ns_i60, ns_i99, ns_i100, ns_i144, ns_i200, ns_i255, ns_i700, ns_i880, ns_i899, ns_i900, ns_i901, ns_i999, ns_i1000, ns_i1440, ns_i4095, ns_i1000000, i2.2.2.2.2.1, e2, g2, z2, n2, c1, e3]
    · by_cases c2 : mk1_ W z O q d true &&& z = 0
      · simp (disch := omega) only [↓reduceIte, ↓ns_m1, ns_let, ns_lef, ns_ltt, ns_ltf, ns_eqt, ns_eqf, ns_gd, nI_clamp, nI_add, pk_sub, pk_mul, ns_m1a, ns_m1b, ns_m1c, ns_m1d, ns_m1e, ns_m1f, ns_m1g, ns_un1, ns_un0, ns_day1, Option.bind_some, gi_si_self, gi_si_ne, gl_si, gi_sl, gl_sl_self, gl_sl_ne, if_true, if_false, ns_i0, ns_i1, ns_i2, ns_i3, ns_i4, ns_i5, ns_i6, ns_i7, ns_i8, ns_i9, ns_i10, ns_i11, ns_i12, ns_i13, ns_i20, ns_i23, ns_i24, ns_i31, ns_i50, ns_i60, ns_i99, ns_i100, ns_i144, ns_i200, ns_i255, ns_i700, ns_i880, ns_i899, ns_i900, ns_i901, ns_i999, ns_i1000, ns_i1440, ns_i4095, ns_i1000000, i2.2.2.2.2.1, e2, g2, z2, n2, c1, e3, g3, z3, n3, c2, hc]
      · simp (disch := omega) only [↓reduceIte, ↓ns_m1, ns_let, ns_lef, ns_ltt, ns_ltf, ns_eqt, ns_eqf, ns_gd, nI_clamp, nI_add, pk_sub, pk_mul, ns_m1a, ns_m1b, ns_m1c, ns_m1d, ns_m1e, ns_m1f, ns_m1g, ns_un1, ns_un0, ns_day1, Option.bind_some, gi_si_self, gi_si_ne, gl_si, gi_sl, gl_sl_self, gl_sl_ne, if_true, if_false, ns_i0, ns_i1, ns_i2, ns_i3, ns_i4, ns_i5, ns_i6, ns_i7, ns_i8, ns_i9, ns_i10, ns_i11, ns_i12, ns_i13, ns_i20, ns_i23, ns_i24, ns_i31, ns_i50, ns_i60, ns_i99, ns_i100, ns_i144, ns_i200, ns_i255, ns_i700, ns_i880, ns_i899, ns_i900, ns_i901, ns_i999, ns_i1000, ns_i1440, ns_i4095, ns_i1000000, i2.2.2.2.2.1, e2, g2, z2, n2, c1, e3, g3, z3, n3, c2]) (s := (nI 0, m)) ⟨rfl, hm⟩
  have e1 : f_X12_around_13 (nI d) (nI 0) (nI 0) m = f_X12_around_13 (nI d) s.1 (nI TR.length) s.2 := e1
  have e3 : f_X12_around_13 (nI d) (nI 0) (nI 0) m = some (s.1, s.2) := by
    rw [e1, e_X12_around_13]
    simp (disch := omega) only [↓reduceIte, ↓ns_m1, ns_let, ns_lef, ns_ltt, ns_ltf, ns_eqt, ns_eqf, ns_gd, nI_clamp, nI_add, pk_sub, pk_mul, ns_m1a, ns_m1b, ns_m1c, ns_m1d, ns_m1e, ns_m1f, ns_m1g, ns_un1, ns_un0, ns_day1, Option.bind_some, gi_si_self, gi_si_ne, gl_si, gi_sl, gl_sl_self, gl_sl_ne, if_true, if_false, ns_i0, ns_i1, ns_i2, ns_i3, ns_i4, ns_i5, ns_i6, ns_i7, ns_i8, ns_i9, ns_i10, ns_i11, ns_i12, ns_i13, ns_i20, ns_i23, ns_i24, ns_i31, ns_i50, ns_i60, ns_i99, ns_i100, ns_i144, ns_i200, ns_i255, ns_i700, ns_i880, ns_i899, ns_i900, ns_i901, ns_i999, ns_i1000, ns_i1440, ns_i4095, ns_i1000000, h1.2.2.2.2.2.1]
  simp (disch := omega) only [↓reduceIte, ↓ns_m1, ns_let, ns_lef, ns_ltt, ns_ltf, ns_eqt, ns_eqf, ns_gd, nI_clamp, nI_add, pk_sub, pk_mul, ns_m1a, ns_m1b, ns_m1c, ns_m1d, ns_m1e, ns_m1f, ns_m1g, ns_un1, ns_un0, ns_day1, Option.bind_some, gi_si_self, gi_si_ne, gl_si, gi_sl, gl_sl_self, gl_sl_ne, if_true, if_false, ns_i0, ns_i1, ns_i2, ns_i3, ns_i4, ns_i5, ns_i6, ns_i7, ns_i8, ns_i9, ns_i10, ns_i11, ns_i12, ns_i13, ns_i20, ns_i23, ns_i24, ns_i31, ns_i50, ns_i60, ns_i99, ns_i100, ns_i144, ns_i200, ns_i255, ns_i700, ns_i880, ns_i899, ns_i900, ns_i901, ns_i999, ns_i1000, ns_i1440, ns_i4095, ns_i1000000, ns_day2, e3]
  exact ⟨s.2, by rw [h1.1], h1.2⟩
