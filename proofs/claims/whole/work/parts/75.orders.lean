/-! ===== orders as both sides hold them ===== -/
def alc_ (w : Nat) : Bool := decide (1 ≤ w ∧ w ≤ 5)
def alf_ (w : Nat) : Bool := decide ((1 ≤ w ∧ w ≤ 5) ∨ w = 8)
def ala_ (w : Nat) : Bool := decide (1 ≤ w ∧ w ≤ 8)
def ook_ (o : od_) : Prop := o.2.2.2.2.1.length ≤ 6 ∧ (∀ q ∈ o.2.2.2.2.1, q.1 ≤ 9 ∧ tyc_ alc_ q.2 [] = some [true]) ∧ (∀ c, o.2.2.2.2.2.1 = some c → tyc_ alf_ c [] = some [true]) ∧ (∀ c, o.2.2.2.2.2.2 = some c → tyc_ ala_ c [] = some [true]) ∧ (∀ h, o.2.2.1 = some h → h.1 < h.2 ∧ h.2 ≤ 1440) ∧ ∀ g, o.2.2.2.1 = some g → g ≤ 20
def ccd_ (o s : Nat) (c : cd_) (m : fm_) : Prop := (∀ i q, c[i]? = some q → gi_ m (o + 1) (s + i) = enc_ q) ∧ gi_ m (o + 1) (s + c.length) = -100 ∧ ∃ n, gi_ m o 2 = nI n ∧ n ≤ 400 ∧ s + c.length < n
def ocl_ (o : Nat) (x : Int32) (c : Option cd_) (m : fm_) : Prop := match c with
  | none => x = -1
  | some c => ∃ s, x = nI s ∧ ccd_ o s c m
def och_ (o : Nat) (h : Option (Nat × Nat)) (m : fm_) : Prop := match h with
  | none => gi_ m o 8 = -1
  | some q => gi_ m o 7 = nI q.1 ∧ gi_ m o 8 = nI q.2
def orc_ (o : Nat) (d : od_) (m : fm_) : Prop := och_ o d.2.2.1 m ∧ gi_ m o 9 = ooc_ d.2.2.2.1 ∧ gi_ m o 5 = nI d.2.2.2.2.1.length ∧ (∀ l q, d.2.2.2.2.1[l]? = some q → gi_ m (o + 2) l = nI q.1 ∧ ∃ s, gi_ m (o + 3) l = nI s ∧ ccd_ o s q.2 m) ∧ ocl_ o (gi_ m o 10) d.2.2.2.2.2.1 m ∧ ocl_ o (gi_ m o 11) d.2.2.2.2.2.2 m
theorem ccd_fr {o s : Nat} {c : cd_} {m m1 : fm_} (h : ccd_ o s c m) (hf : ∀ a k, o ≤ a → a ≤ o + 3 → gi_ m1 a k = gi_ m a k) : ccd_ o s c m1 := by
  obtain ⟨h1, h2, n, h3, h4⟩ := h
  exact ⟨fun i q hi => (hf _ _ (by omega) (by omega)).trans (h1 i q hi), (hf _ _ (by omega) (by omega)).trans h2, n, (hf _ _ (by omega) (by omega)).trans h3, h4⟩
theorem ocl_fr {o : Nat} {x : Int32} {c : Option cd_} {m m1 : fm_} (h : ocl_ o x c m) (hf : ∀ a k, o ≤ a → a ≤ o + 3 → gi_ m1 a k = gi_ m a k) : ocl_ o x c m1 := by
  cases c with
  | none => exact h
  | some c =>
    obtain ⟨s, h1, h2⟩ := h
    exact ⟨s, h1, ccd_fr h2 hf⟩
theorem orc_fr {o : Nat} {d : od_} {m m1 : fm_} (h : orc_ o d m) (hf : ∀ a k, o ≤ a → a ≤ o + 3 → gi_ m1 a k = gi_ m a k) : orc_ o d m1 := by
  obtain ⟨h1, h2, h3, h4, h5, h6⟩ := h
  refine ⟨?_, (hf _ _ (by omega) (by omega)).trans h2, (hf _ _ (by omega) (by omega)).trans h3, fun l q hl => ?_, ?_, ?_⟩
  · revert h1
    unfold och_
    cases d.2.2.1 with
    | none => intro h1; exact (hf _ _ (by omega) (by omega)).trans h1
    | some q => intro h1; exact ⟨(hf _ _ (by omega) (by omega)).trans h1.1, (hf _ _ (by omega) (by omega)).trans h1.2⟩
  · obtain ⟨q1, s, q2, q3⟩ := h4 l q hl
    exact ⟨(hf _ _ (by omega) (by omega)).trans q1, s, (hf _ _ (by omega) (by omega)).trans q2, ccd_fr q3 hf⟩
  · rw [hf o 10 (by omega) (by omega)]
    exact ocl_fr h5 hf
  · rw [hf o 11 (by omega) (by omega)]
    exact ocl_fr h6 hf
def hop1_ (uw : Nat → Int32) (c : Option cd_) : Bool := match c with
  | none => false
  | some c => hv_ (ev_ uw c [])
theorem hol_c {o s : Nat} (ho : o + 5 < 93) {al : Nat → Bool} (ha8 : ∀ w, al w = true → 1 ≤ w ∧ w ≤ 8) {uw : Nat → Int32} {c : cd_} (hty : tyc_ al c [] = some [true]) {m : fm_} (hc : ccd_ o s c m) (hask : askc_ al uw m) : ∃ m', f_X4_holds o (nI s) m = some (b01_ (hv_ (ev_ uw c [])), m') ∧ ∀ a k, ¬ a = o + 5 → gi_ m' a k = gi_ m a k := by
  obtain ⟨h1, h2, n, h3, h4, h5⟩ := hc
  obtain ⟨m', e1, e2⟩ := hold_c ho ha8 h3 h4 hask (x1 := nI s) c s [] [] m (fun _ _ _ => rfl) h1 h2 h5 (fun j x hj => by cases hj) trivial (by show 0 ≤ 50; omega) hty
  refine ⟨m', ?_, e2⟩
  unfold f_X4_holds
  rw [if_pos (show (0 : Int32) ≤ nI s from nI_pos' (by omega))]
  exact e1
theorem hol1_c {o : Nat} (ho : o + 5 < 93) {al : Nat → Bool} (ha8 : ∀ w, al w = true → 1 ≤ w ∧ w ≤ 8) {uw : Nat → Int32} {c : Option cd_} (hty : ∀ c1, c = some c1 → tyc_ al c1 [] = some [true]) {m : fm_} {x : Int32} (hc : ocl_ o x c m) (hask : askc_ al uw m) : ∃ m', f_X4_holds o x m = some (b01_ (hop1_ uw c), m') ∧ ∀ a k, ¬ a = o + 5 → gi_ m' a k = gi_ m a k := by
  cases c with
  | none =>
    have hx : x = -1 := hc
    refine ⟨m, ?_, fun _ _ _ => rfl⟩
    rw [hx]
    rfl
  | some c =>
    obtain ⟨s, hx, h2⟩ := hc
    rw [hx]
    exact hol_c ho ha8 (hty c rfl) h2 hask
/-- the class by its lines -/
def cby_ (uw : Nat → Int32) : List (Nat × cd_) → Nat
  | [] => 0
  | q :: r => if hv_ (ev_ uw q.2 []) = true then q.1 else cby_ uw r
theorem cby_b {uw : Nat → Int32} : ∀ {l : List (Nat × cd_)}, (∀ q ∈ l, q.1 ≤ 9) → cby_ uw l ≤ 9
  | [], _ => Nat.zero_le _
  | q :: r, h => by
    unfold cby_
    by_cases c : hv_ (ev_ uw q.2 []) = true
    · rw [if_pos c]; exact h q (List.mem_cons_self ..)
    · rw [if_neg c]; exact cby_b fun x hx => h x (List.mem_cons_of_mem _ hx)
theorem drop_p {α : Type} {V : List α} {i : Nat} {x : α} {r : List α} (h : V.drop i = x :: r) : V[i]? = some x ∧ V.drop (i + 1) = r ∧ i < V.length := by
  have hi : i < V.length := by
    by_cases q : i < V.length
    · exact q
    · rw [List.drop_of_length_le (by omega)] at h; cases h
  rw [List.drop_eq_getElem_cons hi] at h
  injection h with h1 h2
  exact ⟨by rw [List.getElem?_eq_getElem hi, h1], h2, hi⟩
theorem alc_8 : ∀ w, alc_ w = true → 1 ≤ w ∧ w ≤ 8 := fun w h => by have := of_decide_eq_true h; omega
theorem alf_8 : ∀ w, alf_ w = true → 1 ≤ w ∧ w ≤ 8 := fun w h => by have := of_decide_eq_true h; omega
theorem ala_8 : ∀ w, ala_ w = true → 1 ≤ w ∧ w ≤ 8 := fun w h => of_decide_eq_true h
theorem askc_fr {o : Nat} (ho : o + 5 < 93) {al : Nat → Bool} {uw : Nat → Int32} {m m1 : fm_} (h : askc_ al uw m) (hf : ∀ a k, ¬ a = o + 5 → gi_ m1 a k = gi_ m a k) : askc_ al uw m1 := fun w hw => (hf 93 _ (by omega)).trans (h w hw)
theorem cby_c {o : Nat} (ho : o + 5 < 93) {d : od_} (hd : ook_ d) {uw : Nat → Int32} : ∀ (l : List (Nat × cd_)) (i : Nat) (m : fm_), i ≤ 6 → d.2.2.2.2.1.drop i = l → orc_ o d m → askc_ alc_ uw m → ∃ m', f_X4_classBy_2 o (nI i) m = some (nI (cby_ uw l), m') ∧ ∀ a k, ¬ a = o + 5 → gi_ m' a k = gi_ m a k := by
  have h6 := hd.1
  intro l
  induction l with
  | nil =>
    intro i m hi hl hm hask
    have : d.2.2.2.2.1.length ≤ i := by
      have := congrArg List.length hl
      rw [List.length_drop, List.length_nil] at this
      omega
    refine ⟨m, ?_, fun _ _ _ => rfl⟩
    rw [e_X4_classBy_2, hm.2.2.1, if_pos (nI_le this (by omega))]
    rfl
  | cons q l ih =>
    intro i m hi hl hm hask
    obtain ⟨k1, k2, k3⟩ := drop_p hl
    obtain ⟨g1, s, g2, g3⟩ := hm.2.2.2.1 i q k1
    have hq := hd.2.1 q (List.mem_of_getElem? k1)
    obtain ⟨m1, e1, f1⟩ := hol_c ho alc_8 hq.2 g3 hask
    have gn : gi_ m1 (o + 2) i = nI q.1 := (f1 _ _ (by omega)).trans g1
    have e1t : b01_ true = nI 1 := rfl
    have e0t : b01_ false = nI 0 := rfl
    unfold cby_
    by_cases c : hv_ (ev_ uw q.2 []) = true
    · rw [c, e1t] at e1
      rw [if_pos c]
      refine ⟨m1, ?_, f1⟩
      rw [e_X4_classBy_2]
      simp (disch := omega) only [↓reduceIte, ↓ns_m1, ns_let, ns_lef, ns_ltt, ns_ltf, ns_eqt, ns_eqf, ns_gd, nI_clamp, nI_add, pk_sub, pk_mul, ns_m1a, ns_m1b, ns_m1c, ns_m1d, ns_m1e, ns_m1f, ns_m1g, ns_un1, ns_un0, ns_day1, Option.bind_some, gi_si_self, gi_si_ne, gl_si, gi_sl, gl_sl_self, gl_sl_ne, if_true, if_false, ns_i0, ns_i1, ns_i2, ns_i3, ns_i4, ns_i5, ns_i6, ns_i7, ns_i8, ns_i9, ns_i10, ns_i11, ns_i12, ns_i13, ns_i20, ns_i23, ns_i24, ns_i31, ns_i50, ns_i60, ns_i99, ns_i100, ns_i144, ns_i200, ns_i255, ns_i700, ns_i880, ns_i899, ns_i900, ns_i901, ns_i999, ns_i1000, ns_i1440, ns_i4095, ns_i1000000, hm.2.2.1, g2, e1, gn]
    · rw [Bool.eq_false_iff.mpr c, e0t] at e1
      rw [if_neg c]
      obtain ⟨m2, e2, f2⟩ := ih (i + 1) m1 (by omega) k2 (orc_fr hm fun a k h1 h2 => f1 a k (by omega)) (askc_fr ho hask f1)
      refine ⟨m2, ?_, fun a k ha => (f2 a k ha).trans (f1 a k ha)⟩
      rw [e_X4_classBy_2]
      simp (disch := omega) only [↓reduceIte, ↓ns_m1, ns_let, ns_lef, ns_ltt, ns_ltf, ns_eqt, ns_eqf, ns_gd, nI_clamp, nI_add, pk_sub, pk_mul, ns_m1a, ns_m1b, ns_m1c, ns_m1d, ns_m1e, ns_m1f, ns_m1g, ns_un1, ns_un0, ns_day1, Option.bind_some, gi_si_self, gi_si_ne, gl_si, gi_sl, gl_sl_self, gl_sl_ne, if_true, if_false, ns_i0, ns_i1, ns_i2, ns_i3, ns_i4, ns_i5, ns_i6, ns_i7, ns_i8, ns_i9, ns_i10, ns_i11, ns_i12, ns_i13, ns_i20, ns_i23, ns_i24, ns_i31, ns_i50, ns_i60, ns_i99, ns_i100, ns_i144, ns_i200, ns_i255, ns_i700, ns_i880, ns_i899, ns_i900, ns_i901, ns_i999, ns_i1000, ns_i1440, ns_i4095, ns_i1000000, hm.2.2.1, g2, e1, e2]
/-! the reference -/
def cmd_ (j l : Nat) (c : cd_) (m : fm_) : Prop := gi_ m 133 (8 * j + l) = 1 ∧ ∃ b, gi_ m 124 (8 * j + l) = nI b ∧ gi_ m 125 (8 * j + l) = nI (b + c.length) ∧ b + c.length ≤ 700 ∧ ∀ i q, c[i]? = some q → gi_ m 122 (700 * j + b + i) = nI q.1 ∧ (q.1 = 0 → gi_ m 123 (700 * j + b + i) = nI q.2)
def oml_ (j l : Nat) (c : Option cd_) (m : fm_) : Prop := match c with
  | none => gi_ m 133 (8 * j + l) = 0
  | some c => cmd_ j l c m
def hrs_ (h : Option (Nat × Nat)) : Nat × Nat := match h with
  | none => (0, 1440)
  | some q => q
def orm_ (j : Nat) (d : od_) (m : fm_) : Prop := gi_ m 129 j = nI (hrs_ d.2.2.1).1 ∧ gi_ m 130 j = nI (hrs_ d.2.2.1).2 ∧ gi_ m 131 j = nI (oom_ d.2.2.2.1) ∧ gi_ m 127 j = nI d.2.2.2.2.1.length ∧ (∀ l q, d.2.2.2.2.1[l]? = some q → gi_ m 126 (6 * j + l) = nI q.1 ∧ cmd_ j l q.2 m) ∧ oml_ j 6 d.2.2.2.2.2.1 m ∧ oml_ j 7 d.2.2.2.2.2.2 m
theorem cmd_fr {j l : Nat} {c : cd_} {m m1 : fm_} (h : cmd_ j l c m) (hf : ∀ a k, 122 ≤ a → a ≤ 133 → gi_ m1 a k = gi_ m a k) : cmd_ j l c m1 := by
  obtain ⟨h1, b, h2, h3, h4, h5⟩ := h
  exact ⟨(hf _ _ (by omega) (by omega)).trans h1, b, (hf _ _ (by omega) (by omega)).trans h2, (hf _ _ (by omega) (by omega)).trans h3, h4, fun i q hi => ⟨(hf _ _ (by omega) (by omega)).trans (h5 i q hi).1, fun z => (hf _ _ (by omega) (by omega)).trans ((h5 i q hi).2 z)⟩⟩
theorem oml_fr {j l : Nat} {c : Option cd_} {m m1 : fm_} (h : oml_ j l c m) (hf : ∀ a k, 122 ≤ a → a ≤ 133 → gi_ m1 a k = gi_ m a k) : oml_ j l c m1 := by
  cases c with
  | none => exact (hf _ _ (by omega) (by omega)).trans h
  | some c => exact cmd_fr h hf
theorem orm_fr {j : Nat} {d : od_} {m m1 : fm_} (h : orm_ j d m) (hf : ∀ a k, 122 ≤ a → a ≤ 133 → gi_ m1 a k = gi_ m a k) : orm_ j d m1 := by
  obtain ⟨h1, h2, h3, h4, h5, h6, h7⟩ := h
  exact ⟨(hf _ _ (by omega) (by omega)).trans h1, (hf _ _ (by omega) (by omega)).trans h2, (hf _ _ (by omega) (by omega)).trans h3, (hf _ _ (by omega) (by omega)).trans h4, fun l q hl => ⟨(hf _ _ (by omega) (by omega)).trans (h5 l q hl).1, cmd_fr (h5 l q hl).2 hf⟩, oml_fr h6 hf, oml_fr h7 hf⟩
theorem hol_m {j l : Nat} (hj : j < 7) (hl : l < 8) {al : Nat → Bool} {uw : Nat → Int32} {c : cd_} (hty : tyc_ al c [] = some [true]) {m : fm_} (hc : cmd_ j l c m) (hask : askm_ al uw m) : ∃ m', f_X12_holds (nI j) (nI l) m = some (b01_ (hv_ (ev_ uw c [])), m') ∧ ∀ a k, ¬ a = 137 → gi_ m' a k = gi_ m a k := by
  obtain ⟨h1, b, h2, h3, h4, h5⟩ := hc
  obtain ⟨m', e1, e2⟩ := hold_m hj hl h3 h4 hask c (700 * j + b) [] [] m (fun _ _ _ => rfl) h5 (by omega) (fun j x hj => by cases hj) trivial (by show 0 ≤ 50; omega) hty
  refine ⟨m', ?_, e2⟩
  have e1 : f_X12_holds_37 (nI j) (nI l) (nI 0) (nI (700 * j + b)) m = some (b01_ (hv_ (ev_ uw c [])), m') := e1
  have h1 : gi_ m 133 (8 * j + l) = nI 1 := h1
  unfold f_X12_holds
  simp (disch := omega) only [↓reduceIte, ↓ns_m1, ns_let, ns_lef, ns_ltt, ns_ltf, ns_eqt, ns_eqf, ns_gd, nI_clamp, nI_add, pk_sub, pk_mul, ns_m1a, ns_m1b, ns_m1c, ns_m1d, ns_m1e, ns_m1f, ns_m1g, ns_un1, ns_un0, ns_day1, Option.bind_some, gi_si_self, gi_si_ne, gl_si, gi_sl, gl_sl_self, gl_sl_ne, if_true, if_false, ns_i0, ns_i1, ns_i2, ns_i3, ns_i4, ns_i5, ns_i6, ns_i7, ns_i8, ns_i9, ns_i10, ns_i11, ns_i12, ns_i13, ns_i20, ns_i23, ns_i24, ns_i31, ns_i50, ns_i60, ns_i99, ns_i100, ns_i144, ns_i200, ns_i255, ns_i700, ns_i880, ns_i899, ns_i900, ns_i901, ns_i999, ns_i1000, ns_i1440, ns_i4095, ns_i1000000, h1, h2, e1]
theorem hol1_m {j l : Nat} (hj : j < 7) (hl : l < 8) {al : Nat → Bool} {uw : Nat → Int32} {c : Option cd_} (hty : ∀ c1, c = some c1 → tyc_ al c1 [] = some [true]) {m : fm_} (hc : oml_ j l c m) (hask : askm_ al uw m) : ∃ m', f_X12_holds (nI j) (nI l) m = some (b01_ (hop1_ uw c), m') ∧ ∀ a k, ¬ a = 137 → gi_ m' a k = gi_ m a k := by
  cases c with
  | none =>
    have h1 : gi_ m 133 (8 * j + l) = nI 0 := hc
    refine ⟨m, ?_, fun _ _ _ => rfl⟩
    unfold f_X12_holds
    simp (disch := omega) only [↓reduceIte, ↓ns_m1, ns_let, ns_lef, ns_ltt, ns_ltf, ns_eqt, ns_eqf, ns_gd, nI_clamp, nI_add, pk_sub, pk_mul, ns_m1a, ns_m1b, ns_m1c, ns_m1d, ns_m1e, ns_m1f, ns_m1g, ns_un1, ns_un0, ns_day1, Option.bind_some, gi_si_self, gi_si_ne, gl_si, gi_sl, gl_sl_self, gl_sl_ne, if_true, if_false, ns_i0, ns_i1, ns_i2, ns_i3, ns_i4, ns_i5, ns_i6, ns_i7, ns_i8, ns_i9, ns_i10, ns_i11, ns_i12, ns_i13, ns_i20, ns_i23, ns_i24, ns_i31, ns_i50, ns_i60, ns_i99, ns_i100, ns_i144, ns_i200, ns_i255, ns_i700, ns_i880, ns_i899, ns_i900, ns_i901, ns_i999, ns_i1000, ns_i1440, ns_i4095, ns_i1000000, h1]
    rfl
  | some c => exact hol_m hj hl (hty c rfl) hc hask
theorem cby_m {j : Nat} (hj : j < 6) {d : od_} (hd : ook_ d) {uw : Nat → Int32} {x2 x3 x4 : Int32} : ∀ (l : List (Nat × cd_)) (i : Nat) (m : fm_), i ≤ 6 → d.2.2.2.2.1.drop i = l → orm_ j d m → askm_ alc_ uw m → ∃ m', f_X12_classBy_11 (nI j) x2 x3 x4 (nI i) m = some (nI (cby_ uw l), m') ∧ ∀ a k, ¬ a = 137 → gi_ m' a k = gi_ m a k := by
  have h6 := hd.1
  intro l
  induction l with
  | nil =>
    intro i m hi hl hm hask
    have : d.2.2.2.2.1.length ≤ i := by
      have := congrArg List.length hl
      rw [List.length_drop, List.length_nil] at this
      omega
    refine ⟨m, ?_, fun _ _ _ => rfl⟩
    rw [e_X12_classBy_11]
    simp (disch := omega) only [↓reduceIte, ↓ns_m1, ns_let, ns_lef, ns_ltt, ns_ltf, ns_eqt, ns_eqf, ns_gd, nI_clamp, nI_add, pk_sub, pk_mul, ns_m1a, ns_m1b, ns_m1c, ns_m1d, ns_m1e, ns_m1f, ns_m1g, ns_un1, ns_un0, ns_day1, Option.bind_some, gi_si_self, gi_si_ne, gl_si, gi_sl, gl_sl_self, gl_sl_ne, if_true, if_false, ns_i0, ns_i1, ns_i2, ns_i3, ns_i4, ns_i5, ns_i6, ns_i7, ns_i8, ns_i9, ns_i10, ns_i11, ns_i12, ns_i13, ns_i20, ns_i23, ns_i24, ns_i31, ns_i50, ns_i60, ns_i99, ns_i100, ns_i144, ns_i200, ns_i255, ns_i700, ns_i880, ns_i899, ns_i900, ns_i901, ns_i999, ns_i1000, ns_i1440, ns_i4095, ns_i1000000, hm.2.2.2.1]
    rfl
  | cons q l ih =>
    intro i m hi hl hm hask
    obtain ⟨k1, k2, k3⟩ := drop_p hl
    obtain ⟨g1, g2⟩ := hm.2.2.2.2.1 i q k1
    have hq := hd.2.1 q (List.mem_of_getElem? k1)
    obtain ⟨m1, e1, f1⟩ := hol_m (show j < 7 by omega) (show i < 8 by omega) hq.2 g2 hask
    have gn : gi_ m1 126 (6 * j + i) = nI q.1 := (f1 _ _ (by omega)).trans g1
    have e1t : b01_ true = nI 1 := rfl
    have e0t : b01_ false = nI 0 := rfl
    unfold cby_
    by_cases c : hv_ (ev_ uw q.2 []) = true
    · rw [c, e1t] at e1
      rw [if_pos c]
      refine ⟨m1, ?_, f1⟩
      rw [e_X12_classBy_11]
      simp (disch := omega) only [↓reduceIte, ↓ns_m1, ns_let, ns_lef, ns_ltt, ns_ltf, ns_eqt, ns_eqf, ns_gd, nI_clamp, nI_add, pk_sub, pk_mul, ns_m1a, ns_m1b, ns_m1c, ns_m1d, ns_m1e, ns_m1f, ns_m1g, ns_un1, ns_un0, ns_day1, Option.bind_some, gi_si_self, gi_si_ne, gl_si, gi_sl, gl_sl_self, gl_sl_ne, if_true, if_false, ns_i0, ns_i1, ns_i2, ns_i3, ns_i4, ns_i5, ns_i6, ns_i7, ns_i8, ns_i9, ns_i10, ns_i11, ns_i12, ns_i13, ns_i20, ns_i23, ns_i24, ns_i31, ns_i50, ns_i60, ns_i99, ns_i100, ns_i144, ns_i200, ns_i255, ns_i700, ns_i880, ns_i899, ns_i900, ns_i901, ns_i999, ns_i1000, ns_i1440, ns_i4095, ns_i1000000, hm.2.2.2.1, e1, gn, show (42 : Int32) = nI 42 from rfl]
    · rw [Bool.eq_false_iff.mpr c, e0t] at e1
      rw [if_neg c]
      obtain ⟨m2, e2, f2⟩ := ih (i + 1) m1 (by omega) k2 (orm_fr hm fun a k h1 h2 => f1 a k (by omega)) (fun w hw => (f1 _ _ (by omega)).trans (hask w hw))
      refine ⟨m2, ?_, fun a k ha => (f2 a k ha).trans (f1 a k ha)⟩
      rw [e_X12_classBy_11]
      simp (disch := omega) only [↓reduceIte, ↓ns_m1, ns_let, ns_lef, ns_ltt, ns_ltf, ns_eqt, ns_eqf, ns_gd, nI_clamp, nI_add, pk_sub, pk_mul, ns_m1a, ns_m1b, ns_m1c, ns_m1d, ns_m1e, ns_m1f, ns_m1g, ns_un1, ns_un0, ns_day1, Option.bind_some, gi_si_self, gi_si_ne, gl_si, gi_sl, gl_sl_self, gl_sl_ne, if_true, if_false, ns_i0, ns_i1, ns_i2, ns_i3, ns_i4, ns_i5, ns_i6, ns_i7, ns_i8, ns_i9, ns_i10, ns_i11, ns_i12, ns_i13, ns_i20, ns_i23, ns_i24, ns_i31, ns_i50, ns_i60, ns_i99, ns_i100, ns_i144, ns_i200, ns_i255, ns_i700, ns_i880, ns_i899, ns_i900, ns_i901, ns_i999, ns_i1000, ns_i1440, ns_i4095, ns_i1000000, hm.2.2.2.1, e1, e2]
