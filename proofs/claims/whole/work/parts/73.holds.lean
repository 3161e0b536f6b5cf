/-! the reference's machine -/
def askm_ (al : Nat → Bool) (uw : Nat → Int32) (m : fm_) : Prop := ∀ w, al w = true → gi_ m 136 w = uw w
theorem hold_m {jo l : Nat} (hj : jo < 7) (hl : l < 8) {al : Nat → Bool} {uw : Nat → Int32} {m0 : fm_} {eN : Nat} (hE : gi_ m0 125 (8 * jo + l) = nI eN) (hE7 : eN ≤ 700) (hask : askm_ al uw m0) : ∀ (c : cd_) (pos : Nat) (S : List Int32) (t : List Bool) (m : fm_), (∀ a k, ¬ a = 137 → gi_ m a k = gi_ m0 a k) → (∀ i q, c[i]? = some q → gi_ m0 122 (pos + i) = nI q.1 ∧ (q.1 = 0 → gi_ m0 123 (pos + i) = nI q.2)) → pos + c.length = 700 * jo + eN → stk_ 137 S m → vt_ t S → S.length ≤ 50 → tyc_ al c t = some [true] → ∃ m', f_X12_holds_37 (nI jo) (nI l) (nI S.length) (nI pos) m = some (b01_ (hv_ (ev_ uw c S)), m') ∧ ∀ a k, ¬ a = 137 → gi_ m' a k = gi_ m0 a k := by
  intro c
  induction c with
  | nil =>
    intro pos S t m hfr hcode hend hst hvt hS hty
    cases hty
    have hlen : pos = 700 * jo + eN := hend
    match S, hvt with
    | [v], hvt =>
      have hv := hvt.1 rfl
      have g0 : gi_ m 137 0 = v := (stk_top hst).1
      have gE : gi_ m 125 (8 * jo + l) = nI eN := (hfr 125 _ (by omega)).trans hE
      refine ⟨m, ?_, hfr⟩
      rw [e_X12_holds_37]
      simp (disch := omega) only [↓reduceIte, ↓ns_m1, ns_let, ns_lef, ns_ltt, ns_ltf, ns_eqt, ns_eqf, ns_gd, nI_clamp, nI_add, pk_sub, pk_mul, ns_m1a, ns_m1b, ns_m1c, ns_m1d, ns_m1e, ns_m1f, ns_m1g, ns_un1, ns_un0, ns_day1, Option.bind_some, gi_si_self, gi_si_ne, gl_si, gi_sl, gl_sl_self, gl_sl_ne, if_true, if_false, ns_i0, ns_i1, ns_i2, ns_i3, ns_i4, ns_i5, ns_i6, ns_i7, ns_i8, ns_i9, ns_i10, ns_i11, ns_i12, ns_i13, ns_i20, ns_i23, ns_i24, ns_i31, ns_i50, ns_i60, ns_i99, ns_i100, ns_i144, ns_i200, ns_i255, ns_i700, ns_i880, ns_i899, ns_i900, ns_i901, ns_i999, ns_i1000, ns_i1440, ns_i4095, ns_i1000000, gE, g0]
      rcases hv with hv | hv
      · subst hv
        rfl
      · subst hv
        rfl
  | cons q c ih =>
    intro pos S t m hfr hcode hend hst hvt hS hty
    obtain ⟨t', h1, h2, h3⟩ := tyc_s hty
    obtain ⟨v1, v2⟩ := tys_v (uw := uw) h1 hvt
    have hl' := vt_len v1
    rw [List.length_cons] at hend
    have gE : gi_ m 125 (8 * jo + l) = nI eN := (hfr 125 _ (by omega)).trans hE
    have gw : gi_ m 122 pos = nI q.1 := (hfr 122 pos (by omega)).trans (hcode 0 q rfl).1
    have gv : q.1 = 0 → gi_ m 123 pos = nI q.2 := fun z => (hfr 123 pos (by omega)).trans ((hcode 0 q rfl).2 z)
    have nx : ∀ m1, (∀ a k, ¬ a = 137 → gi_ m1 a k = gi_ m0 a k) → stk_ 137 (es_ uw q S) m1 → f_X12_holds_37 (nI jo) (nI l) (nI S.length) (nI pos) m = f_X12_holds_37 (nI jo) (nI l) (nI (es_ uw q S).length) (nI (pos + 1)) m1 → ∃ m', f_X12_holds_37 (nI jo) (nI l) (nI S.length) (nI pos) m = some (b01_ (hv_ (ev_ uw (q :: c) S)), m') ∧ ∀ a k, ¬ a = 137 → gi_ m' a k = gi_ m0 a k := fun m1 hfr1 hst1 hs => by
      obtain ⟨m', e1, e2⟩ := ih (pos + 1) (es_ uw q S) t' m1 hfr1 (fun i r hi => by
        have := hcode (i + 1) r hi
        rw [show pos + (i + 1) = pos + 1 + i by omega] at this
        exact this) (by omega) hst1 v1 (by omega) h3
      exact ⟨m', by rw [hs, e1]; rfl, e2⟩
    have fr1 : ∀ (j : Nat) (x : Int32), ∀ a k, ¬ a = 137 → gi_ (si_ m 137 j x) a k = gi_ m0 a k := fun j x a k ha => (gi_si_ne (fun z => ha z.1)).trans (hfr a k ha)
    have ns : ∀ x : Int32, ∀ n : Nat, x = nI n → x = nI n := fun _ _ h => h
    rcases v2 with ⟨q0, q9, e⟩ | ⟨q1, q8, qa, e⟩ | ⟨q20, y, R, hS2, hy, e⟩ | ⟨qb, x, y, R, hS2, hxy, e⟩
    · have gv := gv q0
      rw [e] at nx
      refine nx (si_ m 137 S.length (nI q.2)) (fr1 _ _) (stk_push hst) ?_
      rw [List.length_cons, e_X12_holds_37]
      simp (disch := omega) only [↓reduceIte, ↓ns_m1, ns_let, ns_lef, ns_ltt, ns_ltf, ns_eqt, ns_eqf, ns_gd, nI_clamp, nI_add, pk_sub, pk_mul, ns_m1a, ns_m1b, ns_m1c, ns_m1d, ns_m1e, ns_m1f, ns_m1g, ns_un1, ns_un0, ns_day1, Option.bind_some, gi_si_self, gi_si_ne, gl_si, gi_sl, gl_sl_self, gl_sl_ne, if_true, if_false, ns_i0, ns_i1, ns_i2, ns_i3, ns_i4, ns_i5, ns_i6, ns_i7, ns_i8, ns_i9, ns_i10, ns_i11, ns_i12, ns_i13, ns_i20, ns_i23, ns_i24, ns_i31, ns_i50, ns_i60, ns_i99, ns_i100, ns_i144, ns_i200, ns_i255, ns_i700, ns_i880, ns_i899, ns_i900, ns_i901, ns_i999, ns_i1000, ns_i1440, ns_i4095, ns_i1000000, gE, gw, q0, gv, show (4900 : Int32) = nI 4900 from rfl]
    · have ga : gi_ m 136 q.1 = uw q.1 := (hfr 136 _ (by omega)).trans (hask q.1 qa)
      rw [e] at nx
      refine nx (si_ m 137 S.length (uw q.1)) (fr1 _ _) (stk_push hst) ?_
      rw [List.length_cons, e_X12_holds_37]
      simp (disch := omega) only [↓reduceIte, ↓ns_m1, ns_let, ns_lef, ns_ltt, ns_ltf, ns_eqt, ns_eqf, ns_gd, nI_clamp, nI_add, pk_sub, pk_mul, ns_m1a, ns_m1b, ns_m1c, ns_m1d, ns_m1e, ns_m1f, ns_m1g, ns_un1, ns_un0, ns_day1, Option.bind_some, gi_si_self, gi_si_ne, gl_si, gi_sl, gl_sl_self, gl_sl_ne, if_true, if_false, ns_i0, ns_i1, ns_i2, ns_i3, ns_i4, ns_i5, ns_i6, ns_i7, ns_i8, ns_i9, ns_i10, ns_i11, ns_i12, ns_i13, ns_i20, ns_i23, ns_i24, ns_i31, ns_i50, ns_i60, ns_i99, ns_i100, ns_i144, ns_i200, ns_i255, ns_i700, ns_i880, ns_i899, ns_i900, ns_i901, ns_i999, ns_i1000, ns_i1440, ns_i4095, ns_i1000000, gE, gw, ga]
    · rw [hS2] at hst hS nx ⊢
      rw [hS2] at e
      rw [e] at nx
      obtain ⟨g1, st1⟩ := stk_top hst
      rw [List.length_cons] at hS
      refine nx (si_ m 137 R.length (1 - y)) (fr1 _ _) (stk_push st1) ?_
      have el : R.length + 1 - 1 = R.length := by omega
      rw [List.length_cons, List.length_cons, e_X12_holds_37]
      simp (disch := omega) only [↓reduceIte, ↓ns_m1, ns_let, ns_lef, ns_ltt, ns_ltf, ns_eqt, ns_eqf, ns_gd, nI_clamp, nI_add, pk_sub, pk_mul, ns_m1a, ns_m1b, ns_m1c, ns_m1d, ns_m1e, ns_m1f, ns_m1g, ns_un1, ns_un0, ns_day1, Option.bind_some, gi_si_self, gi_si_ne, gl_si, gi_sl, gl_sl_self, gl_sl_ne, if_true, if_false, ns_i0, ns_i1, ns_i2, ns_i3, ns_i4, ns_i5, ns_i6, ns_i7, ns_i8, ns_i9, ns_i10, ns_i11, ns_i12, ns_i13, ns_i20, ns_i23, ns_i24, ns_i31, ns_i50, ns_i60, ns_i99, ns_i100, ns_i144, ns_i200, ns_i255, ns_i700, ns_i880, ns_i899, ns_i900, ns_i901, ns_i999, ns_i1000, ns_i1440, ns_i4095, ns_i1000000, gE, gw, q20, el, g1]
    · rw [hS2] at hst hS nx ⊢
      rw [hS2] at e
      rw [e] at nx
      obtain ⟨g1, st1⟩ := stk_top hst
      obtain ⟨g2, st2⟩ := stk_top st1
      rw [List.length_cons, List.length_cons] at hS
      rw [List.length_cons] at g1
      refine nx (si_ m 137 R.length (bin_ q.1 x y)) (fr1 _ _) (stk_push st2) ?_
      have el : R.length + 1 + 1 - 1 = R.length + 1 := by omega
      have el2 : R.length + 1 - 1 = R.length := by omega
      have lt_le : ∀ a b : Int32, ¬ a < b ↔ b ≤ a := fun a b => by rw [Int32.lt_iff_toInt_lt, Int32.le_iff_toInt_le]; omega
      rw [List.length_cons, List.length_cons, List.length_cons, e_X12_holds_37]
      have key : q.1 = 21 ∨ q.1 = 22 ∨ q.1 = 23 ∨ q.1 = 24 ∨ q.1 = 25 ∨ q.1 = 26 ∨ q.1 = 27 := by omega
      have il : (21 : Int32) = nI 21 ∧ (22 : Int32) = nI 22 ∧ (25 : Int32) = nI 25 ∧ (26 : Int32) = nI 26 := ⟨rfl, rfl, rfl, rfl⟩
      rcases key with z | z | z | z | z | z | z
      · obtain ⟨hx, hy⟩ := hxy (Or.inl z)
        obtain ⟨_, b2, _, b4, _⟩ := b01_and hx hy
        by_cases c0 : x ||| y = 0
        · have eb : bin_ q.1 x y = nI 0 := by unfold bin_; rw [if_pos z, c0]; rfl
          have ec : (x + y ≤ nI 0) = True := eq_true (b4.mpr c0)
          rw [eb]
          simp (disch := omega) only [↓reduceIte, ↓ns_m1, ns_let, ns_lef, ns_ltt, ns_ltf, ns_eqt, ns_eqf, ns_gd, nI_clamp, nI_add, pk_sub, pk_mul, ns_m1a, ns_m1b, ns_m1c, ns_m1d, ns_m1e, ns_m1f, ns_m1g, ns_un1, ns_un0, ns_day1, Option.bind_some, gi_si_self, gi_si_ne, gl_si, gi_sl, gl_sl_self, gl_sl_ne, if_true, if_false, ns_i0, ns_i1, ns_i2, ns_i3, ns_i4, ns_i5, ns_i6, ns_i7, ns_i8, ns_i9, ns_i10, ns_i11, ns_i12, ns_i13, ns_i20, ns_i23, ns_i24, ns_i31, ns_i50, ns_i60, ns_i99, ns_i100, ns_i144, ns_i200, ns_i255, ns_i700, ns_i880, ns_i899, ns_i900, ns_i901, ns_i999, ns_i1000, ns_i1440, ns_i4095, ns_i1000000, gE, gw, z, el, el2, g1, g2, il.1, il.2.1, il.2.2.1, il.2.2.2, ec]
        · have eb : bin_ q.1 x y = nI 1 := by unfold bin_; rw [if_pos z]; exact b2.resolve_left c0
          have ec : (x + y ≤ nI 0) = False := eq_false fun w => c0 (b4.mp w)
          rw [eb]
          simp (disch := omega) only [↓reduceIte, ↓ns_m1, ns_let, ns_lef, ns_ltt, ns_ltf, ns_eqt, ns_eqf, ns_gd, nI_clamp, nI_add, pk_sub, pk_mul, ns_m1a, ns_m1b, ns_m1c, ns_m1d, ns_m1e, ns_m1f, ns_m1g, ns_un1, ns_un0, ns_day1, Option.bind_some, gi_si_self, gi_si_ne, gl_si, gi_sl, gl_sl_self, gl_sl_ne, if_true, if_false, ns_i0, ns_i1, ns_i2, ns_i3, ns_i4, ns_i5, ns_i6, ns_i7, ns_i8, ns_i9, ns_i10, ns_i11, ns_i12, ns_i13, ns_i20, ns_i23, ns_i24, ns_i31, ns_i50, ns_i60, ns_i99, ns_i100, ns_i144, ns_i200, ns_i255, ns_i700, ns_i880, ns_i899, ns_i900, ns_i901, ns_i999, ns_i1000, ns_i1440, ns_i4095, ns_i1000000, gE, gw, z, el, el2, g1, g2, il.1, il.2.1, il.2.2.1, il.2.2.2, ec]
      · obtain ⟨hx, hy⟩ := hxy (Or.inr z)
        obtain ⟨b1, _, _, _, b5⟩ := b01_and hx hy
        by_cases c0 : x &&& y = 0
        · have eb : bin_ q.1 x y = nI 0 := by unfold bin_; rw [if_neg (by omega), if_pos z, c0]; rfl
          have ec : (x + y ≤ nI 1) = True := eq_true (b5.mpr c0)
          rw [eb]
          simp (disch := omega) only [↓reduceIte, ↓ns_m1, ns_let, ns_lef, ns_ltt, ns_ltf, ns_eqt, ns_eqf, ns_gd, nI_clamp, nI_add, pk_sub, pk_mul, ns_m1a, ns_m1b, ns_m1c, ns_m1d, ns_m1e, ns_m1f, ns_m1g, ns_un1, ns_un0, ns_day1, Option.bind_some, gi_si_self, gi_si_ne, gl_si, gi_sl, gl_sl_self, gl_sl_ne, if_true, if_false, ns_i0, ns_i1, ns_i2, ns_i3, ns_i4, ns_i5, ns_i6, ns_i7, ns_i8, ns_i9, ns_i10, ns_i11, ns_i12, ns_i13, ns_i20, ns_i23, ns_i24, ns_i31, ns_i50, ns_i60, ns_i99, ns_i100, ns_i144, ns_i200, ns_i255, ns_i700, ns_i880, ns_i899, ns_i900, ns_i901, ns_i999, ns_i1000, ns_i1440, ns_i4095, ns_i1000000, gE, gw, z, el, el2, g1, g2, il.1, il.2.1, il.2.2.1, il.2.2.2, ec]
        · have eb : bin_ q.1 x y = nI 1 := by unfold bin_; rw [if_neg (by omega), if_pos z]; exact b1.resolve_left c0
          have ec : (x + y ≤ nI 1) = False := eq_false fun w => c0 (b5.mp w)
          rw [eb]
          simp (disch := omega) only [↓reduceIte, ↓ns_m1, ns_let, ns_lef, ns_ltt, ns_ltf, ns_eqt, ns_eqf, ns_gd, nI_clamp, nI_add, pk_sub, pk_mul, ns_m1a, ns_m1b, ns_m1c, ns_m1d, ns_m1e, ns_m1f, ns_m1g, ns_un1, ns_un0, ns_day1, Option.bind_some, gi_si_self, gi_si_ne, gl_si, gi_sl, gl_sl_self, gl_sl_ne, if_true, if_false, ns_i0, ns_i1, ns_i2, ns_i3, ns_i4, ns_i5, ns_i6, ns_i7, ns_i8, ns_i9, ns_i10, ns_i11, ns_i12, ns_i13, ns_i20, ns_i23, ns_i24, ns_i31, ns_i50, ns_i60, ns_i99, ns_i100, ns_i144, ns_i200, ns_i255, ns_i700, ns_i880, ns_i899, ns_i900, ns_i901, ns_i999, ns_i1000, ns_i1440, ns_i4095, ns_i1000000, gE, gw, z, el, el2, g1, g2, il.1, il.2.1, il.2.2.1, il.2.2.2, ec]
      · by_cases c0 : x = y
        · have eb : bin_ q.1 x y = nI 1 := by unfold bin_; rw [if_neg (by omega), if_neg (by omega), if_pos z, if_pos c0]; rfl
          rw [eb]
          simp (disch := omega) only [↓reduceIte, ↓ns_m1, ns_let, ns_lef, ns_ltt, ns_ltf, ns_eqt, ns_eqf, ns_gd, nI_clamp, nI_add, pk_sub, pk_mul, ns_m1a, ns_m1b, ns_m1c, ns_m1d, ns_m1e, ns_m1f, ns_m1g, ns_un1, ns_un0, ns_day1, Option.bind_some, gi_si_self, gi_si_ne, gl_si, gi_sl, gl_sl_self, gl_sl_ne, if_true, if_false, ns_i0, ns_i1, ns_i2, ns_i3, ns_i4, ns_i5, ns_i6, ns_i7, ns_i8, ns_i9, ns_i10, ns_i11, ns_i12, ns_i13, ns_i20, ns_i23, ns_i24, ns_i31, ns_i50, ns_i60, ns_i99, ns_i100, ns_i144, ns_i200, ns_i255, ns_i700, ns_i880, ns_i899, ns_i900, ns_i901, ns_i999, ns_i1000, ns_i1440, ns_i4095, ns_i1000000, gE, gw, z, el, el2, g1, g2, il.1, il.2.1, il.2.2.1, il.2.2.2, c0]
        · have eb : bin_ q.1 x y = nI 0 := by unfold bin_; rw [if_neg (by omega), if_neg (by omega), if_pos z, if_neg c0]; rfl
          rw [eb]
          simp (disch := omega) only [↓reduceIte, ↓ns_m1, ns_let, ns_lef, ns_ltt, ns_ltf, ns_eqt, ns_eqf, ns_gd, nI_clamp, nI_add, pk_sub, pk_mul, ns_m1a, ns_m1b, ns_m1c, ns_m1d, ns_m1e, ns_m1f, ns_m1g, ns_un1, ns_un0, ns_day1, Option.bind_some, gi_si_self, gi_si_ne, gl_si, gi_sl, gl_sl_self, gl_sl_ne, if_true, if_false, ns_i0, ns_i1, ns_i2, ns_i3, ns_i4, ns_i5, ns_i6, ns_i7, ns_i8, ns_i9, ns_i10, ns_i11, ns_i12, ns_i13, ns_i20, ns_i23, ns_i24, ns_i31, ns_i50, ns_i60, ns_i99, ns_i100, ns_i144, ns_i200, ns_i255, ns_i700, ns_i880, ns_i899, ns_i900, ns_i901, ns_i999, ns_i1000, ns_i1440, ns_i4095, ns_i1000000, gE, gw, z, el, el2, g1, g2, il.1, il.2.1, il.2.2.1, il.2.2.2, c0]
      · by_cases c0 : x < y
        · have eb : bin_ q.1 x y = nI 1 := by unfold bin_; rw [if_neg (by omega), if_neg (by omega), if_neg (by omega), if_pos z, if_pos c0]; rfl
          have ec : (y ≤ x) = False := eq_false fun w => (lt_le x y).mpr w c0
          rw [eb]
          simp (disch := omega) only [↓reduceIte, ↓ns_m1, ns_let, ns_lef, ns_ltt, ns_ltf, ns_eqt, ns_eqf, ns_gd, nI_clamp, nI_add, pk_sub, pk_mul, ns_m1a, ns_m1b, ns_m1c, ns_m1d, ns_m1e, ns_m1f, ns_m1g, ns_un1, ns_un0, ns_day1, Option.bind_some, gi_si_self, gi_si_ne, gl_si, gi_sl, gl_sl_self, gl_sl_ne, if_true, if_false, ns_i0, ns_i1, ns_i2, ns_i3, ns_i4, ns_i5, ns_i6, ns_i7, ns_i8, ns_i9, ns_i10, ns_i11, ns_i12, ns_i13, ns_i20, ns_i23, ns_i24, ns_i31, ns_i50, ns_i60, ns_i99, ns_i100, ns_i144, ns_i200, ns_i255, ns_i700, ns_i880, ns_i899, ns_i900, ns_i901, ns_i999, ns_i1000, ns_i1440, ns_i4095, ns_i1000000, gE, gw, z, el, el2, g1, g2, il.1, il.2.1, il.2.2.1, il.2.2.2, ec]
        · have eb : bin_ q.1 x y = nI 0 := by unfold bin_; rw [if_neg (by omega), if_neg (by omega), if_neg (by omega), if_pos z, if_neg c0]; rfl
          have ec : (y ≤ x) = True := eq_true ((lt_le x y).mp c0)
          rw [eb]
          simp (disch := omega) only [↓reduceIte, ↓ns_m1, ns_let, ns_lef, ns_ltt, ns_ltf, ns_eqt, ns_eqf, ns_gd, nI_clamp, nI_add, pk_sub, pk_mul, ns_m1a, ns_m1b, ns_m1c, ns_m1d, ns_m1e, ns_m1f, ns_m1g, ns_un1, ns_un0, ns_day1, Option.bind_some, gi_si_self, gi_si_ne, gl_si, gi_sl, gl_sl_self, gl_sl_ne, if_true, if_false, ns_i0, ns_i1, ns_i2, ns_i3, ns_i4, ns_i5, ns_i6, ns_i7, ns_i8, ns_i9, ns_i10, ns_i11, ns_i12, ns_i13, ns_i20, ns_i23, ns_i24, ns_i31, ns_i50, ns_i60, ns_i99, ns_i100, ns_i144, ns_i200, ns_i255, ns_i700, ns_i880, ns_i899, ns_i900, ns_i901, ns_i999, ns_i1000, ns_i1440, ns_i4095, ns_i1000000, gE, gw, z, el, el2, g1, g2, il.1, il.2.1, il.2.2.1, il.2.2.2, ec]
      · by_cases c0 : y < x
        · have eb : bin_ q.1 x y = nI 1 := by unfold bin_; rw [if_neg (by omega), if_neg (by omega), if_neg (by omega), if_neg (by omega), if_pos z, if_pos c0]; rfl
          have ec : (x ≤ y) = False := eq_false fun w => (lt_le y x).mpr w c0
          rw [eb]
          simp (disch := omega) only [↓reduceIte, ↓ns_m1, ns_let, ns_lef, ns_ltt, ns_ltf, ns_eqt, ns_eqf, ns_gd, nI_clamp, nI_add, pk_sub, pk_mul, ns_m1a, ns_m1b, ns_m1c, ns_m1d, ns_m1e, ns_m1f, ns_m1g, ns_un1, ns_un0, ns_day1, Option.bind_some, gi_si_self, gi_si_ne, gl_si, gi_sl, gl_sl_self, gl_sl_ne, if_true, if_false, ns_i0, ns_i1, ns_i2, ns_i3, ns_i4, ns_i5, ns_i6, ns_i7, ns_i8, ns_i9, ns_i10, ns_i11, ns_i12, ns_i13, ns_i20, ns_i23, ns_i24, ns_i31, ns_i50, ns_i60, ns_i99, ns_i100, ns_i144, ns_i200, ns_i255, ns_i700, ns_i880, ns_i899, ns_i900, ns_i901, ns_i999, ns_i1000, ns_i1440, ns_i4095, ns_i1000000, gE, gw, z, el, el2, g1, g2, il.1, il.2.1, il.2.2.1, il.2.2.2, ec]
        · have eb : bin_ q.1 x y = nI 0 := by unfold bin_; rw [if_neg (by omega), if_neg (by omega), if_neg (by omega), if_neg (by omega), if_pos z, if_neg c0]; rfl
          have ec : (x ≤ y) = True := eq_true ((lt_le y x).mp c0)
          rw [eb]
          simp (disch := omega) only [↓reduceIte, ↓ns_m1, ns_let, ns_lef, ns_ltt, ns_ltf, ns_eqt, ns_eqf, ns_gd, nI_clamp, nI_add, pk_sub, pk_mul, ns_m1a, ns_m1b, ns_m1c, ns_m1d, ns_m1e, ns_m1f, ns_m1g, ns_un1, ns_un0, ns_day1, Option.bind_some, gi_si_self, gi_si_ne, gl_si, gi_sl, gl_sl_self, gl_sl_ne, if_true, if_false, ns_i0, ns_i1, ns_i2, ns_i3, ns_i4, ns_i5, ns_i6, ns_i7, ns_i8, ns_i9, ns_i10, ns_i11, ns_i12, ns_i13, ns_i20, ns_i23, ns_i24, ns_i31, ns_i50, ns_i60, ns_i99, ns_i100, ns_i144, ns_i200, ns_i255, ns_i700, ns_i880, ns_i899, ns_i900, ns_i901, ns_i999, ns_i1000, ns_i1440, ns_i4095, ns_i1000000, gE, gw, z, el, el2, g1, g2, il.1, il.2.1, il.2.2.1, il.2.2.2, ec]
      · have eb : bin_ q.1 x y = x + y := by unfold bin_; rw [if_neg (by omega), if_neg (by omega), if_neg (by omega), if_neg (by omega), if_neg (by omega), if_pos z]
        rw [eb]
        simp (disch := omega) only [↓reduceIte, ↓ns_m1, ns_let, ns_lef, ns_ltt, ns_ltf, ns_eqt, ns_eqf, ns_gd, nI_clamp, nI_add, pk_sub, pk_mul, ns_m1a, ns_m1b, ns_m1c, ns_m1d, ns_m1e, ns_m1f, ns_m1g, ns_un1, ns_un0, ns_day1, Option.bind_some, gi_si_self, gi_si_ne, gl_si, gi_sl, gl_sl_self, gl_sl_ne, if_true, if_false, ns_i0, ns_i1, ns_i2, ns_i3, ns_i4, ns_i5, ns_i6, ns_i7, ns_i8, ns_i9, ns_i10, ns_i11, ns_i12, ns_i13, ns_i20, ns_i23, ns_i24, ns_i31, ns_i50, ns_i60, ns_i99, ns_i100, ns_i144, ns_i200, ns_i255, ns_i700, ns_i880, ns_i899, ns_i900, ns_i901, ns_i999, ns_i1000, ns_i1440, ns_i4095, ns_i1000000, gE, gw, z, el, el2, g1, g2, il.1, il.2.1, il.2.2.1, il.2.2.2]
      · have eb : bin_ q.1 x y = x - y := by unfold bin_; rw [if_neg (by omega), if_neg (by omega), if_neg (by omega), if_neg (by omega), if_neg (by omega), if_neg (by omega)]
        rw [eb]
        simp (disch := omega) only [↓reduceIte, ↓ns_m1, ns_let, ns_lef, ns_ltt, ns_ltf, ns_eqt, ns_eqf, ns_gd, nI_clamp, nI_add, pk_sub, pk_mul, ns_m1a, ns_m1b, ns_m1c, ns_m1d, ns_m1e, ns_m1f, ns_m1g, ns_un1, ns_un0, ns_day1, Option.bind_some, gi_si_self, gi_si_ne, gl_si, gi_sl, gl_sl_self, gl_sl_ne, if_true, if_false, ns_i0, ns_i1, ns_i2, ns_i3, ns_i4, ns_i5, ns_i6, ns_i7, ns_i8, ns_i9, ns_i10, ns_i11, ns_i12, ns_i13, ns_i20, ns_i23, ns_i24, ns_i31, ns_i50, ns_i60, ns_i99, ns_i100, ns_i144, ns_i200, ns_i255, ns_i700, ns_i880, ns_i899, ns_i900, ns_i901, ns_i999, ns_i1000, ns_i1440, ns_i4095, ns_i1000000, gE, gw, z, el, el2, g1, g2, il.1, il.2.1, il.2.2.1, il.2.2.2]
