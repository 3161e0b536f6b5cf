/-! ===== the reference takes a draft over, and the readings away ===== -/
theorem drop_m {F : List fa_} {T : Nat} {m : fm_} (hw : fw_ F T) (h : fm1s_ F T m) : ∃ m1, f_X12_map_197 (nI 0) m = f_X12_map_197 (nI F.length) m1 ∧ fm1s_ (F.map drp_) T m1 ∧ sa_ [(141, 141, 0)] m m1 := by
  have hl := hw.1
  obtain ⟨m1, e, h1, h2⟩ := lp0_ (n := F.length) (F := fun i m => f_X12_map_197 (nI i) m) (I := fun i m' => (∀ j q, F[j]? = some q → gi_ m' 141 j = nI ((if j < i then drp_ q else q).1)) ∧ sa_ [(141, 141, 0)] m m') (fun i m0 hi hI => by
    obtain ⟨i1, i2⟩ := hI
    have ei := List.getElem?_eq_getElem hi
    generalize F[i] = q at ei
    have g1 := i1 i q ei
    rw [if_neg (Nat.lt_irrefl _)] at g1
    have g7 : gi_ m0 106 58 = nI F.length := (sa_gi i2 (by rfl)).trans h.1
    have b1 := (hw.2.2 q (List.mem_of_getElem? ei)).1
    show ∃ s', f_X12_map_197 (nI i) m0 = f_X12_map_197 (nI (i + 1)) s' ∧ _
    rw [e_X12_map_197]
    by_cases c : q.1 = 1
    · refine ⟨si_ m0 141 i (nI 3), ?_, fun j u hj => ?_, sa_si (by rfl) i2⟩
      · simp (disch := omega) only [↓reduceIte, ↓ns_m1, ns_let, ns_lef, ns_ltt, ns_ltf, ns_eqt, ns_eqf, ns_gd, nI_clamp, nI_add, pk_sub, pk_mul, ns_m1a, ns_m1b, ns_m1c, ns_m1d, ns_m1e, ns_m1f, ns_m1g, ns_un1, ns_un0, ns_day1, Option.bind_some, gi_si_self, gi_si_ne, gl_si, gi_sl, gl_sl_self, gl_sl_ne, if_true, if_false, ns_i0, ns_i1, ns_i2, ns_i3, ns_i4, ns_i5, ns_i6, ns_i7, ns_i8, ns_i9, ns_i10, ns_i11, ns_i12, ns_i13, ns_i20, ns_i23, ns_i24, ns_i31, ns_i50, ns_i60, ns_i99, ns_i100, ns_i144, ns_i200, ns_i255, ns_i700, ns_i880, ns_i899, ns_i900, ns_i901, ns_i999, ns_i1000, ns_i1440, ns_i4095, ns_i1000000, g7, g1, c]
      · by_cases cj : j = i
        · subst cj
          rw [ei] at hj
          injection hj with hj
          subst hj
          rw [gi_si_self, if_pos (by omega)]
          unfold drp_
          rw [if_pos c]
        · rw [gi_si_ne (by omega), i1 j u hj]
          by_cases cl : j < i
          · rw [if_pos cl, if_pos (by omega)]
          · rw [if_neg cl, if_neg (by omega)]
    · refine ⟨m0, ?_, fun j u hj => ?_, i2⟩
      · simp (disch := omega) only [↓reduceIte, ↓ns_m1, ns_let, ns_lef, ns_ltt, ns_ltf, ns_eqt, ns_eqf, ns_gd, nI_clamp, nI_add, pk_sub, pk_mul, ns_m1a, ns_m1b, ns_m1c, ns_m1d, ns_m1e, ns_m1f, ns_m1g, ns_un1, ns_un0, ns_day1, Option.bind_some, gi_si_self, gi_si_ne, gl_si, gi_sl, gl_sl_self, gl_sl_ne, if_true, if_false, ns_i0, ns_i1, ns_i2, ns_i3, ns_i4, ns_i5, ns_i6, ns_i7, ns_i8, ns_i9, ns_i10, ns_i11, ns_i12, ns_i13, ns_i20, ns_i23, ns_i24, ns_i31, ns_i50, ns_i60, ns_i99, ns_i100, ns_i144, ns_i200, ns_i255, ns_i700, ns_i880, ns_i899, ns_i900, ns_i901, ns_i999, ns_i1000, ns_i1440, ns_i4095, ns_i1000000, g7, g1]
      · by_cases cj : j = i
        · subst cj
          rw [ei] at hj
          injection hj with hj
          subst hj
          rw [g1, if_pos (by omega)]
          unfold drp_
          rw [if_neg c]
        · rw [i1 j u hj]
          by_cases cl : j < i
          · rw [if_pos cl, if_pos (by omega)]
          · rw [if_neg cl, if_neg (by omega)]) (s := m) ⟨fun j q hj => by rw [if_neg (Nat.not_lt_zero _)]; exact (h.2.2 j q hj).1, sa_rf⟩
  have e : f_X12_map_197 (nI 0) m = f_X12_map_197 (nI F.length) m1 := e
  refine ⟨m1, e, ⟨?_, ?_, fun j q hj => ?_⟩, h2⟩
  · rw [List.length_map]; exact (sa_gi h2 (by rfl)).trans h.1
  · exact (sa_gi h2 (by rfl)).trans h.2.1
  · obtain ⟨u, hu, rfl⟩ := map_get hj
    have hjl := (List.getElem?_eq_some_iff.mp hu).1
    obtain ⟨k1, k2, k3, k4, k5, k6, k7⟩ := h.2.2 j u hu
    have g := h1 j u hu
    rw [if_pos hjl] at g
    have e2 := (drp_1 u).2.1
    refine ⟨g, ?_, ?_, ?_, ?_, fun q => absurd q (drp_1 u).1, fun q => ?_⟩
    · rw [e2]; exact (sa_gi h2 (by rfl)).trans k2
    · rw [e2]; exact (sa_gi h2 (by rfl)).trans k3
    · rw [e2]; exact (sa_gi h2 (by rfl)).trans k4
    · rw [e2]; exact (sa_gi h2 (by rfl)).trans k5
    · have := k7 ((drp_1 u).2.2 q)
      rw [e2, sa_gi h2 (a := 145) (k := j) (by rfl), sa_gi h2 (a := 146) (k := j) (by rfl), sa_gi h2 (a := 147) (k := j) (by rfl), sa_gi h2 (a := 148) (k := j) (by rfl)]
      exact this
theorem take_w {nw : Nat} (hn : nw ≤ 24) {m : fm_} (h : gi_ m 106 16 = nI nw) : ∃ m1, f_X12_map_61 (nI 0) m = f_X12_map_113 (nI 0) m1 ∧ (∀ j, j < nw → gi_ m1 114 j = gi_ m 108 j ∧ gi_ m1 115 j = gi_ m 109 j ∧ gi_ m1 116 j = gi_ m 110 j) ∧ sa_ [(114, 116, 0)] m m1 := by
  obtain ⟨m1, e, h1, h2⟩ := lp0_ (n := nw) (F := fun i m => f_X12_map_61 (nI i) m) (I := fun i m' => (∀ j, j < i → gi_ m' 114 j = gi_ m 108 j ∧ gi_ m' 115 j = gi_ m 109 j ∧ gi_ m' 116 j = gi_ m 110 j) ∧ sa_ [(114, 116, 0)] m m') (fun i m0 hi hI => by
    obtain ⟨i1, i2⟩ := hI
    have g : gi_ m0 106 16 = nI nw := (sa_gi i2 (by rfl)).trans h
    have e1 : gi_ m0 108 i = gi_ m 108 i := sa_gi i2 (by rfl)
    have e2 : gi_ m0 109 i = gi_ m 109 i := sa_gi i2 (by rfl)
    have e3 : gi_ m0 110 i = gi_ m 110 i := sa_gi i2 (by rfl)
    refine ⟨si_ (si_ (si_ m0 114 i (gi_ m 108 i)) 115 i (gi_ m 109 i)) 116 i (gi_ m 110 i), ?_, fun j hj => ?_, sa_si (by rfl) (sa_si (by rfl) (sa_si (by rfl) i2))⟩
    · show f_X12_map_61 (nI i) m0 = f_X12_map_61 (nI (i + 1)) _
      rw [e_X12_map_61]
      simp (disch := omega) only [↓reduceIte, ↓ns_m1, ns_let, ns_lef, ns_ltt, ns_ltf, ns_eqt, ns_eqf, ns_gd, nI_clamp, nI_add, pk_sub, pk_mul, ns_m1a, ns_m1b, ns_m1c, ns_m1d, ns_m1e, ns_m1f, ns_m1g, ns_un1, ns_un0, ns_day1, Option.bind_some, gi_si_self, gi_si_ne, gl_si, gi_sl, gl_sl_self, gl_sl_ne, if_true, if_false, ns_i0, ns_i1, ns_i2, ns_i3, ns_i4, ns_i5, ns_i6, ns_i7, ns_i8, ns_i9, ns_i10, ns_i11, ns_i12, ns_i13, ns_i20, ns_i23, ns_i24, ns_i31, ns_i50, ns_i60, ns_i99, ns_i100, ns_i144, ns_i200, ns_i255, ns_i700, ns_i880, ns_i899, ns_i900, ns_i901, ns_i999, ns_i1000, ns_i1440, ns_i4095, ns_i1000000, g, e1, e2, e3, gi_si]
    · by_cases c : j = i
      · subst c
        simp [gi_si]
      · have := i1 j (by omega)
        simpa [gi_si, c] using this) (s := m) ⟨fun j hj => absurd hj (Nat.not_lt_zero _), sa_rf⟩
  have e : f_X12_map_61 (nI 0) m = f_X12_map_61 (nI nw) m1 := e
  have g : gi_ m1 106 16 = nI nw := (sa_gi h2 (by rfl)).trans h
  refine ⟨m1, ?_, h1, h2⟩
  rw [e, e_X12_map_61, g, if_pos (nI_le (Nat.le_refl _) (by omega))]
  rfl
theorem take_k {nc : Nat} (hn : nc ≤ 8) {m : fm_} (h : gi_ m 106 17 = nI nc) : ∃ m1, f_X12_map_113 (nI 0) m = f_X12_map_197 (nI 0) (si_ (si_ (si_ (si_ m1 106 29 (gi_ m 106 16)) 106 30 (nI nc)) 106 31 (gi_ m 106 18)) 106 32 (gi_ m 106 19)) ∧ (∀ j, j < nc → gi_ m1 117 j = gi_ m 111 j ∧ gi_ m1 118 j = gi_ m 112 j ∧ gi_ m1 119 j = gi_ m 113 j) ∧ sa_ [(117, 119, 0)] m m1 := by
  obtain ⟨m1, e, h1, h2⟩ := lp0_ (n := nc) (F := fun i m => f_X12_map_113 (nI i) m) (I := fun i m' => (∀ j, j < i → gi_ m' 117 j = gi_ m 111 j ∧ gi_ m' 118 j = gi_ m 112 j ∧ gi_ m' 119 j = gi_ m 113 j) ∧ sa_ [(117, 119, 0)] m m') (fun i m0 hi hI => by
    obtain ⟨i1, i2⟩ := hI
    have g : gi_ m0 106 17 = nI nc := (sa_gi i2 (by rfl)).trans h
    have e1 : gi_ m0 111 i = gi_ m 111 i := sa_gi i2 (by rfl)
    have e2 : gi_ m0 112 i = gi_ m 112 i := sa_gi i2 (by rfl)
    have e3 : gi_ m0 113 i = gi_ m 113 i := sa_gi i2 (by rfl)
    refine ⟨si_ (si_ (si_ m0 117 i (gi_ m 111 i)) 118 i (gi_ m 112 i)) 119 i (gi_ m 113 i), ?_, fun j hj => ?_, sa_si (by rfl) (sa_si (by rfl) (sa_si (by rfl) i2))⟩
    · show f_X12_map_113 (nI i) m0 = f_X12_map_113 (nI (i + 1)) _
      rw [e_X12_map_113]
      simp (disch := omega) only [↓reduceIte, ↓ns_m1, ns_let, ns_lef, ns_ltt, ns_ltf, ns_eqt, ns_eqf, ns_gd, nI_clamp, nI_add, pk_sub, pk_mul, ns_m1a, ns_m1b, ns_m1c, ns_m1d, ns_m1e, ns_m1f, ns_m1g, ns_un1, ns_un0, ns_day1, Option.bind_some, gi_si_self, gi_si_ne, gl_si, gi_sl, gl_sl_self, gl_sl_ne, if_true, if_false, ns_i0, ns_i1, ns_i2, ns_i3, ns_i4, ns_i5, ns_i6, ns_i7, ns_i8, ns_i9, ns_i10, ns_i11, ns_i12, ns_i13, ns_i20, ns_i23, ns_i24, ns_i31, ns_i50, ns_i60, ns_i99, ns_i100, ns_i144, ns_i200, ns_i255, ns_i700, ns_i880, ns_i899, ns_i900, ns_i901, ns_i999, ns_i1000, ns_i1440, ns_i4095, ns_i1000000, g, e1, e2, e3, gi_si]
    · by_cases c : j = i
      · subst c
        simp [gi_si]
      · have := i1 j (by omega)
        simpa [gi_si, c] using this) (s := m) ⟨fun j hj => absurd hj (Nat.not_lt_zero _), sa_rf⟩
  have e : f_X12_map_113 (nI 0) m = f_X12_map_113 (nI nc) m1 := e
  have g : gi_ m1 106 17 = nI nc := (sa_gi h2 (by rfl)).trans h
  refine ⟨m1, ?_, h1, h2⟩
  rw [e, e_X12_map_113, g, if_pos (nI_le (Nat.le_refl _) (by omega)), sa_gi h2 (a := 106) (k := 16) (by rfl), sa_gi h2 (a := 106) (k := 18) (by rfl), sa_gi h2 (a := 106) (k := 19) (by rfl)]
  rfl
