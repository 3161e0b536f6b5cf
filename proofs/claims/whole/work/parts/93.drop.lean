/-! ===== a new map takes the readings away ===== -/
def drp_ (q : fa_) : fa_ := if q.1 = 1 then (3, q.2) else q
theorem drp_1 (q : fa_) : ¬ (drp_ q).1 = 1 ∧ (drp_ q).2 = q.2 ∧ ((drp_ q).1 = 0 → q.1 = 0) := by
  unfold drp_
  by_cases c : q.1 = 1
  · rw [if_pos c]
    exact ⟨by show ¬ (3 : Nat) = 1; omega, rfl, fun h => absurd h (by show ¬ (3 : Nat) = 0; omega)⟩
  · rw [if_neg c]; exact ⟨c, rfl, fun h => h⟩
theorem map_get {F : List fa_} {j : Nat} {q : fa_} (h : (F.map drp_)[j]? = some q) : ∃ u, F[j]? = some u ∧ q = drp_ u := by
  rw [List.getElem?_map] at h
  cases e : F[j]? with
  | none => rw [e] at h; cases h
  | some u =>
    rw [e] at h
    have h : some (drp_ u) = some q := h
    injection h with h
    exact ⟨u, rfl, h.symm⟩
theorem rdn_drp {F : List fa_} {d : Nat} : ∀ n, rdn_ (F.map drp_) d n = []
  | 0 => rfl
  | n + 1 => by
    have : ¬ isrd_ (F.map drp_) d n = true := fun h => by
      obtain ⟨q, h1, h2, _⟩ := isrd_u h
      obtain ⟨u, _, e⟩ := map_get h1
      rw [e] at h2
      exact (drp_1 u).1 h2
    unfold rdn_
    rw [if_neg this]
    exact rdn_drp n
theorem kok_drp {W W' : List (Nat × Nat × Nat)} {P : pl_} {F : List fa_} {T : Nat} {C C' : List (Nat × Nat × Nat)} (hk : kok_ W P F T C) (hW : wok_ W') (hC : cok_ C') : kok_ W' P (F.map drp_) T C' ∧ rok2_ (F.map drp_) := by
  obtain ⟨_, hP, hF, _, hR⟩ := hk
  have key : ∀ q ∈ F.map drp_, ∃ u ∈ F, q = drp_ u := fun q hq => by
    obtain ⟨u, h1, h2⟩ := List.mem_map.mp hq
    exact ⟨u, h1, h2.symm⟩
  refine ⟨⟨hW, hP, ⟨by rw [List.length_map]; exact hF.1, hF.2.1, fun q hq => ?_⟩, hC, fun q hq h1 => ?_, fun d => ?_⟩, fun q hq h1 => ?_⟩
  · obtain ⟨u, h1, h2⟩ := key q hq
    have := hF.2.2 u h1
    subst h2
    refine ⟨?_, ?_⟩
    · unfold drp_
      by_cases c : u.1 = 1
      · rw [if_pos c]; show 3 ≤ 3; omega
      · rw [if_neg c]; exact this.1
    · rw [(drp_1 u).2.1]; exact this.2
  · obtain ⟨u, _, h2⟩ := key q hq
    rw [h2] at h1
    exact absurd h1 (drp_1 u).1
  · rw [rdn_drp]; exact Nat.zero_le _
  · obtain ⟨u, _, h2⟩ := key q hq
    rw [h2] at h1
    exact absurd h1 (drp_1 u).1
theorem drop_c {F : List fa_} {T : Nat} {m : fm_} (hw : fw_ F T) (h : fc_ F T m) : ∃ m1, f_X1_dropReadings m = some (0, m1) ∧ fc_ (F.map drp_) T m1 ∧ drc_ (F.map drp_) m1 := by
  have hl := hw.1
  obtain ⟨m1, e, h1, h2⟩ := lp0_ (n := F.length) (F := fun i m => f_X1_dropReadings_2 (nI i) m) (I := fun i m' => (∀ j q, F[j]? = some q → gi_ m' 73 j = nI ((if j < i then drp_ q else q).1 + 1)) ∧ sa_ [(73, 73, 0)] m m') (fun i m0 hi hI => by
    obtain ⟨i1, i2⟩ := hI
    have ei := List.getElem?_eq_getElem hi
    generalize F[i] = q at ei
    have g1 := i1 i q ei
    rw [if_neg (Nat.lt_irrefl _)] at g1
    have g7 : gi_ m0 72 7 = nI F.length := (sa_gi i2 (by rfl)).trans h.1
    have b1 := (hw.2.2 q (List.mem_of_getElem? ei)).1
    show ∃ s', f_X1_dropReadings_2 (nI i) m0 = f_X1_dropReadings_2 (nI (i + 1)) s' ∧ _
    rw [e_X1_dropReadings_2]
    by_cases c : q.1 = 1
    · refine ⟨si_ m0 73 i (nI 4), ?_, fun j u hj => ?_, sa_si (by rfl) i2⟩
      · simp (disch := omega) only [↓reduceIte, ↓ns_m1, ns_let, ns_lef, ns_ltt, ns_ltf, ns_eqt, ns_eqf, ns_gd, nI_clamp, nI_add, pk_sub, pk_mul, ns_m1a, ns_m1b, ns_m1c, ns_m1d, ns_m1e, ns_m1f, ns_m1g, ns_un1, ns_un0, ns_day1, Option.bind_some, gi_si_self, gi_si_ne, gl_si, gi_sl, gl_sl_self, gl_sl_ne, if_true, if_false, ns_i0, ns_i1, ns_i2, ns_i3, ns_i4, ns_i5, ns_i6, ns_i7, ns_i8, ns_i9, ns_i10, ns_i11, ns_i12, ns_i13, ns_i20, ns_i23, ns_i24, ns_i31, ns_i50, ns_i60, ns_i99, ns_i100, ns_i144, ns_i200, ns_i255, ns_i700, ns_i880, ns_i899, ns_i900, ns_i901, ns_i999, ns_i1000, ns_i1440, ns_i4095, ns_i1000000, g7, g1, c]
      · by_cases cj : j = i
        · subst cj
          rw [ei] at hj
          injection hj with hj
          subst hj
          rw [gi_si_self, if_pos (by omega)]
          unfold drp_
          rw [if_pos c]
        · rw [gi_si_ne (by omega), i1 j u hj]
          by_cases cl : j < i
          · rw [if_pos cl, if_pos (by omega)]
          · rw [if_neg cl, if_neg (by omega)]
    · refine ⟨m0, ?_, fun j u hj => ?_, i2⟩
      · simp (disch := omega) only [↓reduceIte, ↓ns_m1, ns_let, ns_lef, ns_ltt, ns_ltf, ns_eqt, ns_eqf, ns_gd, nI_clamp, nI_add, pk_sub, pk_mul, ns_m1a, ns_m1b, ns_m1c, ns_m1d, ns_m1e, ns_m1f, ns_m1g, ns_un1, ns_un0, ns_day1, Option.bind_some, gi_si_self, gi_si_ne, gl_si, gi_sl, gl_sl_self, gl_sl_ne, if_true, if_false, ns_i0, ns_i1, ns_i2, ns_i3, ns_i4, ns_i5, ns_i6, ns_i7, ns_i8, ns_i9, ns_i10, ns_i11, ns_i12, ns_i13, ns_i20, ns_i23, ns_i24, ns_i31, ns_i50, ns_i60, ns_i99, ns_i100, ns_i144, ns_i200, ns_i255, ns_i700, ns_i880, ns_i899, ns_i900, ns_i901, ns_i999, ns_i1000, ns_i1440, ns_i4095, ns_i1000000, g7, g1]
      · by_cases cj : j = i
        · subst cj
          rw [ei] at hj
          injection hj with hj
          subst hj
          rw [g1, if_pos (by omega)]
          unfold drp_
          rw [if_neg c]
        · rw [i1 j u hj]
          by_cases cl : j < i
          · rw [if_pos cl, if_pos (by omega)]
          · rw [if_neg cl, if_neg (by omega)]) (s := m) ⟨fun j q hj => by rw [if_neg (Nat.not_lt_zero _)]; exact (h.2.2 j q hj).1, sa_rf⟩
  have e : f_X1_dropReadings_2 (nI 0) m = f_X1_dropReadings_2 (nI F.length) m1 := e
  have g7 : gi_ m1 72 7 = nI F.length := (sa_gi h2 (by rfl)).trans h.1
  obtain ⟨m2, e2, f2⟩ := fill_ (a0 := 81) (L := 100) (x := 0) (by omega) m1
  have s2 := fr_J7_fill_53178 e2
  have fin : f_X1_dropReadings m = some (0, m2) := by
    show f_X1_dropReadings_2 (nI 0) m = _
    rw [e, e_X1_dropReadings_2, g7, if_pos (nI_le (Nat.le_refl _) (by omega)), e2]
    rfl
  have key : ∀ a k, ¬ a = 73 → ¬ a = 81 → gi_ m2 a k = gi_ m a k ∧ gl_ m2 a k = gl_ m a k := fun a k h1 h3 => by
    have w1 : wi_ w_X1_dropReadings a k = false := by
      cases hq : wi_ w_X1_dropReadings a k with
      | false => rfl
      | true =>
        obtain ⟨q, hq, q1, q2, _⟩ := wi_mem.mp hq
        have : ∀ q ∈ w_X1_dropReadings, (q.1 = 73 ∧ q.2.1 = 73) ∨ (q.1 = 81 ∧ q.2.1 = 81) := by decide
        have := this q hq
        omega
    exact ⟨sa_gi (fr_X1_dropReadings fin) w1, sa_gl (fr_X1_dropReadings fin) w1⟩
  refine ⟨m2, fin, ⟨?_, ?_, fun j q hj => ?_⟩, fun d hd => ?_⟩
  · rw [List.length_map]; exact (key 72 7 (by omega) (by omega)).1.trans h.1
  · exact (key 72 8 (by omega) (by omega)).1.trans h.2.1
  · obtain ⟨u, hu, rfl⟩ := map_get hj
    have hjl := (List.getElem?_eq_some_iff.mp hu).1
    obtain ⟨k1, k2, k3, k4, k5, k6, k7⟩ := h.2.2 j u hu
    have g := h1 j u hu
    rw [if_pos hjl] at g
    have g2 : gi_ m2 73 j = gi_ m1 73 j := sa_gi s2 (by rfl)
    have e2 := (drp_1 u).2.1
    refine ⟨g2.trans g, ?_, ?_, ?_, ?_, ?_, fun q => absurd q (drp_1 u).1⟩
    · rw [e2]; exact (key 74 j (by omega) (by omega)).1.trans k2
    · rw [e2]; exact (key 75 j (by omega) (by omega)).1.trans k3
    · rw [e2]; exact (key 76 j (by omega) (by omega)).1.trans k4
    · rw [e2]; exact (key 77 j (by omega) (by omega)).1.trans k5
    · rw [e2]; exact (key 78 j (by omega) (by omega)).1.trans k6
  · rw [rdn_drp]
    exact ⟨f2 d hd, fun j r hj => by cases hj⟩
