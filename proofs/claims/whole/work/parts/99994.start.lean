/-! ===== the start: both are new ===== -/
theorem gz_n {m : fm_} {n a k : Nat} (h : ¬ a = n) : gi_ (zz_ m n) a k = gi_ m a k := by
  show (if a = n then (0 : Int32) else m.1 a k) = _
  rw [if_neg h]
  rfl
theorem gz_s {m : fm_} {n k : Nat} : gi_ (zz_ m n) n k = 0 := by
  show (if n = n then (0 : Int32) else m.1 n k) = _
  rw [if_pos rfl]
def A1_ (m : fm_) : Prop := gi_ m 1 8 = -1 ∧ ∀ a k, ¬ (a = 1 ∧ k = 8) → gi_ m a k = 0
theorem A1_z {m : fm_} (h : A1_ m) {n : Nat} (hn : ¬ n = 1) : A1_ (zz_ m n) := by
  refine ⟨?_, fun a k q => ?_⟩
  · rw [gz_n (by omega)]; exact h.1
  · by_cases c : a = n
    · rw [c]; exact gz_s
    · rw [gz_n c]; exact h.2 a k q
def A2_ (m5 m : fm_) : Prop := (∀ a k, a < 18 → gi_ m a k = gi_ m5 a k) ∧ ∀ a k, 18 ≤ a → gi_ m a k = 0
theorem A2_z {m5 m : fm_} (h : A2_ m5 m) {n : Nat} (hn : 18 ≤ n) : A2_ m5 (zz_ m n) := by
  refine ⟨fun a k q => ?_, fun a k q => ?_⟩
  · rw [gz_n (by omega)]; exact h.1 a k q
  · by_cases c : a = n
    · rw [c]; exact gz_s
    · rw [gz_n c]; exact h.2 a k q
def A3_ (m5 m : fm_) : Prop := (∀ a k, a < 18 → gi_ m a k = gi_ m5 a k) ∧ (∀ a k, 18 ≤ a → ¬ (a = 82 ∧ k = 3) → gi_ m a k = 0) ∧ gi_ m 82 3 = nI 1
theorem A3_z {m5 m : fm_} (h : A3_ m5 m) {n : Nat} (hn : 18 ≤ n) (hn2 : ¬ n = 82) : A3_ m5 (zz_ m n) := by
  refine ⟨fun a k q => ?_, fun a k q q2 => ?_, ?_⟩
  · rw [gz_n (by omega)]; exact h.1 a k q
  · by_cases c : a = n
    · rw [c]; exact gz_s
    · rw [gz_n c]; exact h.2.1 a k q q2
  · rw [gz_n (by omega)]; exact h.2.2
def A4_ (m5 m : fm_) : Prop := (∀ a k, a < 18 → gi_ m a k = gi_ m5 a k) ∧ (∀ a k, 18 ≤ a → ¬ (a = 82 ∧ k = 3) → ¬ a = 96 → gi_ m a k = 0) ∧ gi_ m 82 3 = nI 1 ∧ ∀ c, c < 200 → gi_ m 96 c = -1
theorem A4_z {m5 m : fm_} (h : A4_ m5 m) {n : Nat} (hn : 18 ≤ n) (hn2 : ¬ n = 82) (hn3 : ¬ n = 96) : A4_ m5 (zz_ m n) := by
  refine ⟨fun a k q => ?_, fun a k q q2 q3 => ?_, ?_, fun c hc => ?_⟩
  · rw [gz_n (by omega)]; exact h.1 a k q
  · by_cases c : a = n
    · rw [c]; exact gz_s
    · rw [gz_n c]; exact h.2.1 a k q q2 q3
  · rw [gz_n (by omega)]; exact h.2.2.1
  · rw [gz_n (by omega)]; exact h.2.2.2 c hc
theorem st_c : ∃ q m5, g_X11_init_0 (zz_ fz_ 0) = some q ∧ A4_ m5 q ∧ tabc_ [] 0 m5 ∧ A1_ m5 = A1_ m5 ∧ gi_ m5 1 8 = -1 ∧ ∀ a k, ¬ (a = 1 ∧ k = 8) → ¬ (13 ≤ a ∧ a ≤ 17) → gi_ m5 a k = 0 := by
  obtain ⟨q1, e1, h1⟩ : ∃ q1, g_X8_init_1 (zz_ (zz_ fz_ 0) 1) = some q1 ∧ A1_ q1 := by
    refine ⟨_, rfl, gi_si_self, fun a k q => ?_⟩
    rw [gi_si_ne q]
    have : ∀ (m : fm_) (n : Nat), (∀ a k, gi_ m a k = 0) → ∀ a k, gi_ (zz_ m n) a k = 0 := fun m n h a k => by
      by_cases c : a = n
      · rw [c]; exact gz_s
      · rw [gz_n c]; exact h a k
    exact this _ _ (this _ _ (this _ _ (this _ _ (this _ _ (this _ _ (fun a k => rfl)))))) a k
  obtain ⟨q4, e4, h4⟩ : ∃ q4, g_X9_init_6 (zz_ q1 6) = some q4 ∧ A1_ q4 := by
    refine ⟨_, rfl, ?_⟩
    iterate 12 refine A1_z ?_ (by omega)
    exact h1
  obtain ⟨q7, e7, h7⟩ := meas_c (W := []) ⟨by show 0 ≤ 24; omega, fun q hq => (by cases hq)⟩ (z := 0) (by omega) (m := q4) ⟨h4.2 6 3 (by omega), fun j q hj => (by cases hj)⟩ (h4.2 6 4 (by omega))
  have s7 := fr_X9_measure e7
  have g7 : ∀ a k, ¬ (13 ≤ a ∧ a ≤ 17) → gi_ q7 a k = gi_ q4 a k := fun a k q => sa_gi s7 (by
    cases hw : wi_ w_X9_measure a k with
    | false => rfl
    | true =>
      obtain ⟨x, hx, x1, x2, _⟩ := wi_mem.mp hw
      have : ∀ x ∈ w_X9_measure, 13 ≤ x.1 ∧ x.2.1 ≤ 17 := by decide
      have := this x hx
      omega)
  have r7 : A2_ q7 q7 := ⟨fun _ _ _ => rfl, fun a k q => by rw [g7 a k (by omega)]; exact h4.2 a k (by omega)⟩
  obtain ⟨q10, e10, h10⟩ : ∃ q10, g_X9_init_18 (zz_ q7 18) = some q10 ∧ A2_ q7 q10 := by
    refine ⟨_, rfl, ?_⟩
    iterate 12 refine A2_z ?_ (by omega)
    exact r7
  obtain ⟨q13, e13, h13⟩ : ∃ q13, g_X3_init_30 (zz_ q10 30) = some q13 ∧ A2_ q7 q13 := by
    obtain ⟨x1, y1, w1⟩ : ∃ x, g_X4_init_32 (zz_ (zz_ (zz_ q10 30) 31) 32) = some x ∧ A2_ q7 x := by
      refine ⟨_, rfl, ?_⟩
      iterate 8 refine A2_z ?_ (by omega)
      exact h10
    obtain ⟨x2, y2, w2⟩ : ∃ x, g_X4_init_38 (zz_ x1 38) = some x ∧ A2_ q7 x := by
      refine ⟨_, rfl, ?_⟩
      iterate 6 refine A2_z ?_ (by omega)
      exact w1
    obtain ⟨x3, y3, w3⟩ : ∃ x, g_X4_init_44 (zz_ x2 44) = some x ∧ A2_ q7 x := by
      refine ⟨_, rfl, ?_⟩
      iterate 6 refine A2_z ?_ (by omega)
      exact w2
    obtain ⟨x4, y4, w4⟩ : ∃ x, g_X4_init_50 (zz_ x3 50) = some x ∧ A2_ q7 x := by
      refine ⟨_, rfl, ?_⟩
      iterate 6 refine A2_z ?_ (by omega)
      exact w3
    obtain ⟨x5, y5, w5⟩ : ∃ x, g_X4_init_56 (zz_ x4 56) = some x ∧ A2_ q7 x := by
      refine ⟨_, rfl, ?_⟩
      iterate 6 refine A2_z ?_ (by omega)
      exact w4
    obtain ⟨x6, y6, w6⟩ : ∃ x, g_X4_init_62 (zz_ x5 62) = some x ∧ A2_ q7 x := by
      refine ⟨_, rfl, ?_⟩
      iterate 6 refine A2_z ?_ (by omega)
      exact w5
    refine ⟨x6, ?_, w6⟩
    unfold g_X3_init_30
    rw [y1, Option.bind_some, y2, Option.bind_some, y3, Option.bind_some, y4, Option.bind_some, y5, Option.bind_some, y6]
    rfl
  obtain ⟨q16, e16, h16⟩ : ∃ q16, g_X5_init_68 (zz_ q13 68) = some q16 ∧ A2_ q7 q16 := ⟨_, rfl, A2_z h13 (by omega)⟩
  obtain ⟨q19, e19, h19⟩ : ∃ q19, g_X7_init_69 (zz_ q16 69) = some q19 ∧ A2_ q7 q19 := ⟨_, rfl, A2_z (A2_z (A2_z h16 (by omega)) (by omega)) (by omega)⟩
  obtain ⟨q22, e22, h22⟩ : ∃ q22, g_X1_init_72 (zz_ q19 72) = some q22 ∧ A2_ q7 q22 := by
    refine ⟨_, rfl, ?_⟩
    iterate 10 refine A2_z ?_ (by omega)
    exact h19
  obtain ⟨q25, e25, h25⟩ : ∃ q25, g_X6_init_82 (zz_ q22 82) = some q25 ∧ A3_ q7 q25 := by
    have w : A2_ q7 (zz_ (zz_ (zz_ (zz_ (zz_ (zz_ (zz_ (zz_ (zz_ (zz_ q22 82) 83) 84) 85) 86) 87) 88) 89) 90) 91) := by
      iterate 10 refine A2_z ?_ (by omega)
      exact h22
    refine ⟨_, rfl, ?_⟩
    generalize zz_ (zz_ (zz_ (zz_ (zz_ (zz_ (zz_ (zz_ (zz_ (zz_ q22 82) 83) 84) 85) 86) 87) 88) 89) 90) 91 = mm at w
    show A3_ q7 (si_ mm 82 3 (gi_ mm 82 3 + 1))
    refine ⟨fun a k q => ?_, fun a k q q2 => ?_, ?_⟩
    · rw [gi_si_ne (by omega)]; exact w.1 a k q
    · rw [gi_si_ne q2]; exact w.2 a k q
    · rw [gi_si_self, w.2 82 3 (by omega)]; rfl
  obtain ⟨q28, e28, h28⟩ : ∃ q28, g_X2_init_92 (zz_ q25 92) = some q28 ∧ A3_ q7 q28 := ⟨_, rfl, A3_z (A3_z h25 (by omega) (by omega)) (by omega) (by omega)⟩
  obtain ⟨q31, e31, h31⟩ : ∃ q31, g_X0_init_94 (zz_ q28 94) = some q31 ∧ A4_ q7 q31 := by
    have w : A3_ q7 (zz_ (zz_ (zz_ (zz_ q28 94) 95) 96) 97) := by
      iterate 4 refine A3_z ?_ (by omega) (by omega)
      exact h28
    obtain ⟨mf, f1, f2⟩ := fill_ (a0 := 96) (L := 200) (x := -1) (by omega) (zz_ (zz_ (zz_ (zz_ q28 94) 95) 96) 97)
    have sf := fr_J7_fill_53178 f1
    have gf : ∀ a k, ¬ a = 96 → gi_ mf a k = gi_ (zz_ (zz_ (zz_ (zz_ q28 94) 95) 96) 97) a k := fun a k ha => sa_gi sf (by
      cases hq : wi_ (w_J7_fill_53178 96) a k with
      | false => rfl
      | true =>
        obtain ⟨q, hq, q1, q2, _⟩ := wi_mem.mp hq
        have := List.mem_singleton.mp hq
        subst this
        have q1 : 96 ≤ a := q1
        have q2 : a ≤ 96 := q2
        omega)
    refine ⟨mf, ?_, fun a k q => ?_, fun a k q q2 q3 => ?_, ?_, f2⟩
    · unfold g_X0_init_94
      rw [f1]
      rfl
    · rw [gf a k (by omega)]; exact w.1 a k q
    · rw [gf a k q3]; exact w.2.1 a k q q2
    · rw [gf _ _ (by omega)]; exact w.2.2
  obtain ⟨q34, e34, h34⟩ : ∃ q34, g_X10_init_98 (zz_ q31 98) = some q34 ∧ A4_ q7 q34 := by
    refine ⟨_, rfl, ?_⟩
    iterate 8 refine A4_z ?_ (by omega) (by omega) (by omega)
    exact h31
  refine ⟨q34, q7, ?_, h34, h7, rfl, ?_, fun a k q q2 => ?_⟩
  · unfold g_X11_init_0
    rw [e1, Option.bind_some, e4, Option.bind_some, e7, Option.bind_some]
    dsimp only
    rw [e10, Option.bind_some, e13, Option.bind_some, e16, Option.bind_some, e19, Option.bind_some, e22, Option.bind_some, e25, Option.bind_some, e28, Option.bind_some, e31, Option.bind_some, e34]
    rfl
  · rw [g7 _ _ (by omega)]; exact h4.1
  · rw [g7 a k q2]; exact h4.2 a k q
def M1_1 (m0 m : fm_) : Prop := (∀ a k, a < 106 → gi_ m a k = gi_ m0 a k) ∧ gi_ m 106 3 = -1 ∧ ∀ a k, 106 ≤ a → ¬ (a = 106 ∧ k = 3) → gi_ m a k = 0
theorem M1_z {m0 m : fm_} (h : M1_1 m0 m) {n : Nat} (hn : 107 ≤ n) : M1_1 m0 (zz_ m n) := by
  refine ⟨fun a k q => ?_, ?_, fun a k q q2 => ?_⟩
  · rw [gz_n (by omega)]; exact h.1 a k q
  · rw [gz_n (by omega)]; exact h.2.1
  · by_cases c : a = n
    · rw [c]; exact gz_s
    · rw [gz_n c]; exact h.2.2 a k q q2
theorem st_m {m0 : fm_} (h0 : ∀ a k, 106 ≤ a → gi_ m0 a k = 0) : ∃ q, g_X12_init_106 (zz_ m0 106) = some q ∧ tabm_ [] q ∧ (∀ a k, a < 106 → gi_ q a k = gi_ m0 a k) ∧ gi_ q 106 3 = -1 ∧ ∀ a k, 106 ≤ a → ¬ (a = 106 ∧ k = 3) → ¬ (a = 120 ∨ a = 121) → gi_ q a k = 0 := by
  have w0 : M1_1 m0 (si_ (zz_ (zz_ m0 106) 107) 106 3 (-1)) := by
    refine ⟨fun a k q => ?_, gi_si_self, fun a k q q2 => ?_⟩
    · rw [gi_si_ne (by omega), gz_n (by omega), gz_n (by omega)]
    · rw [gi_si_ne q2]
      by_cases c : a = 107
      · rw [c]; exact gz_s
      · rw [gz_n c]
        by_cases c2 : a = 106
        · rw [c2]; exact gz_s
        · rw [gz_n c2]; exact h0 a k q
  have e : ∃ mm, g_X12_init_106 (zz_ m0 106) = (Option.bind (f_X12_measure mm) fun q1 => some q1.2) ∧ M1_1 m0 mm := by
    refine ⟨_, rfl, ?_⟩
    iterate 60 refine M1_z ?_ (by omega)
    exact w0
  obtain ⟨mm, e1, e2⟩ := e
  obtain ⟨q, f1, f2⟩ := meas_m (W := []) ⟨by show 0 ≤ 24; omega, fun q hq => (by cases hq)⟩ (m := mm) ⟨e2.2.2 106 29 (by omega) (by omega), fun j q hj => (by cases hj)⟩
  have s := fr_X12_measure f1
  have g : ∀ a k, ¬ (a = 120 ∨ a = 121) → gi_ q a k = gi_ mm a k := fun a k hq => sa_gi s (by
    cases hw : wi_ w_X12_measure a k with
    | false => rfl
    | true =>
      obtain ⟨x, hx, x1, x2, _⟩ := wi_mem.mp hw
      have : ∀ x ∈ w_X12_measure, (x.1 = 120 ∧ x.2.1 = 120) ∨ (x.1 = 121 ∧ x.2.1 = 121) := by decide
      have := this x hx
      omega)
  refine ⟨q, ?_, f2, fun a k h => ?_, ?_, fun a k h1 h2 h3 => ?_⟩
  · rw [e1, f1]
    rfl
  · rw [g a k (by omega)]; exact e2.1 a k h
  · rw [g _ _ (by omega)]; exact e2.2.1
  · rw [g a k h3]; exact e2.2.2 a k h1 h2
theorem st_J : ∃ q1 q4, g_X11_init_0 (zz_ fz_ 0) = some q1 ∧ g_X12_init_106 (zz_ q1 106) = some q4 ∧ J_ 0 q4 := by
  obtain ⟨q1, m5, e1, h1, h2, _, h4, h5⟩ := st_c
  obtain ⟨q4, f1, f2, f3, f4, f5⟩ := st_m (m0 := q1) (fun a k h => h1.2.1 a k (by omega) (by omega) (by omega))
  refine ⟨q1, q4, e1, f1, ?_⟩
  have lo : ∀ a k, a < 18 → gi_ q4 a k = gi_ m5 a k := fun a k h => (f3 a k (by omega)).trans (h1.1 a k h)
  have z1 : ∀ a k, a < 18 → ¬ (a = 1 ∧ k = 8) → ¬ (13 ≤ a ∧ a ≤ 17) → gi_ q4 a k = 0 := fun a k h h6 h7 => (lo a k h).trans (h5 a k h6 h7)
  have z2 : ∀ a k, 18 ≤ a → a < 106 → ¬ (a = 82 ∧ k = 3) → ¬ a = 96 → gi_ q4 a k = 0 := fun a k h h6 h7 h8 => (f3 a k h6).trans (h1.2.1 a k h h7 h8)
  refine fin_J (L := []) (a := nI 0) (b := -1) (W := []) (z := 0) (C := []) (cp := 0) (O := []) (P := []) (F := []) (T := 0) (st := 1) (TR := []) (A := fun _ => none) (n := 0) ?_ (by omega) ?_ ?_
  · exact ⟨⟨⟨by show 0 ≤ 24; omega, fun q hq => (by cases hq)⟩, by show 0 ≤ 10; omega, ⟨by show 0 ≤ 200; omega, by omega, fun q hq => (by cases hq)⟩, ⟨by show 0 ≤ 8; omega, fun q hq => (by cases hq)⟩, fun q hq => (by cases hq), fun d => by show 0 ≤ 7; omega⟩, fun q hq => (by cases hq), by omega, by omega, ⟨⟨by show 0 ≤ 6; omega, fun q hq => (by cases hq)⟩, fun q hq => (by cases hq)⟩, ⟨by show 0 ≤ 20; omega, fun q hq => (by cases hq)⟩, fun c q hq => (by cases hq)⟩
  · refine ⟨tc_0 (z1 1 4 (by omega) (by omega) (by omega)), ⟨z1 1 7 (by omega) (by omega) (by omega), (lo 1 8 (by omega)).trans h4⟩, ⟨⟨⟨by show 0 ≤ 10; omega, fun q hq => (by cases hq), z2 69 2 (by omega) (by omega) (by omega) (by omega), fun j q hj => (by cases hj)⟩, ⟨z2 72 7 (by omega) (by omega) (by omega) (by omega), z2 72 8 (by omega) (by omega) (by omega) (by omega), fun j q hj => (by cases hj)⟩, fun d hd => ⟨z2 81 d (by omega) (by omega) (by omega) (by omega), fun j r hj => (by cases hj)⟩, ⟨z1 6 8 (by omega) (by omega) (by omega), fun j q hj => (by cases hj)⟩, fun a b ha hb => (lo 14 _ (by omega)).trans (h2.2.1 a b ha hb)⟩, z1 6 4 (by omega) (by omega) (by omega), ⟨⟨z2 30 1 (by omega) (by omega) (by omega) (by omega), fun j q hj => (by cases hj)⟩, fun j q hj => (by cases hj)⟩, (f3 82 3 (by omega)).trans h1.2.2.1, fun d hd => ⟨0, z2 83 d (by omega) (by omega) (by omega) (by omega), by omega, fun q => by omega⟩⟩, ⟨⟨⟨z1 6 3 (by omega) (by omega) (by omega), fun j q hj => (by cases hj)⟩, fun a b ha hb => (lo 13 _ (by omega)).trans (h2.1 a b ha hb)⟩, fun a b ha hb => (lo 15 _ (by omega)).trans (h2.2.2.1 a b ha hb), fun a b ha hb => (lo 16 _ (by omega)).trans (h2.2.2.2.1 a b ha hb), fun a b ha hb => (lo 17 _ (by omega)).trans (h2.2.2.2.2 a b ha hb), z1 6 9 (by omega) (by omega) (by omega)⟩, ⟨z2 98 7 (by omega) (by omega) (by omega) (by omega), fun j q hj => (by cases hj)⟩, ⟨by omega, z2 94 2 (by omega) (by omega) (by omega) (by omega), fun c hc => ?_⟩⟩
    show gi_ q4 96 c = -1
    rw [f3 96 c (by omega)]
    exact h1.2.2.2 c hc
  · refine ⟨⟨f5 106 1 (by omega) (by omega) (by omega), fun j q hj => (by cases hj)⟩, ⟨f5 106 2 (by omega) (by omega) (by omega), f4⟩, ⟨⟨⟨f5 106 57 (by omega) (by omega) (by omega), fun j q hj => (by cases hj)⟩, ⟨f5 106 58 (by omega) (by omega) (by omega), f5 106 59 (by omega) (by omega) (by omega), fun j q hj => (by cases hj)⟩, ⟨f5 106 30 (by omega) (by omega) (by omega), fun j q hj => (by cases hj)⟩, f2.1⟩, f5 106 31 (by omega) (by omega) (by omega), ⟨⟨f5 106 33 (by omega) (by omega) (by omega), fun j q hj => (by cases hj)⟩, fun j q hj => (by cases hj)⟩⟩, ⟨⟨f5 106 29 (by omega) (by omega) (by omega), fun j q hj => (by cases hj)⟩, f2.2, f5 106 32 (by omega) (by omega) (by omega)⟩, ⟨f5 106 87 (by omega) (by omega) (by omega), fun j q hj => (by cases hj)⟩, ⟨f5 106 81 (by omega) (by omega) (by omega), fun c hc => ?_⟩⟩
    exact f5 159 c (by omega) (by omega) (by omega)
/-- THE LAW HOLDS, as a function of the script -/
theorem law_1 (L : Nat) (hL : L ≤ 3584) (xs : Nat → Int32) : ∃ m', f_law L xs = some (1, m') := by
  obtain ⟨q1, q4, e1, e2, h⟩ := st_J
  obtain ⟨m', e⟩ := lw_all (xs := xs) hL h
  refine ⟨m', ?_⟩
  unfold f_law
  rw [e1, Option.bind_some, e2, Option.bind_some]
  exact e
