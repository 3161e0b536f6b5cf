/-! ===== the class's world of readings ===== -/
def drc_ (F : List fa_) (m : fm_) : Prop := ∀ d, d < 100 → gi_ m 81 d = nI (rdn_ F d F.length).length ∧ ∀ j r, (rdn_ F d F.length)[j]? = some r → gi_ m 80 (d * 7 + j) = nI r
def kwc_ (W : List (Nat × Nat × Nat)) (P : pl_) (F : List fa_) (T : Nat) (C : List (Nat × Nat × Nat)) (m : fm_) : Prop := pc_ P m ∧ fc_ F T m ∧ drc_ F m ∧ camc_ C m ∧ tb_ (ner_ W) 14 m
def kwcd_ : List (Nat × Nat × Nat) := [(69, 69, 3), (70, 71, 0), (72, 72, 8), (72, 72, 9), (73, 79, 0), (80, 81, 0), (6, 6, 9), (10, 12, 0), (14, 14, 0)]
theorem kwc_ag {W : List (Nat × Nat × Nat)} {P : pl_} {F : List fa_} {T : Nat} {C : List (Nat × Nat × Nat)} {m m1 : fm_} (h : kwc_ W P F T C m) (ha : ag_ kwcd_ m m1) : kwc_ W P F T C m1 := by
  obtain ⟨h1, h2, h3, h4, h5⟩ := h
  refine ⟨⟨h1.1, h1.2.1, (ha 69 2 rfl).1.trans h1.2.2.1, fun j q hj => ?_⟩, ⟨(ha 72 7 rfl).1.trans h2.1, (ha 72 8 rfl).1.trans h2.2.1, fun j q hj => ?_⟩, fun d hd => ⟨(ha 81 d rfl).1.trans (h3 d hd).1, fun j r hj => (ha 80 _ rfl).1.trans ((h3 d hd).2 j r hj)⟩, ⟨(ha 6 8 rfl).1.trans h4.1, fun j q hj => ?_⟩, fun a b ha1 hb => (ha 14 _ rfl).1.trans (h5 a b ha1 hb)⟩
  · rw [(ha 70 j rfl).2, (ha 71 j rfl).1]
    exact h1.2.2.2 j q hj
  · have := h2.2.2 j q hj
    unfold fc1_ at this ⊢
    rw [(ha 73 j rfl).1, (ha 74 j rfl).1, (ha 75 j rfl).1, (ha 76 j rfl).1, (ha 77 j rfl).1, (ha 78 j rfl).1, (ha 79 j rfl).2]
    exact this
  · rw [(ha 10 j rfl).1, (ha 11 j rfl).1, (ha 12 j rfl).1]
    exact h4.2 j q hj
theorem abd_ {x y : Nat} (hx : x ≤ 1440) (hy : y ≤ 1440) : ab_ (nI x - nI y) = nI (adf_ x y) := by
  unfold ab_ adf_
  by_cases c : x ≤ y
  · rw [if_pos c]
    by_cases c2 : x = y
    · rw [c2, pk_sub (Nat.le_refl _), if_pos (nI_pos' (by omega))]
    · have h1 := pk_sneg (a := x) (b := y) (by omega) (by omega)
      have h2 : ¬ 0 ≤ nI x - nI y := by
        rw [Int32.lt_iff_toInt_lt] at h1
        rw [Int32.le_iff_toInt_le]
        omega
      rw [if_neg h2, Int32.zero_sub, Int32.neg_sub, pk_sub c]
  · rw [if_neg c, pk_sub (by omega), if_pos (nI_pos' (by omega))]
theorem fr_c {W : List (Nat × Nat × Nat)} {P : pl_} {F : List fa_} {T : Nat} {C : List (Nat × Nat × Nat)} (hk : kok_ W P F T C) {m : fm_} (h : kwc_ W P F T C m) {r : Nat} {q : fa_} (hr : F[r]? = some q) (h1 : q.1 = 1) : f_X6_minuteOf (nI r) m = some (nI (mnt_ F r), m) ∧ gi_ m 78 r = nI (mnt_ F r) ∧ mnt_ F r ≤ 1440 ∧ f_X6_pointOf (nI r) m = some (nI (pnt_ F C r), m) ∧ pnt_ F C r < 12 ∧ r < 200 ∧ f_X1_isReading (nI r) m = some (nI 1, m) := by
  obtain ⟨hW, hP, hF, hC, hR⟩ := hk
  have g := h.2.1.2.2 r q hr
  have rk := hR.1 q (List.mem_of_getElem? hr) h1
  have hrl := (List.getElem?_eq_some_iff.mp hr).1
  have hl := hF.1
  have hcl := hC.1
  have e1 : mnt_ F r = q.2.2.2.2.2.1 := by unfold mnt_; rw [fq_s hr]
  have e2 : pnt_ F C r = plc_ C q.2.2.2.1 := by unfold pnt_; rw [fq_s hr]
  obtain ⟨g1, g2, g3, g4, g5, g6, g7⟩ := g
  have ec := List.getElem?_eq_getElem rk.1
  generalize C[q.2.2.2.1] = cq at ec
  have gc := (h.2.2.2.1.2 _ cq ec).1
  have e3 : plc_ C q.2.2.2.1 = cq.1 := by unfold plc_; rw [ec]
  have ir : f_X1_isReading (nI r) m = some (nI 1, m) := by
    unfold f_X1_isReading
    have e4 : nI (q.1 + 1) = nI 2 := by rw [h1]
    rw [e4] at g1
    simp (disch := omega) only [↓reduceIte, ↓ns_m1, ns_let, ns_lef, ns_ltt, ns_ltf, ns_eqt, ns_eqf, ns_gd, nI_clamp, nI_add, pk_sub, pk_mul, ns_m1a, ns_m1b, ns_m1c, ns_m1d, ns_m1e, ns_m1f, ns_m1g, ns_un1, ns_un0, ns_day1, Option.bind_some, gi_si_self, gi_si_ne, gl_si, gi_sl, gl_sl_self, gl_sl_ne, if_true, if_false, ns_i0, ns_i1, ns_i2, ns_i3, ns_i4, ns_i5, ns_i6, ns_i7, ns_i8, ns_i9, ns_i10, ns_i11, ns_i12, ns_i13, ns_i20, ns_i23, ns_i24, ns_i31, ns_i50, ns_i60, ns_i99, ns_i100, ns_i144, ns_i200, ns_i255, ns_i700, ns_i880, ns_i899, ns_i900, ns_i901, ns_i999, ns_i1000, ns_i1440, ns_i4095, ns_i1000000, h.2.1.1, g1]
  refine ⟨?_, by rw [e1]; exact g6, by rw [e1]; exact rk.2, ?_, by rw [e2]; exact plc_b hC _, by omega, ir⟩
  · unfold f_X6_minuteOf
    rw [e1]
    simp (disch := omega) only [↓reduceIte, ↓ns_m1, ns_let, ns_lef, ns_ltt, ns_ltf, ns_eqt, ns_eqf, ns_gd, nI_clamp, nI_add, pk_sub, pk_mul, ns_m1a, ns_m1b, ns_m1c, ns_m1d, ns_m1e, ns_m1f, ns_m1g, ns_un1, ns_un0, ns_day1, Option.bind_some, gi_si_self, gi_si_ne, gl_si, gi_sl, gl_sl_self, gl_sl_ne, if_true, if_false, ns_i0, ns_i1, ns_i2, ns_i3, ns_i4, ns_i5, ns_i6, ns_i7, ns_i8, ns_i9, ns_i10, ns_i11, ns_i12, ns_i13, ns_i20, ns_i23, ns_i24, ns_i31, ns_i50, ns_i60, ns_i99, ns_i100, ns_i144, ns_i200, ns_i255, ns_i700, ns_i880, ns_i899, ns_i900, ns_i901, ns_i999, ns_i1000, ns_i1440, ns_i4095, ns_i1000000, g6]
  · unfold f_X6_pointOf f_X9_pointOf
    rw [e2, e3]
    simp (disch := omega) only [↓reduceIte, ↓ns_m1, ns_let, ns_lef, ns_ltt, ns_ltf, ns_eqt, ns_eqf, ns_gd, nI_clamp, nI_add, pk_sub, pk_mul, ns_m1a, ns_m1b, ns_m1c, ns_m1d, ns_m1e, ns_m1f, ns_m1g, ns_un1, ns_un0, ns_day1, Option.bind_some, gi_si_self, gi_si_ne, gl_si, gi_sl, gl_sl_self, gl_sl_ne, if_true, if_false, ns_i0, ns_i1, ns_i2, ns_i3, ns_i4, ns_i5, ns_i6, ns_i7, ns_i8, ns_i9, ns_i10, ns_i11, ns_i12, ns_i13, ns_i20, ns_i23, ns_i24, ns_i31, ns_i50, ns_i60, ns_i99, ns_i100, ns_i144, ns_i200, ns_i255, ns_i700, ns_i880, ns_i899, ns_i900, ns_i901, ns_i999, ns_i1000, ns_i1440, ns_i4095, ns_i1000000, ir, g4, gc, h.2.2.2.1.1]
theorem tog_c {W : List (Nat × Nat × Nat)} {P : pl_} {F : List fa_} {T : Nat} {C : List (Nat × Nat × Nat)} (hk : kok_ W P F T C) {m : fm_} (h : kwc_ W P F T C m) {r s : Nat} {q u : fa_} (hr : F[r]? = some q) (h1 : q.1 = 1) (hs : F[s]? = some u) (h2 : u.1 = 1) : f_X6_canBeOne (nI r) (nI s) m = some (b01_ (tgr_ W F C r s), m) := by
  obtain ⟨a0, a1, a2, a3, a4, a5, a6⟩ := fr_c hk h hr h1
  obtain ⟨b0, b1, b2, b3, b4, b5, b6⟩ := fr_c hk h hs h2
  have t := near_ h.2.2.2.2 a4 b4
  have hf := ner_far hk.1 (pnt_ F C r) (pnt_ F C s)
  have e1 : b01_ true = nI 1 := rfl
  have e0 : b01_ false = nI 0 := rfl
  have ab := adf_b a2 b2
  have ed := abd_ a2 b2
  unfold f_X6_canBeOne tgr_
  by_cases c3 : ner_ W (pnt_ F C r) (pnt_ F C s) ≤ adf_ (mnt_ F r) (mnt_ F s)
  · rw [decide_eq_true c3, a0]
    simp only [Option.bind_some]
    rw [b0]
    simp only [Option.bind_some]
    rw [a3]
    simp only [Option.bind_some]
    rw [b3]
    simp only [Option.bind_some]
    rw [t]
    simp only [Option.bind_some]
    rw [ed]
    simp (disch := omega) only [↓reduceIte, ↓ns_m1, ns_let, ns_lef, ns_ltt, ns_ltf, ns_eqt, ns_eqf, ns_gd, nI_clamp, nI_add, pk_sub, pk_mul, ns_m1a, ns_m1b, ns_m1c, ns_m1d, ns_m1e, ns_m1f, ns_m1g, ns_un1, ns_un0, ns_day1, Option.bind_some, gi_si_self, gi_si_ne, gl_si, gi_sl, gl_sl_self, gl_sl_ne, if_true, if_false, ns_i0, ns_i1, ns_i2, ns_i3, ns_i4, ns_i5, ns_i6, ns_i7, ns_i8, ns_i9, ns_i10, ns_i11, ns_i12, ns_i13, ns_i20, ns_i23, ns_i24, ns_i31, ns_i50, ns_i60, ns_i99, ns_i100, ns_i144, ns_i200, ns_i255, ns_i700, ns_i880, ns_i899, ns_i900, ns_i901, ns_i999, ns_i1000, ns_i1440, ns_i4095, ns_i1000000, e1]
  · rw [decide_eq_false c3, a0]
    simp only [Option.bind_some]
    rw [b0]
    simp only [Option.bind_some]
    rw [a3]
    simp only [Option.bind_some]
    rw [b3]
    simp only [Option.bind_some]
    rw [t]
    simp only [Option.bind_some]
    rw [ed]
    simp (disch := omega) only [↓reduceIte, ↓ns_m1, ns_let, ns_lef, ns_ltt, ns_ltf, ns_eqt, ns_eqf, ns_gd, nI_clamp, nI_add, pk_sub, pk_mul, ns_m1a, ns_m1b, ns_m1c, ns_m1d, ns_m1e, ns_m1f, ns_m1g, ns_un1, ns_un0, ns_day1, Option.bind_some, gi_si_self, gi_si_ne, gl_si, gi_sl, gl_sl_self, gl_sl_ne, if_true, if_false, ns_i0, ns_i1, ns_i2, ns_i3, ns_i4, ns_i5, ns_i6, ns_i7, ns_i8, ns_i9, ns_i10, ns_i11, ns_i12, ns_i13, ns_i20, ns_i23, ns_i24, ns_i31, ns_i50, ns_i60, ns_i99, ns_i100, ns_i144, ns_i200, ns_i255, ns_i700, ns_i880, ns_i899, ns_i900, ns_i901, ns_i999, ns_i1000, ns_i1440, ns_i4095, ns_i1000000, e0]
/-! rows of a day -/
theorem ron_ {F : List fa_} {m : fm_} (h : drc_ F m) {d : Nat} (hd : d < 100) : f_X1_readingsOn (nI d) m = some (nI (rdn_ F d F.length).length, m) := by
  unfold f_X1_readingsOn
  simp (disch := omega) only [↓reduceIte, ↓ns_m1, ns_let, ns_lef, ns_ltt, ns_ltf, ns_eqt, ns_eqf, ns_gd, nI_clamp, nI_add, pk_sub, pk_mul, ns_m1a, ns_m1b, ns_m1c, ns_m1d, ns_m1e, ns_m1f, ns_m1g, ns_un1, ns_un0, ns_day1, Option.bind_some, gi_si_self, gi_si_ne, gl_si, gi_sl, gl_sl_self, gl_sl_ne, if_true, if_false, ns_i0, ns_i1, ns_i2, ns_i3, ns_i4, ns_i5, ns_i6, ns_i7, ns_i8, ns_i9, ns_i10, ns_i11, ns_i12, ns_i13, ns_i20, ns_i23, ns_i24, ns_i31, ns_i50, ns_i60, ns_i99, ns_i100, ns_i144, ns_i200, ns_i255, ns_i700, ns_i880, ns_i899, ns_i900, ns_i901, ns_i999, ns_i1000, ns_i1440, ns_i4095, ns_i1000000, (h d hd).1]
theorem ro1_ {F : List fa_} {m : fm_} (h : drc_ F m) {d j r : Nat} (hd : d < 100) (h7 : (rdn_ F d F.length).length ≤ 7) (hj : (rdn_ F d F.length)[j]? = some r) : f_X1_readingOn (nI d) (nI j) m = some (nI r, m) := by
  have hjl := (List.getElem?_eq_some_iff.mp hj).1
  unfold f_X1_readingOn
  simp (disch := omega) only [↓reduceIte, ↓ns_m1, ns_let, ns_lef, ns_ltt, ns_ltf, ns_eqt, ns_eqf, ns_gd, nI_clamp, nI_add, pk_sub, pk_mul, ns_m1a, ns_m1b, ns_m1c, ns_m1d, ns_m1e, ns_m1f, ns_m1g, ns_un1, ns_un0, ns_day1, Option.bind_some, gi_si_self, gi_si_ne, gl_si, gi_sl, gl_sl_self, gl_sl_ne, if_true, if_false, ns_i0, ns_i1, ns_i2, ns_i3, ns_i4, ns_i5, ns_i6, ns_i7, ns_i8, ns_i9, ns_i10, ns_i11, ns_i12, ns_i13, ns_i20, ns_i23, ns_i24, ns_i31, ns_i50, ns_i60, ns_i99, ns_i100, ns_i144, ns_i200, ns_i255, ns_i700, ns_i880, ns_i899, ns_i900, ns_i901, ns_i999, ns_i1000, ns_i1440, ns_i4095, ns_i1000000, (h d hd).1, (h d hd).2 j r hj]
/-! the readings that count are gathered -/
def rowc_ (R : List Nat) (m : fm_) : Prop := gi_ m 82 9 = nI R.length ∧ ∀ j r, R[j]? = some r → gi_ m 87 j = nI r
theorem gath_ {W : List (Nat × Nat × Nat)} {P : pl_} {F : List fa_} {T : Nat} {C : List (Nat × Nat × Nat)} (hk : kok_ W P F T C) {m : fm_} (hm : kwc_ W P F T C m) {d : Nat} (hd : d < 100) (k : Int32) : ∃ m1, f_X6_gather (nI d) k m = some (0, m1) ∧ kwc_ W P F T C m1 ∧ rowc_ (rdk_ F d k F.length) m1 := by
  obtain ⟨hW, hP, hF, hC, hR⟩ := id hk
  have h7 := hR.2 d
  have hl := hF.1
  have mem : ∀ r, r ∈ rdn_ F d F.length → ∃ q, F[r]? = some q ∧ q.1 = 1 := fun r hr => by
    obtain ⟨q, e, e1, _⟩ := isrd_u (rdn_u _ _ hr).2
    exact ⟨q, e, e1⟩
  unfold rdk_
  obtain ⟨m1, e1, w1, r1⟩ := lp0_ (n := (rdn_ F d F.length).length) (F := fun i m => f_X6_gather_7 (nI d) k (nI i) m) (I := fun i m => kwc_ W P F T C m ∧ rowc_ (((rdn_ F d F.length).take i).filter (cnr_ F k)) m) (fun i m0 hi hI => by
    obtain ⟨i1, i2⟩ := hI
    have er := List.getElem?_eq_getElem hi
    have et := List.take_succ_eq_append_getElem hi
    generalize (rdn_ F d F.length)[i] = r at er et
    obtain ⟨q, hq, hq1⟩ := mem r (List.mem_of_getElem? er)
    have hrl := (List.getElem?_eq_some_iff.mp hq).1
    have ct := cnt_c hF i1.2.1 hq k
    have ec : cnr_ F k r = cn_ q k := by unfold cnr_; rw [hq]
    have rn := ron_ i1.2.2.1 hd
    have r1 := ro1_ i1.2.2.1 hd h7 er
    have l6 : (((rdn_ F d F.length).take i).filter (cnr_ F k)).length ≤ i := Nat.le_trans (List.length_filter_le _ _) (List.length_take_le _ _)
    show ∃ s', f_X6_gather_7 (nI d) k (nI i) m0 = f_X6_gather_7 (nI d) k (nI (i + 1)) s' ∧ kwc_ W P F T C s' ∧ rowc_ (((rdn_ F d F.length).take (i + 1)).filter (cnr_ F k)) s'
    rw [e_X6_gather_7, et, List.filter_append]
    by_cases c3 : cn_ q k = true
    · have eb : b01_ (cn_ q k) = nI 1 := by rw [c3]; rfl
      rw [List.filter_cons_of_pos (by rw [ec]; exact c3), List.filter_nil]
      simp (disch := omega) only [↓reduceIte, ↓ns_m1, ns_let, ns_lef, ns_ltt, ns_ltf, ns_eqt, ns_eqf, ns_gd, nI_clamp, nI_add, pk_sub, pk_mul, ns_m1a, ns_m1b, ns_m1c, ns_m1d, ns_m1e, ns_m1f, ns_m1g, ns_un1, ns_un0, ns_day1, Option.bind_some, gi_si_self, gi_si_ne, gl_si, gi_sl, gl_sl_self, gl_sl_ne, if_true, if_false, ns_i0, ns_i1, ns_i2, ns_i3, ns_i4, ns_i5, ns_i6, ns_i7, ns_i8, ns_i9, ns_i10, ns_i11, ns_i12, ns_i13, ns_i20, ns_i23, ns_i24, ns_i31, ns_i50, ns_i60, ns_i99, ns_i100, ns_i144, ns_i200, ns_i255, ns_i700, ns_i880, ns_i899, ns_i900, ns_i901, ns_i999, ns_i1000, ns_i1440, ns_i4095, ns_i1000000, rn, r1, ct, eb, i2.1]
      refine ⟨_, rfl, kwc_ag i1 (sa_ag (w := [(87, 87, 0), (82, 82, 10)]) (by rfl) (sa_si (by rfl) (sa_si (by rfl) sa_rf))), ?_, fun j u hj => ?_⟩
      · simp (disch := omega) only [↓reduceIte, ↓ns_m1, ns_let, ns_lef, ns_ltt, ns_ltf, ns_eqt, ns_eqf, ns_gd, nI_clamp, nI_add, pk_sub, pk_mul, ns_m1a, ns_m1b, ns_m1c, ns_m1d, ns_m1e, ns_m1f, ns_m1g, ns_un1, ns_un0, ns_day1, Option.bind_some, gi_si_self, gi_si_ne, gl_si, gi_sl, gl_sl_self, gl_sl_ne, if_true, if_false, ns_i0, ns_i1, ns_i2, ns_i3, ns_i4, ns_i5, ns_i6, ns_i7, ns_i8, ns_i9, ns_i10, ns_i11, ns_i12, ns_i13, ns_i20, ns_i23, ns_i24, ns_i31, ns_i50, ns_i60, ns_i99, ns_i100, ns_i144, ns_i200, ns_i255, ns_i700, ns_i880, ns_i899, ns_i900, ns_i901, ns_i999, ns_i1000, ns_i1440, ns_i4095, ns_i1000000]
        rw [List.length_append]
        rfl
      · rcases ap_get hj with ⟨q1, q2⟩ | ⟨q1, q2⟩
        · have := i2.2 j u q2
          simp (disch := omega) only [↓reduceIte, ↓ns_m1, ns_let, ns_lef, ns_ltt, ns_ltf, ns_eqt, ns_eqf, ns_gd, nI_clamp, nI_add, pk_sub, pk_mul, ns_m1a, ns_m1b, ns_m1c, ns_m1d, ns_m1e, ns_m1f, ns_m1g, ns_un1, ns_un0, ns_day1, Option.bind_some, gi_si_self, gi_si_ne, gl_si, gi_sl, gl_sl_self, gl_sl_ne, if_true, if_false, ns_i0, ns_i1, ns_i2, ns_i3, ns_i4, ns_i5, ns_i6, ns_i7, ns_i8, ns_i9, ns_i10, ns_i11, ns_i12, ns_i13, ns_i20, ns_i23, ns_i24, ns_i31, ns_i50, ns_i60, ns_i99, ns_i100, ns_i144, ns_i200, ns_i255, ns_i700, ns_i880, ns_i899, ns_i900, ns_i901, ns_i999, ns_i1000, ns_i1440, ns_i4095, ns_i1000000, this]
        · rw [q1, q2]
          simp (disch := omega) only [↓reduceIte, ↓ns_m1, ns_let, ns_lef, ns_ltt, ns_ltf, ns_eqt, ns_eqf, ns_gd, nI_clamp, nI_add, pk_sub, pk_mul, ns_m1a, ns_m1b, ns_m1c, ns_m1d, ns_m1e, ns_m1f, ns_m1g, ns_un1, ns_un0, ns_day1, Option.bind_some, gi_si_self, gi_si_ne, gl_si, gi_sl, gl_sl_self, gl_sl_ne, if_true, if_false, ns_i0, ns_i1, ns_i2, ns_i3, ns_i4, ns_i5, ns_i6, ns_i7, ns_i8, ns_i9, ns_i10, ns_i11, ns_i12, ns_i13, ns_i20, ns_i23, ns_i24, ns_i31, ns_i50, ns_i60, ns_i99, ns_i100, ns_i144, ns_i200, ns_i255, ns_i700, ns_i880, ns_i899, ns_i900, ns_i901, ns_i999, ns_i1000, ns_i1440, ns_i4095, ns_i1000000]
    · have eb : b01_ (cn_ q k) = nI 0 := by rw [Bool.eq_false_iff.mpr c3]; rfl
      rw [List.filter_cons_of_neg (by rw [ec]; exact c3), List.filter_nil, List.append_nil]
      simp (disch := omega) only [↓reduceIte, ↓ns_m1, ns_let, ns_lef, ns_ltt, ns_ltf, ns_eqt, ns_eqf, ns_gd, nI_clamp, nI_add, pk_sub, pk_mul, ns_m1a, ns_m1b, ns_m1c, ns_m1d, ns_m1e, ns_m1f, ns_m1g, ns_un1, ns_un0, ns_day1, Option.bind_some, gi_si_self, gi_si_ne, gl_si, gi_sl, gl_sl_self, gl_sl_ne, if_true, if_false, ns_i0, ns_i1, ns_i2, ns_i3, ns_i4, ns_i5, ns_i6, ns_i7, ns_i8, ns_i9, ns_i10, ns_i11, ns_i12, ns_i13, ns_i20, ns_i23, ns_i24, ns_i31, ns_i50, ns_i60, ns_i99, ns_i100, ns_i144, ns_i200, ns_i255, ns_i700, ns_i880, ns_i899, ns_i900, ns_i901, ns_i999, ns_i1000, ns_i1440, ns_i4095, ns_i1000000, rn, r1, ct, eb]
      exact ⟨_, rfl, i1, i2⟩) (s := si_ m 82 9 (nI 0)) ⟨kwc_ag hm (sa_ag (w := [(82, 82, 10)]) (by rfl) (sa_si (by rfl) sa_rf)), by rw [gi_si_self]; rfl, fun j r hj => by cases hj⟩
  rw [List.take_length] at r1
  have e1 : f_X6_gather_7 (nI d) k (nI 0) (si_ m 82 9 (nI 0)) = f_X6_gather_7 (nI d) k (nI (rdn_ F d F.length).length) m1 := e1
  refine ⟨m1, ?_, w1, r1⟩
  show f_X6_gather_7 (nI d) k (nI 0) (si_ m 82 9 (nI 0)) = _
  rw [e1, e_X6_gather_7]
  simp (disch := omega) only [↓reduceIte, ↓ns_m1, ns_let, ns_lef, ns_ltt, ns_ltf, ns_eqt, ns_eqf, ns_gd, nI_clamp, nI_add, pk_sub, pk_mul, ns_m1a, ns_m1b, ns_m1c, ns_m1d, ns_m1e, ns_m1f, ns_m1g, ns_un1, ns_un0, ns_day1, Option.bind_some, gi_si_self, gi_si_ne, gl_si, gi_sl, gl_sl_self, gl_sl_ne, if_true, if_false, ns_i0, ns_i1, ns_i2, ns_i3, ns_i4, ns_i5, ns_i6, ns_i7, ns_i8, ns_i9, ns_i10, ns_i11, ns_i12, ns_i13, ns_i20, ns_i23, ns_i24, ns_i31, ns_i50, ns_i60, ns_i99, ns_i100, ns_i144, ns_i200, ns_i255, ns_i700, ns_i880, ns_i899, ns_i900, ns_i901, ns_i999, ns_i1000, ns_i1440, ns_i4095, ns_i1000000, ron_ w1.2.2.1 hd]
/-! ===== the lowest bit ===== -/
def tzf_ : Nat → Nat → Nat
  | 0, _ => 0
  | k + 1, s => if s % 2 = 1 then 0 else tzf_ k (s / 2) + 1
def tz_ (s : Nat) : Nat := tzf_ 13 s
theorem tz_m (x : Int32) (m : fm_) : f_J6_numberOfTrailingZeros_0f7a4 x m = (f_J6_numberOfTrailingZeros_0f7a4 x m0_).map fun q => (q.1, m) := by
  unfold f_J6_numberOfTrailingZeros_0f7a4
  simp only [apply_ite (Option.map _), Option.map_some]
set_option maxRecDepth 100000 in
theorem tz_all : ∀ u, u < 64 → ∀ v, v < 64 → ¬ 64 * u + v = 0 → (f_J6_numberOfTrailingZeros_0f7a4 (nI (64 * u + v)) m0_).map Prod.fst = some (nI (tz_ (64 * u + v))) := by decide +kernel
theorem tz_e {s : Nat} (h0 : ¬ s = 0) (hs : s < 4096) (m : fm_) : f_J6_numberOfTrailingZeros_0f7a4 (nI s) m = some (nI (tz_ s), m) := by
  have := tz_all (s / 64) (by omega) (s % 64) (by omega) (by omega)
  rw [show 64 * (s / 64) + s % 64 = s by omega] at this
  rw [tz_m]
  cases e : f_J6_numberOfTrailingZeros_0f7a4 (nI s) m0_ with
  | none => rw [e] at this; cases this
  | some q =>
    rw [e] at this
    have e1 : q.1 = nI (tz_ s) := Option.some.inj this
    show some (q.1, m) = _
    rw [e1]
set_option maxRecDepth 100000 in
theorem low_all : ∀ s, s < 128 → ¬ s = 0 → tz_ s < 7 ∧ s.testBit (tz_ s) = true ∧ (s &&& (s - 1)) < s ∧ ∀ i, i < 7 → (s &&& (s - 1)).testBit i = (s.testBit i && !(decide (i = tz_ s))) ∧ (i < tz_ s → s.testBit i = false) := by decide +kernel
