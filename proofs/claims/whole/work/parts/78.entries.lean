/-! ===== entries of the reference ===== -/
theorem en26_ {W : List (Nat × Nat × Nat)} {P : pl_} {F : List fa_} {T : Nat} {C : List (Nat × Nat × Nat)} (hk : kok_ W P F T C) (h2 : rok2_ F) {z : Nat} (hz : z < 4096) {m : fm_} (hm : kwm_ W P F T C m) (h6 : gi_ m 106 31 = nI z) {d p : Nat} (hp : p < P.length) {k : Int32} (hn : knm_ W P F C (rdk_ F d k F.length) m) {j : Nat} (hj : j < 6) {od : od_} (hod : ook_ od) (ho : orm_ j od m) {x2 x3 : Int32} : ∀ (l : List Nat) (i : Nat) (b : Option Nat), (rdk_ F d k F.length).drop i = l → i ≤ 7 → (∀ x, b = some x → x < 1440) → f_X12_enteredAt_26 (nI p) x2 x3 (nI j) (en1_ b) (nI i) m = some (en1_ (enl_ (mnt_ F) (ent_ W z P F C od.2.2.1 d k p) l b), m) := by
  obtain ⟨hW, hP, hF, hC, hRk⟩ := id hk
  have hR := rds_rdk hRk d k
  have hl7 := hR.1
  have g77 := hn.1.1
  have hb4 : (hrs_ od.2.2.1).1 ≤ 1440 ∧ (hrs_ od.2.2.1).2 ≤ 1440 := by
    have h := hod.2.2.2.2.1
    cases e : od.2.2.1 with
    | none => exact ⟨by show 0 ≤ 1440; omega, Nat.le_refl _⟩
    | some q =>
      have := h q e
      exact ⟨by show q.1 ≤ 1440; omega, this.2⟩
  have gh1 := ho.1
  have gh2 := ho.2.1
  intro l
  induction l with
  | nil =>
    intro i b hl hi hb
    have : (rdk_ F d k F.length).length ≤ i := by
      have := congrArg List.length hl
      rw [List.length_drop, List.length_nil] at this
      omega
    rw [e_X12_enteredAt_26]
    simp (disch := omega) only [↓reduceIte, ↓ns_m1, ns_let, ns_lef, ns_ltt, ns_ltf, ns_eqt, ns_eqf, ns_gd, nI_clamp, nI_add, pk_sub, pk_mul, ns_m1a, ns_m1b, ns_m1c, ns_m1d, ns_m1e, ns_m1f, ns_m1g, ns_un1, ns_un0, ns_day1, Option.bind_some, gi_si_self, gi_si_ne, gl_si, gi_sl, gl_sl_self, gl_sl_ne, if_true, if_false, ns_i0, ns_i1, ns_i2, ns_i3, ns_i4, ns_i5, ns_i6, ns_i7, ns_i8, ns_i9, ns_i10, ns_i11, ns_i12, ns_i13, ns_i20, ns_i23, ns_i24, ns_i31, ns_i50, ns_i60, ns_i99, ns_i100, ns_i144, ns_i200, ns_i255, ns_i700, ns_i880, ns_i899, ns_i900, ns_i901, ns_i999, ns_i1000, ns_i1440, ns_i4095, ns_i1000000, g77]
    rfl
  | cons r l ih =>
    intro i b hl hi hb
    obtain ⟨k1, k2, k3⟩ := drop_p hl
    have hr := List.mem_of_getElem? k1
    obtain ⟨q, hq, hq1⟩ := hR.2 r hr
    obtain ⟨g144, _, pt, pl, r2⟩ := fr_m hk hm hq hq1
    have hv := mnt_2 h2 hq hq1
    have g151 := hn.1.2 i r k1
    have iz := isz_m hz h6 pl
    have ow := knm_ow hn k1
    have hbz := bb_lt z (pnt_ F C r)
    show _ = some (en1_ (enl_ (mnt_ F) (ent_ W z P F C od.2.2.1 d k p) l (if ent_ W z P F C od.2.2.1 d k p r = true then enst_ b (mnt_ F r) else b)), m)
    rw [e_X12_enteredAt_26]
    by_cases c3 : owr_ W P F C d k r = nI p
    · by_cases c1 : bb_ z (pnt_ F C r) = 1
      · by_cases c2 : (hrs_ od.2.2.1).1 ≤ mnt_ F r ∧ mnt_ F r < (hrs_ od.2.2.1).2
        · have ct : ent_ W z P F C od.2.2.1 d k p r = true := by
            unfold ent_ opr_
            rw [decide_eq_true c1, decide_eq_true c2, decide_eq_true c3]; rfl
          rw [if_pos ct]
          have ih := ih (i + 1) (enst_ b (mnt_ F r)) k2 (by omega) (enst_b hv hb)
          cases b with
          | none =>
            have en : en1_ none = -1 := rfl
            have es : enst_ none (mnt_ F r) = some (mnt_ F r) := rfl
            have e2 : en1_ (some (mnt_ F r)) = nI (mnt_ F r) := rfl
            rw [es, e2] at ih
            rw [es]
            simp (disch := omega) only [↓reduceIte, ↓ns_m1, ns_let, ns_lef, ns_ltt, ns_ltf, ns_eqt, ns_eqf, ns_gd, nI_clamp, nI_add, pk_sub, pk_mul, ns_m1a, ns_m1b, ns_m1c, ns_m1d, ns_m1e, ns_m1f, ns_m1g, ns_un1, ns_un0, ns_day1, Option.bind_some, gi_si_self, gi_si_ne, gl_si, gi_sl, gl_sl_self, gl_sl_ne, if_true, if_false, ns_i0, ns_i1, ns_i2, ns_i3, ns_i4, ns_i5, ns_i6, ns_i7, ns_i8, ns_i9, ns_i10, ns_i11, ns_i12, ns_i13, ns_i20, ns_i23, ns_i24, ns_i31, ns_i50, ns_i60, ns_i99, ns_i100, ns_i144, ns_i200, ns_i255, ns_i700, ns_i880, ns_i899, ns_i900, ns_i901, ns_i999, ns_i1000, ns_i1440, ns_i4095, ns_i1000000, g77, g151, ow, c3, pt, iz, c1, g144, gh1, gh2, en, ih]
          | some x =>
            have en : en1_ (some x) = nI x := rfl
            have hx := hb x rfl
            have es : enst_ (some x) (mnt_ F r) = some (min x (mnt_ F r)) := rfl
            rw [es] at ih
            rw [es]
            by_cases c4 : x ≤ mnt_ F r
            · have em : min x (mnt_ F r) = x := by omega
              rw [em, en] at ih
              rw [em]
              simp (disch := omega) only [↓reduceIte, ↓ns_m1, ns_let, ns_lef, ns_ltt, ns_ltf, ns_eqt, ns_eqf, ns_gd, nI_clamp, nI_add, pk_sub, pk_mul, ns_m1a, ns_m1b, ns_m1c, ns_m1d, ns_m1e, ns_m1f, ns_m1g, ns_un1, ns_un0, ns_day1, Option.bind_some, gi_si_self, gi_si_ne, gl_si, gi_sl, gl_sl_self, gl_sl_ne, if_true, if_false, ns_i0, ns_i1, ns_i2, ns_i3, ns_i4, ns_i5, ns_i6, ns_i7, ns_i8, ns_i9, ns_i10, ns_i11, ns_i12, ns_i13, ns_i20, ns_i23, ns_i24, ns_i31, ns_i50, ns_i60, ns_i99, ns_i100, ns_i144, ns_i200, ns_i255, ns_i700, ns_i880, ns_i899, ns_i900, ns_i901, ns_i999, ns_i1000, ns_i1440, ns_i4095, ns_i1000000, g77, g151, ow, c3, pt, iz, c1, g144, gh1, gh2, en, ih]
            · have em : min x (mnt_ F r) = mnt_ F r := by omega
              have e2 : en1_ (some (mnt_ F r)) = nI (mnt_ F r) := rfl
              rw [em, e2] at ih
              rw [em]
              simp (disch := omega) only [↓reduceIte, ↓ns_m1, ns_let, ns_lef, ns_ltt, ns_ltf, ns_eqt, ns_eqf, ns_gd, nI_clamp, nI_add, pk_sub, pk_mul, ns_m1a, ns_m1b, ns_m1c, ns_m1d, ns_m1e, ns_m1f, ns_m1g, ns_un1, ns_un0, ns_day1, Option.bind_some, gi_si_self, gi_si_ne, gl_si, gi_sl, gl_sl_self, gl_sl_ne, if_true, if_false, ns_i0, ns_i1, ns_i2, ns_i3, ns_i4, ns_i5, ns_i6, ns_i7, ns_i8, ns_i9, ns_i10, ns_i11, ns_i12, ns_i13, ns_i20, ns_i23, ns_i24, ns_i31, ns_i50, ns_i60, ns_i99, ns_i100, ns_i144, ns_i200, ns_i255, ns_i700, ns_i880, ns_i899, ns_i900, ns_i901, ns_i999, ns_i1000, ns_i1440, ns_i4095, ns_i1000000, g77, g151, ow, c3, pt, iz, c1, g144, gh1, gh2, en, ih]
        · have ct : ¬ ent_ W z P F C od.2.2.1 d k p r = true := by
            unfold ent_ opr_
            rw [decide_eq_false c2]; simp
          rw [if_neg ct]
          have ih := ih (i + 1) b k2 (by omega) hb
          by_cases c4 : mnt_ F r < (hrs_ od.2.2.1).1
          · simp (disch := omega) only [↓reduceIte, ↓ns_m1, ns_let, ns_lef, ns_ltt, ns_ltf, ns_eqt, ns_eqf, ns_gd, nI_clamp, nI_add, pk_sub, pk_mul, ns_m1a, ns_m1b, ns_m1c, ns_m1d, ns_m1e, ns_m1f, ns_m1g, ns_un1, ns_un0, ns_day1, Option.bind_some, gi_si_self, gi_si_ne, gl_si, gi_sl, gl_sl_self, gl_sl_ne, if_true, if_false, ns_i0, ns_i1, ns_i2, ns_i3, ns_i4, ns_i5, ns_i6, ns_i7, ns_i8, ns_i9, ns_i10, ns_i11, ns_i12, ns_i13, ns_i20, ns_i23, ns_i24, ns_i31, ns_i50, ns_i60, ns_i99, ns_i100, ns_i144, ns_i200, ns_i255, ns_i700, ns_i880, ns_i899, ns_i900, ns_i901, ns_i999, ns_i1000, ns_i1440, ns_i4095, ns_i1000000, g77, g151, ow, c3, pt, iz, c1, g144, gh1, gh2, ih]
          · simp (disch := omega) only [↓reduceIte, ↓ns_m1, ns_let, ns_lef, ns_ltt, ns_ltf, ns_eqt, ns_eqf, ns_gd, nI_clamp, nI_add, pk_sub, pk_mul, ns_m1a, ns_m1b, ns_m1c, ns_m1d, ns_m1e, ns_m1f, ns_m1g, ns_un1, ns_un0, ns_day1, Option.bind_some, gi_si_self, gi_si_ne, gl_si, gi_sl, gl_sl_self, gl_sl_ne, if_true, if_false, ns_i0, ns_i1, ns_i2, ns_i3, ns_i4, ns_i5, ns_i6, ns_i7, ns_i8, ns_i9, ns_i10, ns_i11, ns_i12, ns_i13, ns_i20, ns_i23, ns_i24, ns_i31, ns_i50, ns_i60, ns_i99, ns_i100, ns_i144, ns_i200, ns_i255, ns_i700, ns_i880, ns_i899, ns_i900, ns_i901, ns_i999, ns_i1000, ns_i1440, ns_i4095, ns_i1000000, g77, g151, ow, c3, pt, iz, c1, g144, gh1, gh2, ih]
      · have c0 : bb_ z (pnt_ F C r) = 0 := by omega
        have ct : ¬ ent_ W z P F C od.2.2.1 d k p r = true := by
          unfold ent_ opr_
          rw [decide_eq_false c1]; simp
        rw [if_neg ct]
        have ih := ih (i + 1) b k2 (by omega) hb
        simp (disch := omega) only [↓reduceIte, ↓ns_m1, ns_let, ns_lef, ns_ltt, ns_ltf, ns_eqt, ns_eqf, ns_gd, nI_clamp, nI_add, pk_sub, pk_mul, ns_m1a, ns_m1b, ns_m1c, ns_m1d, ns_m1e, ns_m1f, ns_m1g, ns_un1, ns_un0, ns_day1, Option.bind_some, gi_si_self, gi_si_ne, gl_si, gi_sl, gl_sl_self, gl_sl_ne, if_true, if_false, ns_i0, ns_i1, ns_i2, ns_i3, ns_i4, ns_i5, ns_i6, ns_i7, ns_i8, ns_i9, ns_i10, ns_i11, ns_i12, ns_i13, ns_i20, ns_i23, ns_i24, ns_i31, ns_i50, ns_i60, ns_i99, ns_i100, ns_i144, ns_i200, ns_i255, ns_i700, ns_i880, ns_i899, ns_i900, ns_i901, ns_i999, ns_i1000, ns_i1440, ns_i4095, ns_i1000000, g77, g151, ow, c3, pt, iz, c0, ih]
    · have ct : ¬ ent_ W z P F C od.2.2.1 d k p r = true := by
        unfold ent_ opr_
        rw [decide_eq_false c3]; simp
      rw [if_neg ct]
      have ih := ih (i + 1) b k2 (by omega) hb
      simp (disch := omega) only [↓reduceIte, ↓ns_m1, ns_let, ns_lef, ns_ltt, ns_ltf, ns_eqt, ns_eqf, ns_gd, nI_clamp, nI_add, pk_sub, pk_mul, ns_m1a, ns_m1b, ns_m1c, ns_m1d, ns_m1e, ns_m1f, ns_m1g, ns_un1, ns_un0, ns_day1, Option.bind_some, gi_si_self, gi_si_ne, gl_si, gi_sl, gl_sl_self, gl_sl_ne, if_true, if_false, ns_i0, ns_i1, ns_i2, ns_i3, ns_i4, ns_i5, ns_i6, ns_i7, ns_i8, ns_i9, ns_i10, ns_i11, ns_i12, ns_i13, ns_i20, ns_i23, ns_i24, ns_i31, ns_i50, ns_i60, ns_i99, ns_i100, ns_i144, ns_i200, ns_i255, ns_i700, ns_i880, ns_i899, ns_i900, ns_i901, ns_i999, ns_i1000, ns_i1440, ns_i4095, ns_i1000000, g77, g151, ow, c3, ih]
theorem ent_m {W : List (Nat × Nat × Nat)} {P : pl_} {F : List fa_} {T : Nat} {C : List (Nat × Nat × Nat)} (hk : kok_ W P F T C) (h2 : rok2_ F) {z : Nat} (hz : z < 4096) {O : List od_} (hO : oko_ O) {m : fm_} (hm : kwm_ W P F T C m) (h6 : gi_ m 106 31 = nI z) (hl : lom_ O m) {d p : Nat} (hd : d < 100) (hp : p < P.length) (k : Int32) : ∃ m1, f_X12_enteredAt (nI p) (nI d) k m = some (en1_ (enm_ W z P F C O d k p), m1) ∧ kwm_ W P F T C m1 ∧ gi_ m1 106 31 = nI z ∧ lom_ O m1 := by
  have hl6 := hO.1.1
  have hP := hk.2.1
  unfold f_X12_enteredAt enm_
  rw [inf_m hO.1 hl.1 hd]
  simp only [Option.bind_some]
  cases hb : inf_ O d O.length with
  | none => exact ⟨m, rfl, hm, h6, hl⟩
  | some j =>
    have hj := (inf_u _ _ hb).1
    have e := List.getElem?_eq_getElem hj
    generalize O[j] = o at e
    obtain ⟨m1, q1, w1, k1⟩ := know_m hk hm hd k
    have f1 := fr_X12_know q1
    have h61 : gi_ m1 106 31 = nI z := (sa_gi f1 (by rfl)).trans h6
    have hl1 : lom_ O m1 := lom_ag hl (sa_ag (by rfl) f1)
    have := en26_ hk h2 hz w1 h61 hp k1 (show j < 6 by omega) (hO.2 o (List.mem_of_getElem? e)) (hl1.2 j o e) (x2 := nI d) (x3 := k) _ 0 none rfl (by omega) (fun x hx => by cases hx)
    have ef : enl_ (mnt_ F) (ent_ W z P F C o.2.2.1 d k p) (rdk_ F d k F.length) none = enl_ (mnt_ F) (ent_ W z P F C o.2.2.1 d k p) (rdn_ F d F.length) none := enl_filter _ _ fun r hr h => (List.mem_filter.mp (opr_in (p := p) (by omega) (by
      unfold ent_ at h
      rw [Bool.and_eq_true, Bool.and_eq_true] at h
      exact h.2.2))).2
    rw [show (rdk_ F d k F.length).drop 0 = rdk_ F d k F.length from rfl, ef] at this
    simp only [e]
    have en : en1_ (some j) = nI j := rfl
    have en0 : en1_ none = -1 := rfl
    rw [en0] at this
    have this : f_X12_enteredAt_26 (nI p) (nI d) k (nI j) (-1) (nI 0) m1 = _ := this
    refine ⟨m1, ?_, w1, h61, hl1⟩
    simp (disch := omega) only [↓reduceIte, ↓ns_m1, ns_let, ns_lef, ns_ltt, ns_ltf, ns_eqt, ns_eqf, ns_gd, nI_clamp, nI_add, pk_sub, pk_mul, ns_m1a, ns_m1b, ns_m1c, ns_m1d, ns_m1e, ns_m1f, ns_m1g, ns_un1, ns_un0, ns_day1, Option.bind_some, gi_si_self, gi_si_ne, gl_si, gi_sl, gl_sl_self, gl_sl_ne, if_true, if_false, ns_i0, ns_i1, ns_i2, ns_i3, ns_i4, ns_i5, ns_i6, ns_i7, ns_i8, ns_i9, ns_i10, ns_i11, ns_i12, ns_i13, ns_i20, ns_i23, ns_i24, ns_i31, ns_i50, ns_i60, ns_i99, ns_i100, ns_i144, ns_i200, ns_i255, ns_i700, ns_i880, ns_i899, ns_i900, ns_i901, ns_i999, ns_i1000, ns_i1440, ns_i4095, ns_i1000000, en, q1, this]
    exact this
