/-! ===== the path of a trip, the reference ===== -/
def pth_ (V : List Nat) (m : fm_) : Prop := gi_ m 106 95 = nI V.length ∧ ∀ j x, V[j]? = some x → gi_ m 166 j = nI x
theorem pth_add {V : List Nat} {m : fm_} (h : pth_ V m) (q : Nat) : pth_ (V ++ [q]) (si_ (si_ m 166 V.length (nI q)) 106 95 (nI (V.length + 1))) := by
  refine ⟨?_, fun j x hj => ?_⟩
  · rw [gi_si_self, List.length_append]
    rfl
  · rcases ap_get hj with ⟨q1, q2⟩ | ⟨q1, q2⟩
    · have := h.2 j x q2
      simp (disch := omega) only [↓reduceIte, ↓ns_m1, ns_let, ns_lef, ns_ltt, ns_ltf, ns_eqt, ns_eqf, ns_gd, nI_clamp, nI_add, pk_sub, pk_mul, ns_m1a, ns_m1b, ns_m1c, ns_m1d, ns_m1e, ns_m1f, ns_m1g, ns_un1, ns_un0, ns_day1, Option.bind_some, gi_si_self, gi_si_ne, gl_si, gi_sl, gl_sl_self, gl_sl_ne, if_true, if_false, ns_i0, ns_i1, ns_i2, ns_i3, ns_i4, ns_i5, ns_i6, ns_i7, ns_i8, ns_i9, ns_i10, ns_i11, ns_i12, ns_i13, ns_i20, ns_i23, ns_i24, ns_i31, ns_i50, ns_i60, ns_i99, ns_i100, ns_i144, ns_i200, ns_i255, ns_i700, ns_i880, ns_i899, ns_i900, ns_i901, ns_i999, ns_i1000, ns_i1440, ns_i4095, ns_i1000000, this]
    · rw [q1, q2]
      simp (disch := omega) only [↓reduceIte, ↓ns_m1, ns_let, ns_lef, ns_ltt, ns_ltf, ns_eqt, ns_eqf, ns_gd, nI_clamp, nI_add, pk_sub, pk_mul, ns_m1a, ns_m1b, ns_m1c, ns_m1d, ns_m1e, ns_m1f, ns_m1g, ns_un1, ns_un0, ns_day1, Option.bind_some, gi_si_self, gi_si_ne, gl_si, gi_sl, gl_sl_self, gl_sl_ne, if_true, if_false, ns_i0, ns_i1, ns_i2, ns_i3, ns_i4, ns_i5, ns_i6, ns_i7, ns_i8, ns_i9, ns_i10, ns_i11, ns_i12, ns_i13, ns_i20, ns_i23, ns_i24, ns_i31, ns_i50, ns_i60, ns_i99, ns_i100, ns_i144, ns_i200, ns_i255, ns_i700, ns_i880, ns_i899, ns_i900, ns_i901, ns_i999, ns_i1000, ns_i1440, ns_i4095, ns_i1000000]
/-- what is left to pay stands in the row -/
def fx2_ (W : List (Nat × Nat × Nat)) (z v c g : Nat) (R : Nat → Nat) : Prop := (∀ s, R s ≤ 1000000) ∧ ∀ p t, stt_ z p t → R (2 * p + t) = min 1000000 (cl_ W z v c g p t)
theorem obn_ {W : List (Nat × Nat × Nat)} {z v c g p t q : Nat} {R : Nat → Nat} (h : tk_ W z v c g) (hF : fx2_ W z v c g R) (hs : stt_ z p t) (hf : cl_ W z v c g p t < 1000000) (hq : q < 12) : ob_ W z v c R p q t = R (2 * p + t) ↔ nxp_ W z v c g p t q = true := by
  have e1 := hF.2 p t hs
  have e2 := hF.2 q (nt_ z t q) (nt_ok hs.1 hq)
  rw [nxp_u, cl_kk hs.1]
  unfold ob_
  by_cases c1 : hm_ W p q < 1000000
  · rw [if_pos c1]
    by_cases c2 : R (2 * q + nt_ z t q) < 1000000
    · rw [if_pos c2, Nat.mul_comm v]
      show hm_ W p q * v + (if t = 0 ∧ nt_ z t q = 1 then c else 0) + _ = _ ↔ _
      constructor
      · intro x
        exact ⟨c1, by omega⟩
      · intro x
        omega
    · rw [if_neg c2]
      constructor
      · intro x; omega
      · intro x; omega
  · rw [if_neg c1]
    constructor
    · intro x; omega
    · intro x; exact absurd x.1 c1
theorem find_ {W : List (Nat × Nat × Nat)} {z v c g p0 r : Nat} (h : tk_ W z v c g) (hr : r < 20) {m : fm_} (hm : twm_ W z v g p0 r m) {R : Nat → Nat} (hR : rs_ R m) (hF : fx2_ W z v c g R) {p t : Nat} (hs : stt_ z p t) (hf : cl_ W z v c g p t < 1000000) {V : List Nat} (hV : pth_ V m) (hl : V.length < 13) {x3 : Int32} : ∀ k q q1, q + k = 12 → fst_ (nxp_ W z v c g p t) k q = some q1 → f_X12_travel_177 (nI r) (nI c) x3 (nI p) (nI t) (nI q) m = f_X12_travel_163 (nI r) (nI c) x3 (nI q1) (nI (nt_ z t q1)) (si_ (si_ m 166 V.length (nI q1)) 106 95 (nI (V.length + 1))) := by
  intro k
  induction k with
  | zero => intro q q1 _ e; cases e
  | succ k ih =>
    intro q q1 hk e
    have hq : q < 12 := by omega
    have ht := hs.1
    have hp := hs.2.2
    have on := onby_ h hr hm hR hF.1 hp hq ht
    have bo := ob_b (R := R) h p q t
    have key := obn_ h hF hs hf hq
    have g1 := hR (2 * p + t) (by omega)
    have b1 := hF.1 (2 * p + t)
    have hz := isz_m h.2.1 hm.1 hq
    have hb := bb_lt z q
    rw [fst_s] at e
    rw [e_X12_travel_177]
    by_cases cn : nxp_ W z v c g p t q = true
    · rw [if_pos cn] at e
      cases e
      have eo := key.mpr cn
      have en : nt_ z t q = if bb_ z q = 1 then 1 else t := by
        rcases ht with ht | ht
        · subst ht
          rw [nt_bb]
          by_cases cb : bb_ z q = 1
          · rw [if_pos cb, cb]
          · rw [if_neg cb]; omega
        · subst ht
          rw [nt_1]
          by_cases cb : bb_ z q = 1
          · rw [if_pos cb]
          · rw [if_neg cb]
      rw [en]
      by_cases cb : bb_ z q = 1
      · simp (disch := omega) only [↓reduceIte, ↓ns_m1, ns_let, ns_lef, ns_ltt, ns_ltf, ns_eqt, ns_eqf, ns_gd, nI_clamp, nI_add, pk_sub, pk_mul, ns_m1a, ns_m1b, ns_m1c, ns_m1d, ns_m1e, ns_m1f, ns_m1g, ns_un1, ns_un0, ns_day1, Option.bind_some, gi_si_self, gi_si_ne, gl_si, gi_sl, gl_sl_self, gl_sl_ne, if_true, if_false, ns_i0, ns_i1, ns_i2, ns_i3, ns_i4, ns_i5, ns_i6, ns_i7, ns_i8, ns_i9, ns_i10, ns_i11, ns_i12, ns_i13, ns_i20, ns_i23, ns_i24, ns_i31, ns_i50, ns_i60, ns_i99, ns_i100, ns_i144, ns_i200, ns_i255, ns_i700, ns_i880, ns_i899, ns_i900, ns_i901, ns_i999, ns_i1000, ns_i1440, ns_i4095, ns_i1000000, on, g1, eo, hz, cb, hV.1]
      · have cb0 : bb_ z q = 0 := by omega
        rw [if_neg cb]
        simp (disch := omega) only [↓reduceIte, ↓ns_m1, ns_let, ns_lef, ns_ltt, ns_ltf, ns_eqt, ns_eqf, ns_gd, nI_clamp, nI_add, pk_sub, pk_mul, ns_m1a, ns_m1b, ns_m1c, ns_m1d, ns_m1e, ns_m1f, ns_m1g, ns_un1, ns_un0, ns_day1, Option.bind_some, gi_si_self, gi_si_ne, gl_si, gi_sl, gl_sl_self, gl_sl_ne, if_true, if_false, ns_i0, ns_i1, ns_i2, ns_i3, ns_i4, ns_i5, ns_i6, ns_i7, ns_i8, ns_i9, ns_i10, ns_i11, ns_i12, ns_i13, ns_i20, ns_i23, ns_i24, ns_i31, ns_i50, ns_i60, ns_i99, ns_i100, ns_i144, ns_i200, ns_i255, ns_i700, ns_i880, ns_i899, ns_i900, ns_i901, ns_i999, ns_i1000, ns_i1440, ns_i4095, ns_i1000000, on, g1, eo, hz, cb0, hV.1]
    · rw [if_neg cn] at e
      have eo : ¬ _ := fun x => cn (key.mp x)
      have ih := ih (q + 1) q1 (by omega) e
      simp (disch := omega) only [↓reduceIte, ↓ns_m1, ns_let, ns_lef, ns_ltt, ns_ltf, ns_eqt, ns_eqf, ns_gd, nI_clamp, nI_add, pk_sub, pk_mul, ns_m1a, ns_m1b, ns_m1c, ns_m1d, ns_m1e, ns_m1f, ns_m1g, ns_un1, ns_un0, ns_day1, Option.bind_some, gi_si_self, gi_si_ne, gl_si, gi_sl, gl_sl_self, gl_sl_ne, if_true, if_false, ns_i0, ns_i1, ns_i2, ns_i3, ns_i4, ns_i5, ns_i6, ns_i7, ns_i8, ns_i9, ns_i10, ns_i11, ns_i12, ns_i13, ns_i20, ns_i23, ns_i24, ns_i31, ns_i50, ns_i60, ns_i99, ns_i100, ns_i144, ns_i200, ns_i255, ns_i700, ns_i880, ns_i899, ns_i900, ns_i901, ns_i999, ns_i1000, ns_i1440, ns_i4095, ns_i1000000, on, g1]
      exact ih
theorem path_ {W : List (Nat × Nat × Nat)} {z v c g p0 r : Nat} (h : tk_ W z v c g) (hr : r < 20) {R : Nat → Nat} (hF : fx2_ W z v c g R) {x3 : Int32} : ∀ (k : Nat) (V : List Nat) (p t : Nat) (m : fm_), twm_ W z v g p0 r m → rs_ R m → pth_ V m → V.length + k ≤ 12 → stt_ z p t → cl_ W z v c g p t < 1000000 → ms_ W z v c g p t ≤ k → ∃ m', f_X12_travel_163 (nI r) (nI c) x3 (nI p) (nI t) m = some (0, m') ∧ pth_ (V ++ ptl_ W z v c g k p t) m' := by
  intro k
  induction k with
  | zero =>
    intro V p t m hm hR hV hl hs hf hms
    have hg := h.2.2.2.2.2
    have hp := hs.2.2
    rw [e_X12_travel_163]
    by_cases e : p = g
    · subst e
      simp (disch := omega) only [↓reduceIte, ↓ns_m1, ns_let, ns_lef, ns_ltt, ns_ltf, ns_eqt, ns_eqf, ns_gd, nI_clamp, nI_add, pk_sub, pk_mul, ns_m1a, ns_m1b, ns_m1c, ns_m1d, ns_m1e, ns_m1f, ns_m1g, ns_un1, ns_un0, ns_day1, Option.bind_some, gi_si_self, gi_si_ne, gl_si, gi_sl, gl_sl_self, gl_sl_ne, if_true, if_false, ns_i0, ns_i1, ns_i2, ns_i3, ns_i4, ns_i5, ns_i6, ns_i7, ns_i8, ns_i9, ns_i10, ns_i11, ns_i12, ns_i13, ns_i20, ns_i23, ns_i24, ns_i31, ns_i50, ns_i60, ns_i99, ns_i100, ns_i144, ns_i200, ns_i255, ns_i700, ns_i880, ns_i899, ns_i900, ns_i901, ns_i999, ns_i1000, ns_i1440, ns_i4095, ns_i1000000, hm.2.2.2.1]
      refine ⟨m, rfl, ?_⟩
      rw [ptl_g, List.append_nil]
      exact hV
    · obtain ⟨q, e1, hq, hh, hk⟩ := nx_some h hs e (cl_fin h hs.1 hf)
      have := (ms_lt h hs.1 hq hk).1
      omega
  | succ k ih =>
    intro V p t m hm hR hV hl hs hf hms
    have hg := h.2.2.2.2.2
    have hp := hs.2.2
    rw [e_X12_travel_163]
    by_cases e : p = g
    · subst e
      simp (disch := omega) only [↓reduceIte, ↓ns_m1, ns_let, ns_lef, ns_ltt, ns_ltf, ns_eqt, ns_eqf, ns_gd, nI_clamp, nI_add, pk_sub, pk_mul, ns_m1a, ns_m1b, ns_m1c, ns_m1d, ns_m1e, ns_m1f, ns_m1g, ns_un1, ns_un0, ns_day1, Option.bind_some, gi_si_self, gi_si_ne, gl_si, gi_sl, gl_sl_self, gl_sl_ne, if_true, if_false, ns_i0, ns_i1, ns_i2, ns_i3, ns_i4, ns_i5, ns_i6, ns_i7, ns_i8, ns_i9, ns_i10, ns_i11, ns_i12, ns_i13, ns_i20, ns_i23, ns_i24, ns_i31, ns_i50, ns_i60, ns_i99, ns_i100, ns_i144, ns_i200, ns_i255, ns_i700, ns_i880, ns_i899, ns_i900, ns_i901, ns_i999, ns_i1000, ns_i1440, ns_i4095, ns_i1000000, hm.2.2.2.1]
      refine ⟨m, rfl, ?_⟩
      rw [ptl_g, List.append_nil]
      exact hV
    · obtain ⟨q, e1, hq, hh, hk⟩ := nx_some h hs e (cl_fin h hs.1 hf)
      have hml := ms_lt h hs.1 hq hk
      have hcq : cl_ W z v c g q (nt_ z t q) < 1000000 := by
        have := (cl_kk hs.1).mp hk
        omega
      have fd := find_ h hr hm hR hF hs hf hV (by omega) (x3 := x3) 12 0 q rfl e1
      have hm1 : twm_ W z v g p0 r (si_ (si_ m 166 V.length (nI q)) 106 95 (nI (V.length + 1))) := twm_si (twm_si hm (Or.inl (by omega))) (Or.inr ⟨rfl, rfl⟩)
      have hR1 : rs_ R (si_ (si_ m 166 V.length (nI q)) 106 95 (nI (V.length + 1))) := fun s hs => ((gi_si_ne (by omega)).trans (gi_si_ne (by omega))).trans (hR s hs)
      obtain ⟨m2, e2, h2⟩ := ih (V ++ [q]) q (nt_ z t q) _ hm1 hR1 (pth_add hV q) (by rw [List.length_append]; show V.length + 1 + k ≤ 12; omega) (nt_ok hs.1 hq) hcq (by omega)
      refine ⟨m2, ?_, ?_⟩
      · simp (disch := omega) only [↓reduceIte, ↓ns_m1, ns_let, ns_lef, ns_ltt, ns_ltf, ns_eqt, ns_eqf, ns_gd, nI_clamp, nI_add, pk_sub, pk_mul, ns_m1a, ns_m1b, ns_m1c, ns_m1d, ns_m1e, ns_m1f, ns_m1g, ns_un1, ns_un0, ns_day1, Option.bind_some, gi_si_self, gi_si_ne, gl_si, gi_sl, gl_sl_self, gl_sl_ne, if_true, if_false, ns_i0, ns_i1, ns_i2, ns_i3, ns_i4, ns_i5, ns_i6, ns_i7, ns_i8, ns_i9, ns_i10, ns_i11, ns_i12, ns_i13, ns_i20, ns_i23, ns_i24, ns_i31, ns_i50, ns_i60, ns_i99, ns_i100, ns_i144, ns_i200, ns_i255, ns_i700, ns_i880, ns_i899, ns_i900, ns_i901, ns_i999, ns_i1000, ns_i1440, ns_i4095, ns_i1000000, hm.2.2.2.1, fd, e2]
      · rw [ptl_s e e1]
        rw [List.append_assoc] at h2
        exact h2
theorem cl_g {W : List (Nat × Nat × Nat)} {z v c g t : Nat} (hs : stt_ z g t) : cl_ W z v c g g t = 0 := by
  rcases hs.1 with ht | ht
  · subst ht
    have h0 : bes_ W z g g = 0 := ft_aa (S := fun p => !(zb_ z p)) (nz_b.mpr (hs.2.1 rfl))
    show min (bes_ W z g g * v) _ = 0
    rw [h0, Nat.zero_mul]
    exact Nat.zero_min _
  · subst ht
    have h0 : ner_ W g g = 0 := ft_aa (S := fun _ => true) rfl
    show ner_ W g g * v = 0
    rw [h0, Nat.zero_mul]
theorem trav_ {W : List (Nat × Nat × Nat)} {z v c g p0 r : Nat} (h : tk_ W z v c g) (hr : r < 20) (hp0 : p0 < 12) (hn : ner_ W p0 g < 1000000) {m : fm_} (hm : twm_ W z v g p0 r m) : ∃ m', f_X12_travel (nI r) (nI c) m = some (0, m') ∧ pth_ (p0 :: ptl_ W z v c g 11 p0 (bb_ z p0)) m' := by
  have hg := h.2.2.2.2.2
  obtain ⟨m1, e1, w1, r1⟩ := lp0_ (n := 24) (F := fun s m => f_X12_travel_2 (nI r) (nI c) (nI s) m) (I := fun s m => twm_ W z v g p0 r m ∧ ∀ y, y < s → gi_ m 165 y = nI (if y / 2 = g then 0 else 1000000)) (fun s m hs hI => by
    obtain ⟨i1, i2⟩ := hI
    show ∃ s', f_X12_travel_2 (nI r) (nI c) (nI s) m = f_X12_travel_2 (nI r) (nI c) (nI (s + 1)) s' ∧ _
    have fin : ∀ x : Int32, x = nI (if s / 2 = g then 0 else 1000000) → ∀ y, y < s + 1 → gi_ (si_ m 165 s x) 165 y = nI (if y / 2 = g then 0 else 1000000) := fun x hx y hy => by
      by_cases e : y = s
      · rw [e, gi_si_self, hx]
      · rw [gi_si_ne (by omega)]
        exact i2 y (by omega)
    rw [e_X12_travel_2]
    by_cases cc : s / 2 = g
    · simp (disch := omega) only [↓reduceIte, ↓ns_m1, ns_let, ns_lef, ns_ltt, ns_ltf, ns_eqt, ns_eqf, ns_gd, nI_clamp, nI_add, pk_sub, pk_mul, ns_m1a, ns_m1b, ns_m1c, ns_m1d, ns_m1e, ns_m1f, ns_m1g, ns_un1, ns_un0, ns_day1, Option.bind_some, gi_si_self, gi_si_ne, gl_si, gi_sl, gl_sl_self, gl_sl_ne, if_true, if_false, ns_i0, ns_i1, ns_i2, ns_i3, ns_i4, ns_i5, ns_i6, ns_i7, ns_i8, ns_i9, ns_i10, ns_i11, ns_i12, ns_i13, ns_i20, ns_i23, ns_i24, ns_i31, ns_i50, ns_i60, ns_i99, ns_i100, ns_i144, ns_i200, ns_i255, ns_i700, ns_i880, ns_i899, ns_i900, ns_i901, ns_i999, ns_i1000, ns_i1440, ns_i4095, ns_i1000000, pk_div, i1.2.2.2.1]
      exact ⟨_, rfl, twm_si i1 (Or.inl (by omega)), fin _ (by rw [if_pos cc])⟩
    · simp (disch := omega) only [↓reduceIte, ↓ns_m1, ns_let, ns_lef, ns_ltt, ns_ltf, ns_eqt, ns_eqf, ns_gd, nI_clamp, nI_add, pk_sub, pk_mul, ns_m1a, ns_m1b, ns_m1c, ns_m1d, ns_m1e, ns_m1f, ns_m1g, ns_un1, ns_un0, ns_day1, Option.bind_some, gi_si_self, gi_si_ne, gl_si, gi_sl, gl_sl_self, gl_sl_ne, if_true, if_false, ns_i0, ns_i1, ns_i2, ns_i3, ns_i4, ns_i5, ns_i6, ns_i7, ns_i8, ns_i9, ns_i10, ns_i11, ns_i12, ns_i13, ns_i20, ns_i23, ns_i24, ns_i31, ns_i50, ns_i60, ns_i99, ns_i100, ns_i144, ns_i200, ns_i255, ns_i700, ns_i880, ns_i899, ns_i900, ns_i901, ns_i999, ns_i1000, ns_i1440, ns_i4095, ns_i1000000, pk_div, i1.2.2.2.1]
      exact ⟨_, rfl, twm_si i1 (Or.inl (by omega)), fin _ (by rw [if_neg cc])⟩) (s := m) ⟨hm, fun y hy => absurd hy (Nat.not_lt_zero _)⟩
  have e1 : f_X12_travel_2 (nI r) (nI c) (nI 0) m = f_X12_travel_2 (nI r) (nI c) (nI 24) m1 := e1
  have g1 : gd1_ W z v c g (fun y => if y / 2 = g then 0 else 1000000) := by
    refine ⟨fun s => ?_, fun p t hs => ?_, ?_, ?_⟩
    · show (if s / 2 = g then 0 else 1000000) ≤ 1000000
      by_cases e : s / 2 = g
      · rw [if_pos e]; omega
      · rw [if_neg e]; omega
    · show _ ≤ (if (2 * p + t) / 2 = g then 0 else 1000000)
      have ht := hs.1
      by_cases e : (2 * p + t) / 2 = g
      · have : p = g := by omega
        subst this
        rw [cl_g hs]
        omega
      · rw [if_neg e]; omega
    · show (if (2 * g + 0) / 2 = g then 0 else 1000000) = 0
      rw [if_pos (by omega)]
    · show (if (2 * g + 1) / 2 = g then 0 else 1000000) = 0
      rw [if_pos (by omega)]
  obtain ⟨R, m2, e2, r2, w2, g2, f2⟩ := rest_ h hr _ (fun y => if y / 2 = g then 0 else 1000000) m1 (Nat.le_refl _) r1 w1 g1
  have hF : fx2_ W z v c g R := ⟨g2.1, fix_ h g2 f2⟩
  have hz := isz_m h.2.1 w2.1 hp0
  have hb := bb_lt z p0
  have st : stt_ z p0 (bb_ z p0) := by
    rw [← nt_bb]
    exact nt_ok (Or.inl rfl) hp0
  have hcl : cl_ W z v c g p0 (bb_ z p0) < 1000000 := by
    have := kk_st h hp0 st.1 hn
    rcases st.1 with ht | ht
    · rw [ht] at this ⊢; exact this
    · rw [ht] at this ⊢; rw [cl_kk1] at this; omega
  have w3 : twm_ W z v g p0 r (si_ (si_ m2 166 0 (nI p0)) 106 95 (nI 1)) := twm_si (twm_si w2 (Or.inl (by omega))) (Or.inr ⟨rfl, rfl⟩)
  have r3 : rs_ R (si_ (si_ m2 166 0 (nI p0)) 106 95 (nI 1)) := fun s hs => ((gi_si_ne (by omega)).trans (gi_si_ne (by omega))).trans (r2 s hs)
  have p3 : pth_ [p0] (si_ (si_ m2 166 0 (nI p0)) 106 95 (nI 1)) := by
    refine ⟨by rw [gi_si_self]; rfl, fun j x hj => ?_⟩
    cases j with
    | zero =>
      cases hj
      simp (disch := omega) only [↓reduceIte, ↓ns_m1, ns_let, ns_lef, ns_ltt, ns_ltf, ns_eqt, ns_eqf, ns_gd, nI_clamp, nI_add, pk_sub, pk_mul, ns_m1a, ns_m1b, ns_m1c, ns_m1d, ns_m1e, ns_m1f, ns_m1g, ns_un1, ns_un0, ns_day1, Option.bind_some, gi_si_self, gi_si_ne, gl_si, gi_sl, gl_sl_self, gl_sl_ne, if_true, if_false, ns_i0, ns_i1, ns_i2, ns_i3, ns_i4, ns_i5, ns_i6, ns_i7, ns_i8, ns_i9, ns_i10, ns_i11, ns_i12, ns_i13, ns_i20, ns_i23, ns_i24, ns_i31, ns_i50, ns_i60, ns_i99, ns_i100, ns_i144, ns_i200, ns_i255, ns_i700, ns_i880, ns_i899, ns_i900, ns_i901, ns_i999, ns_i1000, ns_i1440, ns_i4095, ns_i1000000]
    | succ j => cases hj
  obtain ⟨m3, e3, h3⟩ := path_ h hr hF (x3 := nI 0) 11 [p0] p0 (bb_ z p0) _ w3 r3 p3 (by show 1 + 11 ≤ 12; omega) st hcl (ms_11 hp0)
  refine ⟨m3, ?_, h3⟩
  show f_X12_travel_2 (nI r) (nI c) (nI 0) m = _
  rw [e1, e_X12_travel_2]
  simp (disch := omega) only [↓reduceIte, ↓ns_m1, ns_let, ns_lef, ns_ltt, ns_ltf, ns_eqt, ns_eqf, ns_gd, nI_clamp, nI_add, pk_sub, pk_mul, ns_m1a, ns_m1b, ns_m1c, ns_m1d, ns_m1e, ns_m1f, ns_m1g, ns_un1, ns_un0, ns_day1, Option.bind_some, gi_si_self, gi_si_ne, gl_si, gi_sl, gl_sl_self, gl_sl_ne, if_true, if_false, ns_i0, ns_i1, ns_i2, ns_i3, ns_i4, ns_i5, ns_i6, ns_i7, ns_i8, ns_i9, ns_i10, ns_i11, ns_i12, ns_i13, ns_i20, ns_i23, ns_i24, ns_i31, ns_i50, ns_i60, ns_i99, ns_i100, ns_i144, ns_i200, ns_i255, ns_i700, ns_i880, ns_i899, ns_i900, ns_i901, ns_i999, ns_i1000, ns_i1440, ns_i4095, ns_i1000000]
  rw [e2, e_X12_travel_41]
  by_cases cb : bb_ z p0 = 1
  · rw [cb] at e3 hz
    simp (disch := omega) only [↓reduceIte, ↓ns_m1, ns_let, ns_lef, ns_ltt, ns_ltf, ns_eqt, ns_eqf, ns_gd, nI_clamp, nI_add, pk_sub, pk_mul, ns_m1a, ns_m1b, ns_m1c, ns_m1d, ns_m1e, ns_m1f, ns_m1g, ns_un1, ns_un0, ns_day1, Option.bind_some, gi_si_self, gi_si_ne, gl_si, gi_sl, gl_sl_self, gl_sl_ne, if_true, if_false, ns_i0, ns_i1, ns_i2, ns_i3, ns_i4, ns_i5, ns_i6, ns_i7, ns_i8, ns_i9, ns_i10, ns_i11, ns_i12, ns_i13, ns_i20, ns_i23, ns_i24, ns_i31, ns_i50, ns_i60, ns_i99, ns_i100, ns_i144, ns_i200, ns_i255, ns_i700, ns_i880, ns_i899, ns_i900, ns_i901, ns_i999, ns_i1000, ns_i1440, ns_i4095, ns_i1000000, w2.2.2.1, hz, e3]
  · have cb0 : bb_ z p0 = 0 := by omega
    rw [cb0] at e3 hz
    simp (disch := omega) only [↓reduceIte, ↓ns_m1, ns_let, ns_lef, ns_ltt, ns_ltf, ns_eqt, ns_eqf, ns_gd, nI_clamp, nI_add, pk_sub, pk_mul, ns_m1a, ns_m1b, ns_m1c, ns_m1d, ns_m1e, ns_m1f, ns_m1g, ns_un1, ns_un0, ns_day1, Option.bind_some, gi_si_self, gi_si_ne, gl_si, gi_sl, gl_sl_self, gl_sl_ne, if_true, if_false, ns_i0, ns_i1, ns_i2, ns_i3, ns_i4, ns_i5, ns_i6, ns_i7, ns_i8, ns_i9, ns_i10, ns_i11, ns_i12, ns_i13, ns_i20, ns_i23, ns_i24, ns_i31, ns_i50, ns_i60, ns_i99, ns_i100, ns_i144, ns_i200, ns_i255, ns_i700, ns_i880, ns_i899, ns_i900, ns_i901, ns_i999, ns_i1000, ns_i1440, ns_i4095, ns_i1000000, w2.2.2.1, hz, e3]
/-! without the zone: the same way, whether touched or not -/
theorem kk_c0 {W : List (Nat × Nat × Nat)} {z v g p : Nat} (h : tk_ W z v 0 g) (hp : p < 12) (hf : kk_ W z v 0 g p 0 < 1000000 ∨ kk_ W z v 0 g p 1 < 1000000) : kk_ W z v 0 g p 0 = kk_ W z v 0 g p 1 := by
  have h1 := kk_01 h hp
  have hf : kk_ W z v 0 g p 0 < 1000000 := by omega
  have h2 : kk_ W z v 0 g p 1 ≤ kk_ W z v 0 g p 0 := by
    rw [kk_0] at hf ⊢
    rw [kk_1]
    by_cases c1 : bes_ W z p g * v ≤ byz_ W z p g * v + 0
    · rw [Nat.min_eq_left c1] at hf ⊢
      have hb : bes_ W z p g < 1000000 := by
        by_cases q : bes_ W z p g < 1000000
        · exact q
        · have := far_v (Nat.le_of_not_lt q) h.2.2.1; omega
      exact mul_mono (bes_ner h.1 _ p (Nat.le_refl _) hb)
    · rw [Nat.min_eq_right (by omega)] at hf ⊢
      have hb : byz_ W z p g < 1000000 := by
        by_cases q : byz_ W z p g < 1000000
        · exact q
        · have := far_v (Nat.le_of_not_lt q) h.2.2.1; omega
      exact mul_mono (byz_ner hb)
  omega
theorem nxp_c0 {W : List (Nat × Nat × Nat)} {z v g p t q : Nat} (h : tk_ W z v 0 g) (ht : t = 0 ∨ t = 1) (hp : p < 12) (hq : q < 12) (hf : kk_ W z v 0 g p t < 1000000) : nxp_ W z v 0 g p t q = nxp_ W z v 0 g p 1 q := by
  rcases ht with ht | ht
  · subst ht
    have e1 := kk_c0 h hp (Or.inl hf)
    apply Bool.eq_iff_iff.mpr
    rw [nxp_u, nxp_u, nt_1, ← e1, nt_0]
    by_cases c1 : zb_ z q = true
    · rw [if_pos c1]
    · rw [if_neg c1]
      by_cases c2 : kk_ W z v 0 g q 0 < 1000000 ∨ kk_ W z v 0 g q 1 < 1000000
      · rw [kk_c0 h hq c2]
      · constructor
        · intro x; omega
        · intro x; omega
  · rw [ht]
theorem fst_ext {p q : Nat → Bool} : ∀ (k s : Nat), (∀ x, s ≤ x → x < s + k → p x = q x) → fst_ p k s = fst_ q k s
  | 0, _, _ => rfl
  | k + 1, s, h => by
    rw [fst_s, fst_s, h s (Nat.le_refl _) (by omega), fst_ext k (s + 1) fun x h1 h2 => h x (by omega) (by omega)]
theorem ptl_c0 {W : List (Nat × Nat × Nat)} {z v g : Nat} (h : tk_ W z v 0 g) : ∀ (n p t : Nat), stt_ z p t → kk_ W z v 0 g p t < 1000000 → ptl_ W z v 0 g n p t = ptl_ W z v 0 g n p 1
  | 0, _, _, _, _ => rfl
  | n + 1, p, t, hs, hf => by
    by_cases e : p = g
    · subst e
      rw [ptl_g, ptl_g]
    · obtain ⟨q, e1, hq, hh, hk⟩ := nx_some h hs e hf
      have e2 : nx_ W z v 0 g p 1 = some q := by
        rw [← e1]
        unfold nx_
        exact (fst_ext 12 0 fun x _ hx => nxp_c0 h hs.1 hs.2.2 (by omega) hf).symm
      have hl := (ms_lt h hs.1 hq hk).2
      have st := nt_ok (z := z) hs.1 hq
      rw [ptl_s e e1, ptl_s e e2, ptl_c0 h n q (nt_ z t q) st (by omega), nt_1]
