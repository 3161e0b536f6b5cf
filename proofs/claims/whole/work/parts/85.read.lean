/-! ===== a reading told, the reference ===== -/
theorem rdn_s {F : List fa_} {d n : Nat} : rdn_ F d (n + 1) = if isrd_ F d n = true then rdn_ F d n ++ [n] else rdn_ F d n := rfl
theorem r66_ {F : List fa_} {T : Nat} {m : fm_} (hw : fw_ F T) (h : fm1s_ F T m) {x1 x3 : Int32} {s : Int64} {d : Nat} (hd : d < 100) : f_X12_read_66 x1 (nI d) x3 s (nI 0) (nI 0) m = f_X12_read_66 x1 (nI d) x3 s (nI (rdn_ F d F.length).length) (nI F.length) m := by
  have hl := hw.1
  obtain ⟨x, e, hx⟩ := lp0_ (n := F.length) (F := fun i x => f_X12_read_66 x1 (nI d) x3 s x (nI i) m) (I := fun i x => x = nI (rdn_ F d i).length) (fun i x hi hx => by
    have hx : x = nI (rdn_ F d i).length := hx
    subst hx
    have e := List.getElem?_eq_getElem hi
    generalize F[i] = q at e
    have g := h.2.2 i q e
    have g1 := g.1
    have g2 := g.2.2.2.2.1
    have hq := hw.2.2 q (List.mem_of_getElem? e)
    have b1 := hq.1
    have b2 := hq.2.2.2.2.1
    refine ⟨nI (rdn_ F d (i + 1)).length, ?_, rfl⟩
    show f_X12_read_66 x1 (nI d) x3 s (nI (rdn_ F d i).length) (nI i) m = f_X12_read_66 x1 (nI d) x3 s (nI (rdn_ F d (i + 1)).length) (nI (i + 1)) m
    have eis : isrd_ F d i = (decide (q.1 = 1) && decide (q.2.2.2.2.1 = d)) := by unfold isrd_; rw [e]
    rw [rdn_s, eis]
    by_cases c1 : q.1 = 1
    · by_cases c2 : q.2.2.2.2.1 = d
      · rw [if_pos (by rw [decide_eq_true c1, decide_eq_true c2]; rfl), List.length_append]
        rw [e_X12_read_66]
        simp (disch := omega) only [↓reduceIte, ↓ns_m1, ns_let, ns_lef, ns_ltt, ns_ltf, ns_eqt, ns_eqf, ns_gd, nI_clamp, nI_add, pk_sub, pk_mul, ns_m1a, ns_m1b, ns_m1c, ns_m1d, ns_m1e, ns_m1f, ns_m1g, ns_un1, ns_un0, ns_day1, Option.bind_some, gi_si_self, gi_si_ne, gl_si, gi_sl, gl_sl_self, gl_sl_ne, if_true, if_false, ns_i0, ns_i1, ns_i2, ns_i3, ns_i4, ns_i5, ns_i6, ns_i7, ns_i8, ns_i9, ns_i10, ns_i11, ns_i12, ns_i13, ns_i20, ns_i23, ns_i24, ns_i31, ns_i50, ns_i60, ns_i99, ns_i100, ns_i144, ns_i200, ns_i255, ns_i700, ns_i880, ns_i899, ns_i900, ns_i901, ns_i999, ns_i1000, ns_i1440, ns_i4095, ns_i1000000, h.1, g1, g2, c1, c2]
        rfl
      · rw [if_neg (by rw [decide_eq_false c2]; simp)]
        rw [e_X12_read_66]
        simp (disch := omega) only [↓reduceIte, ↓ns_m1, ns_let, ns_lef, ns_ltt, ns_ltf, ns_eqt, ns_eqf, ns_gd, nI_clamp, nI_add, pk_sub, pk_mul, ns_m1a, ns_m1b, ns_m1c, ns_m1d, ns_m1e, ns_m1f, ns_m1g, ns_un1, ns_un0, ns_day1, Option.bind_some, gi_si_self, gi_si_ne, gl_si, gi_sl, gl_sl_self, gl_sl_ne, if_true, if_false, ns_i0, ns_i1, ns_i2, ns_i3, ns_i4, ns_i5, ns_i6, ns_i7, ns_i8, ns_i9, ns_i10, ns_i11, ns_i12, ns_i13, ns_i20, ns_i23, ns_i24, ns_i31, ns_i50, ns_i60, ns_i99, ns_i100, ns_i144, ns_i200, ns_i255, ns_i700, ns_i880, ns_i899, ns_i900, ns_i901, ns_i999, ns_i1000, ns_i1440, ns_i4095, ns_i1000000, h.1, g1, g2, c1]
        rfl
    · rw [if_neg (by rw [decide_eq_false c1]; simp)]
      rw [e_X12_read_66]
      simp (disch := omega) only [↓reduceIte, ↓ns_m1, ns_let, ns_lef, ns_ltt, ns_ltf, ns_eqt, ns_eqf, ns_gd, nI_clamp, nI_add, pk_sub, pk_mul, ns_m1a, ns_m1b, ns_m1c, ns_m1d, ns_m1e, ns_m1f, ns_m1g, ns_un1, ns_un0, ns_day1, Option.bind_some, gi_si_self, gi_si_ne, gl_si, gi_sl, gl_sl_self, gl_sl_ne, if_true, if_false, ns_i0, ns_i1, ns_i2, ns_i3, ns_i4, ns_i5, ns_i6, ns_i7, ns_i8, ns_i9, ns_i10, ns_i11, ns_i12, ns_i13, ns_i20, ns_i23, ns_i24, ns_i31, ns_i50, ns_i60, ns_i99, ns_i100, ns_i144, ns_i200, ns_i255, ns_i700, ns_i880, ns_i899, ns_i900, ns_i901, ns_i999, ns_i1000, ns_i1440, ns_i4095, ns_i1000000, h.1, g1]
      rfl) (s := nI 0) rfl
  have hx : x = nI (rdn_ F d F.length).length := hx
  have e : f_X12_read_66 x1 (nI d) x3 s (nI 0) (nI 0) m = f_X12_read_66 x1 (nI d) x3 s x (nI F.length) m := e
  rw [e, hx]
theorem adr_m {F : List fa_} {T : Nat} {m : fm_} (h : fm1s_ F T m) (hl : F.length < 200) {c d v : Nat} {s : Int64} : ∃ m1, f_X12_fact (nI 1) (nI c) (nI d) (sl_ (si_ m 144 F.length (nI v)) 139 F.length s) = some (nI F.length, m1) ∧ fm1s_ (F ++ [frd_ T c d v s]) T m1 := by
  obtain ⟨h1, h2, h3⟩ := h
  have hx : ix_ (nI F.length) 200 = true := ix_i (vp_in_nI hl (by omega))
  have h1' : gi_ (sl_ (si_ m 144 F.length (nI v)) 139 F.length s) 106 58 = nI F.length := by rw [gi_sl, gi_si_ne (by omega), h1]
  have h2' : gi_ (sl_ (si_ m 144 F.length (nI v)) 139 F.length s) 106 59 = nI T := by rw [gi_sl, gi_si_ne (by omega), h2]
  unfold f_X12_fact
  rw [h1', h2']
  simp only [gd_t hx, nI_clamp (show F.length < 2 ^ 31 by omega), nI_1, nI_pred]
  refine ⟨_, rfl, by rw [gi_si_self, List.length_append]; rfl, ?_, fun j q hj => ?_⟩
  · rw [gi_si_ne (by omega), gi_si_ne (by omega), gi_si_ne (by omega), gi_si_ne (by omega), gi_si_ne (by omega), gi_si_ne (by omega)]
    exact h2'
  · rcases ap_get hj with ⟨q1, q2⟩ | ⟨q1, q2⟩
    · have := h3 j q q2
      unfold fm1_ at this ⊢
      have hjn : ¬ j = F.length := by omega
      simp only [gi_si, gi_sl, gl_si, gl_sl, hjn, and_false, if_false]
      simpa [hjn] using this
    · subst q1
      subst q2
      unfold fm1_ frd_
      refine ⟨?_, ?_, ?_, ?_, ?_, fun _ => ⟨?_, ?_⟩, fun e => ?_⟩
      · simp [gi_si]
      · simp [gi_si]
      · simp [gi_si, un_]
      · simp [gi_si]
      · simp [gi_si]
      · simp [gi_si, gi_sl]
      · simp [gl_si, gl_sl]
      · exact absurd e (by show ¬ (1 : Nat) = 0; omega)
theorem pm_ag {P : pl_} {m m1 : fm_} (h1 : pm_ P m) (ha : ag_ [(106, 106, 58), (138, 138, 0), (140, 140, 0)] m m1) : pm_ P m1 := by
  refine ⟨(ha 106 57 rfl).1.trans h1.1, fun j q hj => ?_⟩
  rw [(ha 138 j rfl).2, (ha 140 j rfl).1]
  exact h1.2 j q hj
theorem camm_ag {C : List (Nat × Nat × Nat)} {m m1 : fm_} (h3 : camm_ C m) (ha : ag_ [(106, 106, 31), (117, 119, 0)] m m1) : camm_ C m1 := by
  refine ⟨(ha 106 30 rfl).1.trans h3.1, fun j q hj => ?_⟩
  rw [(ha 117 j rfl).1, (ha 118 j rfl).1, (ha 119 j rfl).1]
  exact h3.2 j q hj
theorem read_m {W : List (Nat × Nat × Nat)} {P : pl_} {F : List fa_} {T : Nat} {C : List (Nat × Nat × Nat)} (hk : kok_ W P F T C) {m : fm_} (hm : kwm_ W P F T C m) (x y w : Int32) (s : Int64) : ∃ m1, f_X12_read x y w s m = some ((srd_ F T C x y w s).1, m1) ∧ kwm_ W P (srd_ F T C x y w s).2 T C m1 := by
  obtain ⟨hW, hP, hF, hC, hR⟩ := id hk
  have hl := hF.1
  have hc8 := hC.1
  have e1t : b01_ true = nI 1 := rfl
  have e0t : b01_ false = nI 0 := rfl
  have g58 := hm.2.1.1
  have g30 := hm.2.2.1.1
  have a1 : ∀ m, f_X12_areSigns s (nI 1) m = some (b01_ (ssg_ s), m) := fun m => as_mall s 1 m
  have no : wrk_ C x w = none ∨ nat_ y 100 = none ∨ ¬ F.length < 200 → (srd_ F T C x y w s) = (-1, F) := fun h => by
    unfold srd_
    cases e : wrk_ C x w with
    | none => rfl
    | some cv =>
      cases e2 : nat_ y 100 with
      | none => rfl
      | some d =>
        rw [e, e2] at h
        have : ¬ F.length < 200 := by
          rcases h with h | h | h
          · cases h
          · cases h
          · exact h
        simp only
        rw [if_neg (fun q => this q.2.1)]
  by_cases cl : F.length < 200
  · unfold f_X12_read
    rcases nat_ix x (n := C.length) (by omega) with ⟨e1, n1⟩ | ⟨c, hc, rfl, e1, -⟩
    · rw [no (Or.inl (by unfold wrk_; rw [e1]))]
      refine ⟨m, ?_, hm⟩
      rcases n1 with n1 | ⟨n1, n2⟩
      · have n1 : x < nI 0 := n1
        simp (disch := omega) only [↓reduceIte, ↓ns_m1, ns_let, ns_lef, ns_ltt, ns_ltf, ns_eqt, ns_eqf, ns_gd, nI_clamp, nI_add, pk_sub, pk_mul, ns_m1a, ns_m1b, ns_m1c, ns_m1d, ns_m1e, ns_m1f, ns_m1g, ns_un1, ns_un0, ns_day1, Option.bind_some, gi_si_self, gi_si_ne, gl_si, gi_sl, gl_sl_self, gl_sl_ne, if_true, if_false, ns_i0, ns_i1, ns_i2, ns_i3, ns_i4, ns_i5, ns_i6, ns_i7, ns_i8, ns_i9, ns_i10, ns_i11, ns_i12, ns_i13, ns_i20, ns_i23, ns_i24, ns_i31, ns_i50, ns_i60, ns_i99, ns_i100, ns_i144, ns_i200, ns_i255, ns_i700, ns_i880, ns_i899, ns_i900, ns_i901, ns_i999, ns_i1000, ns_i1440, ns_i4095, ns_i1000000, g58, n1]
      · have n1 : ¬ x < nI 0 := n1
        simp (disch := omega) only [↓reduceIte, ↓ns_m1, ns_let, ns_lef, ns_ltt, ns_ltf, ns_eqt, ns_eqf, ns_gd, nI_clamp, nI_add, pk_sub, pk_mul, ns_m1a, ns_m1b, ns_m1c, ns_m1d, ns_m1e, ns_m1f, ns_m1g, ns_un1, ns_un0, ns_day1, Option.bind_some, gi_si_self, gi_si_ne, gl_si, gi_sl, gl_sl_self, gl_sl_ne, if_true, if_false, ns_i0, ns_i1, ns_i2, ns_i3, ns_i4, ns_i5, ns_i6, ns_i7, ns_i8, ns_i9, ns_i10, ns_i11, ns_i12, ns_i13, ns_i20, ns_i23, ns_i24, ns_i31, ns_i50, ns_i60, ns_i99, ns_i100, ns_i144, ns_i200, ns_i255, ns_i700, ns_i880, ns_i899, ns_i900, ns_i901, ns_i999, ns_i1000, ns_i1440, ns_i4095, ns_i1000000, g58, g30, n1, n2]
    have ea := List.getElem?_eq_getElem hc
    generalize C[c] = q at ea
    obtain ⟨g1, g2, g3⟩ := hm.2.2.1.2 c q ea
    obtain ⟨b1, b2, b3⟩ := hC.2 q (List.mem_of_getElem? ea)
    rcases nat_ix y (n := 100) (by omega) with ⟨e2, _⟩ | ⟨d, hd, rfl, e2, -⟩
    · have dd : ∀ m, f_X12_isDay y m = some (nI 0, m) := fun m => by rw [day_m, bu_0 e2]; rfl
      rw [no (Or.inr (Or.inl e2))]
      refine ⟨m, ?_, hm⟩
      simp (disch := omega) only [↓reduceIte, ↓ns_m1, ns_let, ns_lef, ns_ltt, ns_ltf, ns_eqt, ns_eqf, ns_gd, nI_clamp, nI_add, pk_sub, pk_mul, ns_m1a, ns_m1b, ns_m1c, ns_m1d, ns_m1e, ns_m1f, ns_m1g, ns_un1, ns_un0, ns_day1, Option.bind_some, gi_si_self, gi_si_ne, gl_si, gi_sl, gl_sl_self, gl_sl_ne, if_true, if_false, ns_i0, ns_i1, ns_i2, ns_i3, ns_i4, ns_i5, ns_i6, ns_i7, ns_i8, ns_i9, ns_i10, ns_i11, ns_i12, ns_i13, ns_i20, ns_i23, ns_i24, ns_i31, ns_i50, ns_i60, ns_i99, ns_i100, ns_i144, ns_i200, ns_i255, ns_i700, ns_i880, ns_i899, ns_i900, ns_i901, ns_i999, ns_i1000, ns_i1440, ns_i4095, ns_i1000000, g58, g30, dd]
    have dd : ∀ m, f_X12_isDay (nI d) m = some (nI 1, m) := fun m => by rw [day_m, bu_1 e2]; rfl
    rcases nat_ix w (n := 1440) (by omega) with ⟨e3, n3⟩ | ⟨v, hv, rfl, e3, -⟩
    · rw [no (Or.inl (by unfold wrk_; rw [e1, e3]))]
      refine ⟨m, ?_, hm⟩
      rcases n3 with n3 | ⟨n1, n2⟩
      · have t1 : w < nI q.2.1 := Int32.lt_of_lt_of_le n3 (nI_pos' (by omega))
        simp (disch := omega) only [↓reduceIte, ↓ns_m1, ns_let, ns_lef, ns_ltt, ns_ltf, ns_eqt, ns_eqf, ns_gd, nI_clamp, nI_add, pk_sub, pk_mul, ns_m1a, ns_m1b, ns_m1c, ns_m1d, ns_m1e, ns_m1f, ns_m1g, ns_un1, ns_un0, ns_day1, Option.bind_some, gi_si_self, gi_si_ne, gl_si, gi_sl, gl_sl_self, gl_sl_ne, if_true, if_false, ns_i0, ns_i1, ns_i2, ns_i3, ns_i4, ns_i5, ns_i6, ns_i7, ns_i8, ns_i9, ns_i10, ns_i11, ns_i12, ns_i13, ns_i20, ns_i23, ns_i24, ns_i31, ns_i50, ns_i60, ns_i99, ns_i100, ns_i144, ns_i200, ns_i255, ns_i700, ns_i880, ns_i899, ns_i900, ns_i901, ns_i999, ns_i1000, ns_i1440, ns_i4095, ns_i1000000, g58, g30, dd, g2, t1]
      · have t1 : ¬ w < nI q.2.1 := fun hh => by
          have : nI 1440 < nI q.2.1 := Int32.lt_of_le_of_lt n2 hh
          exact nI_nlt (by omega) (by omega) this
        have t2 : nI q.2.2 ≤ w := Int32.le_trans (nI_le (by omega) (by omega)) n2
        simp (disch := omega) only [↓reduceIte, ↓ns_m1, ns_let, ns_lef, ns_ltt, ns_ltf, ns_eqt, ns_eqf, ns_gd, nI_clamp, nI_add, pk_sub, pk_mul, ns_m1a, ns_m1b, ns_m1c, ns_m1d, ns_m1e, ns_m1f, ns_m1g, ns_un1, ns_un0, ns_day1, Option.bind_some, gi_si_self, gi_si_ne, gl_si, gi_sl, gl_sl_self, gl_sl_ne, if_true, if_false, ns_i0, ns_i1, ns_i2, ns_i3, ns_i4, ns_i5, ns_i6, ns_i7, ns_i8, ns_i9, ns_i10, ns_i11, ns_i12, ns_i13, ns_i20, ns_i23, ns_i24, ns_i31, ns_i50, ns_i60, ns_i99, ns_i100, ns_i144, ns_i200, ns_i255, ns_i700, ns_i880, ns_i899, ns_i900, ns_i901, ns_i999, ns_i1000, ns_i1440, ns_i4095, ns_i1000000, g58, g30, dd, g2, g3, t1, t2]
    have ewr : wrk_ C (nI c) (nI v) = if q.2.1 ≤ v ∧ v < q.2.2 then some (c, v) else none := by
      unfold wrk_
      rw [e1, e3]
      simp only [ea]
    by_cases cw : q.2.1 ≤ v ∧ v < q.2.2
    · rw [if_pos cw] at ewr
      by_cases cs : ssg_ s = true
      · rw [cs, e1t] at a1
        have r6 := r66_ hF hm.2.1 hd (x1 := nI c) (x3 := nI v) (s := s)
        have h7 := hR.2 d
        unfold srd_
        rw [ewr, e2]
        simp only
        by_cases c7 : (rdn_ F d F.length).length < 7
        · simp only [if_pos (show ssg_ s = true ∧ F.length < 200 ∧ (rdn_ F d F.length).length < 7 from ⟨cs, cl, c7⟩)]
          obtain ⟨m1, q1, f1⟩ := adr_m hm.2.1 cl (c := c) (d := d) (v := v) (s := s &&& 281474976710655)
          have fr : f_X12_read_66 (nI c) (nI d) (nI v) s (nI (rdn_ F d F.length).length) (nI F.length) m = some (nI F.length, m1) := by
            rw [e_X12_read_66]
            simp (disch := omega) only [↓reduceIte, ↓ns_m1, ns_let, ns_lef, ns_ltt, ns_ltf, ns_eqt, ns_eqf, ns_gd, nI_clamp, nI_add, pk_sub, pk_mul, ns_m1a, ns_m1b, ns_m1c, ns_m1d, ns_m1e, ns_m1f, ns_m1g, ns_un1, ns_un0, ns_day1, Option.bind_some, gi_si_self, gi_si_ne, gl_si, gi_sl, gl_sl_self, gl_sl_ne, if_true, if_false, ns_i0, ns_i1, ns_i2, ns_i3, ns_i4, ns_i5, ns_i6, ns_i7, ns_i8, ns_i9, ns_i10, ns_i11, ns_i12, ns_i13, ns_i20, ns_i23, ns_i24, ns_i31, ns_i50, ns_i60, ns_i99, ns_i100, ns_i144, ns_i200, ns_i255, ns_i700, ns_i880, ns_i899, ns_i900, ns_i901, ns_i999, ns_i1000, ns_i1440, ns_i4095, ns_i1000000, g58, q1]
          have fin : f_X12_read (nI c) (nI d) (nI v) s m = some (nI F.length, m1) := by
            unfold f_X12_read
            simp (disch := omega) only [↓reduceIte, ↓ns_m1, ns_let, ns_lef, ns_ltt, ns_ltf, ns_eqt, ns_eqf, ns_gd, nI_clamp, nI_add, pk_sub, pk_mul, ns_m1a, ns_m1b, ns_m1c, ns_m1d, ns_m1e, ns_m1f, ns_m1g, ns_un1, ns_un0, ns_day1, Option.bind_some, gi_si_self, gi_si_ne, gl_si, gi_sl, gl_sl_self, gl_sl_ne, if_true, if_false, ns_i0, ns_i1, ns_i2, ns_i3, ns_i4, ns_i5, ns_i6, ns_i7, ns_i8, ns_i9, ns_i10, ns_i11, ns_i12, ns_i13, ns_i20, ns_i23, ns_i24, ns_i31, ns_i50, ns_i60, ns_i99, ns_i100, ns_i144, ns_i200, ns_i255, ns_i700, ns_i880, ns_i899, ns_i900, ns_i901, ns_i999, ns_i1000, ns_i1440, ns_i4095, ns_i1000000, g58, g30, dd, g2, g3, a1, r6, fr]
          have s1 := fr_X12_read fin
          refine ⟨m1, ?_, pm_ag hm.1 (sa_ag (by rfl) s1), f1, camm_ag hm.2.2.1 (sa_ag (by rfl) s1), tb_sa hm.2.2.2 s1 (fun k => by rfl)⟩
          simp (disch := omega) only [↓reduceIte, ↓ns_m1, ns_let, ns_lef, ns_ltt, ns_ltf, ns_eqt, ns_eqf, ns_gd, nI_clamp, nI_add, pk_sub, pk_mul, ns_m1a, ns_m1b, ns_m1c, ns_m1d, ns_m1e, ns_m1f, ns_m1g, ns_un1, ns_un0, ns_day1, Option.bind_some, gi_si_self, gi_si_ne, gl_si, gi_sl, gl_sl_self, gl_sl_ne, if_true, if_false, ns_i0, ns_i1, ns_i2, ns_i3, ns_i4, ns_i5, ns_i6, ns_i7, ns_i8, ns_i9, ns_i10, ns_i11, ns_i12, ns_i13, ns_i20, ns_i23, ns_i24, ns_i31, ns_i50, ns_i60, ns_i99, ns_i100, ns_i144, ns_i200, ns_i255, ns_i700, ns_i880, ns_i899, ns_i900, ns_i901, ns_i999, ns_i1000, ns_i1440, ns_i4095, ns_i1000000, g58, g30, dd, g2, g3, a1, r6, fr]
        · rw [if_neg (show ¬ (ssg_ s = true ∧ F.length < 200 ∧ (rdn_ F d F.length).length < 7) from fun h => c7 h.2.2)]
          have e7 : (rdn_ F d F.length).length = 7 := by omega
          refine ⟨m, ?_, hm⟩
          have fr : f_X12_read_66 (nI c) (nI d) (nI v) s (nI (rdn_ F d F.length).length) (nI F.length) m = some (M1_, m) := by
            rw [e_X12_read_66]
            simp (disch := omega) only [↓reduceIte, ↓ns_m1, ns_let, ns_lef, ns_ltt, ns_ltf, ns_eqt, ns_eqf, ns_gd, nI_clamp, nI_add, pk_sub, pk_mul, ns_m1a, ns_m1b, ns_m1c, ns_m1d, ns_m1e, ns_m1f, ns_m1g, ns_un1, ns_un0, ns_day1, Option.bind_some, gi_si_self, gi_si_ne, gl_si, gi_sl, gl_sl_self, gl_sl_ne, if_true, if_false, ns_i0, ns_i1, ns_i2, ns_i3, ns_i4, ns_i5, ns_i6, ns_i7, ns_i8, ns_i9, ns_i10, ns_i11, ns_i12, ns_i13, ns_i20, ns_i23, ns_i24, ns_i31, ns_i50, ns_i60, ns_i99, ns_i100, ns_i144, ns_i200, ns_i255, ns_i700, ns_i880, ns_i899, ns_i900, ns_i901, ns_i999, ns_i1000, ns_i1440, ns_i4095, ns_i1000000, g58]
          simp (disch := omega) only [↓reduceIte, ↓ns_m1, ns_let, ns_lef, ns_ltt, ns_ltf, ns_eqt, ns_eqf, ns_gd, nI_clamp, nI_add, pk_sub, pk_mul, ns_m1a, ns_m1b, ns_m1c, ns_m1d, ns_m1e, ns_m1f, ns_m1g, ns_un1, ns_un0, ns_day1, Option.bind_some, gi_si_self, gi_si_ne, gl_si, gi_sl, gl_sl_self, gl_sl_ne, if_true, if_false, ns_i0, ns_i1, ns_i2, ns_i3, ns_i4, ns_i5, ns_i6, ns_i7, ns_i8, ns_i9, ns_i10, ns_i11, ns_i12, ns_i13, ns_i20, ns_i23, ns_i24, ns_i31, ns_i50, ns_i60, ns_i99, ns_i100, ns_i144, ns_i200, ns_i255, ns_i700, ns_i880, ns_i899, ns_i900, ns_i901, ns_i999, ns_i1000, ns_i1440, ns_i4095, ns_i1000000, g58, g30, dd, g2, g3, a1, r6, fr]
      · rw [Bool.eq_false_iff.mpr cs, e0t] at a1
        unfold srd_
        rw [ewr, e2]
        simp only
        rw [if_neg (show ¬ (ssg_ s = true ∧ F.length < 200 ∧ (rdn_ F d F.length).length < 7) from fun h => cs h.1)]
        refine ⟨m, ?_, hm⟩
        simp (disch := omega) only [↓reduceIte, ↓ns_m1, ns_let, ns_lef, ns_ltt, ns_ltf, ns_eqt, ns_eqf, ns_gd, nI_clamp, nI_add, pk_sub, pk_mul, ns_m1a, ns_m1b, ns_m1c, ns_m1d, ns_m1e, ns_m1f, ns_m1g, ns_un1, ns_un0, ns_day1, Option.bind_some, gi_si_self, gi_si_ne, gl_si, gi_sl, gl_sl_self, gl_sl_ne, if_true, if_false, ns_i0, ns_i1, ns_i2, ns_i3, ns_i4, ns_i5, ns_i6, ns_i7, ns_i8, ns_i9, ns_i10, ns_i11, ns_i12, ns_i13, ns_i20, ns_i23, ns_i24, ns_i31, ns_i50, ns_i60, ns_i99, ns_i100, ns_i144, ns_i200, ns_i255, ns_i700, ns_i880, ns_i899, ns_i900, ns_i901, ns_i999, ns_i1000, ns_i1440, ns_i4095, ns_i1000000, g58, g30, dd, g2, g3, a1]
    · rw [if_neg cw] at ewr
      rw [no (Or.inl ewr)]
      refine ⟨m, ?_, hm⟩
      by_cases c1 : v < q.2.1
      · simp (disch := omega) only [↓reduceIte, ↓ns_m1, ns_let, ns_lef, ns_ltt, ns_ltf, ns_eqt, ns_eqf, ns_gd, nI_clamp, nI_add, pk_sub, pk_mul, ns_m1a, ns_m1b, ns_m1c, ns_m1d, ns_m1e, ns_m1f, ns_m1g, ns_un1, ns_un0, ns_day1, Option.bind_some, gi_si_self, gi_si_ne, gl_si, gi_sl, gl_sl_self, gl_sl_ne, if_true, if_false, ns_i0, ns_i1, ns_i2, ns_i3, ns_i4, ns_i5, ns_i6, ns_i7, ns_i8, ns_i9, ns_i10, ns_i11, ns_i12, ns_i13, ns_i20, ns_i23, ns_i24, ns_i31, ns_i50, ns_i60, ns_i99, ns_i100, ns_i144, ns_i200, ns_i255, ns_i700, ns_i880, ns_i899, ns_i900, ns_i901, ns_i999, ns_i1000, ns_i1440, ns_i4095, ns_i1000000, g58, g30, dd, g2]
      · simp (disch := omega) only [↓reduceIte, ↓ns_m1, ns_let, ns_lef, ns_ltt, ns_ltf, ns_eqt, ns_eqf, ns_gd, nI_clamp, nI_add, pk_sub, pk_mul, ns_m1a, ns_m1b, ns_m1c, ns_m1d, ns_m1e, ns_m1f, ns_m1g, ns_un1, ns_un0, ns_day1, Option.bind_some, gi_si_self, gi_si_ne, gl_si, gi_sl, gl_sl_self, gl_sl_ne, if_true, if_false, ns_i0, ns_i1, ns_i2, ns_i3, ns_i4, ns_i5, ns_i6, ns_i7, ns_i8, ns_i9, ns_i10, ns_i11, ns_i12, ns_i13, ns_i20, ns_i23, ns_i24, ns_i31, ns_i50, ns_i60, ns_i99, ns_i100, ns_i144, ns_i200, ns_i255, ns_i700, ns_i880, ns_i899, ns_i900, ns_i901, ns_i999, ns_i1000, ns_i1440, ns_i4095, ns_i1000000, g58, g30, dd, g2, g3]
  · rw [no (Or.inr (Or.inr cl))]
    refine ⟨m, ?_, hm⟩
    unfold f_X12_read
    have : F.length = 200 := by omega
    rw [this] at g58
    simp (disch := omega) only [↓reduceIte, ↓ns_m1, ns_let, ns_lef, ns_ltt, ns_ltf, ns_eqt, ns_eqf, ns_gd, nI_clamp, nI_add, pk_sub, pk_mul, ns_m1a, ns_m1b, ns_m1c, ns_m1d, ns_m1e, ns_m1f, ns_m1g, ns_un1, ns_un0, ns_day1, Option.bind_some, gi_si_self, gi_si_ne, gl_si, gi_sl, gl_sl_self, gl_sl_ne, if_true, if_false, ns_i0, ns_i1, ns_i2, ns_i3, ns_i4, ns_i5, ns_i6, ns_i7, ns_i8, ns_i9, ns_i10, ns_i11, ns_i12, ns_i13, ns_i20, ns_i23, ns_i24, ns_i31, ns_i50, ns_i60, ns_i99, ns_i100, ns_i144, ns_i200, ns_i255, ns_i700, ns_i880, ns_i899, ns_i900, ns_i901, ns_i999, ns_i1000, ns_i1440, ns_i4095, ns_i1000000, g58]
