/-! ===== trips: told, minutes, via ===== -/
/-- the world of drives, the reference -/
def dwm_ (W : List (Nat × Nat × Nat)) (z : Nat) (O : List od_) (TR : tp_) (m : fm_) : Prop := wm_ W m ∧ gi_ m 106 31 = nI z ∧ tabm_ W m ∧ om1_ O m ∧ trm_ TR m
def dwmd_ : List (Nat × Nat × Nat) := [(106, 106, 30), (106, 106, 32), (106, 106, 34), (106, 106, 88), (114, 116, 0), (120, 121, 0), (128, 128, 0), (132, 132, 0), (160, 164, 0)]
theorem dwm_ag {W : List (Nat × Nat × Nat)} {z : Nat} {O : List od_} {TR : tp_} {m m1 : fm_} (h : dwm_ W z O TR m) (ha : ag_ dwmd_ m m1) : dwm_ W z O TR m1 := by
  obtain ⟨h1, h2, h3, h4, h5⟩ := h
  refine ⟨⟨(ha 106 29 rfl).1.trans h1.1, fun j q hj => ?_⟩, (ha 106 31 rfl).1.trans h2, ⟨fun a b ha1 hb => (ha 120 _ rfl).1.trans (h3.1 a b ha1 hb), fun a b ha1 hb => (ha 121 _ rfl).1.trans (h3.2 a b ha1 hb)⟩, ⟨(ha 106 33 rfl).1.trans h4.1, fun j o hj => ?_⟩, (ha 106 87 rfl).1.trans h5.1, fun j q hj => ?_⟩
  · rw [(ha 114 j rfl).1, (ha 115 j rfl).1, (ha 116 j rfl).1]
    exact h1.2 j q hj
  · rw [(ha 132 j rfl).1]
    exact ⟨(h4.2 j o hj).1, fun k hk => (ha 128 _ rfl).1.trans ((h4.2 j o hj).2 k hk)⟩
  · rw [(ha 160 j rfl).1, (ha 161 j rfl).1, (ha 162 j rfl).1, (ha 163 j rfl).1, (ha 164 j rfl).1]
    exact h5.2 j q hj
theorem go_ {W : List (Nat × Nat × Nat)} {z : Nat} {O : List od_} {TR : tp_} (hk : dwok_ W z O TR) {m : fm_} (hm : dwm_ W z O TR m) {j : Nat} {q : Nat × Nat × Nat × Nat × Nat} (hq : TR[j]? = some q) {d : Nat} (hd : d < 100) (b : Bool) : ∃ m', f_X12_go (nI j) (nI d) (b01_ b) m = some (1, m') ∧ pth_ (q.1 :: rtl_ W z O q d b) m' ∧ dwm_ W z O TR m' := by
  obtain ⟨hW, hz, hO, hT⟩ := hk
  have hjl := (List.getElem?_eq_some_iff.mp hq).1
  have hl := hT.1
  obtain ⟨k1, k2, k3, k4, k5, k6, k7, k8, k9⟩ := hT.2 q (List.mem_of_getElem? hq)
  obtain ⟨h1, h2, h3, h4, h5⟩ := id hm
  obtain ⟨g1, g2, g3, g4, g5⟩ := h5.2 j q hq
  have hc := ch_b hO q d b
  have hOl := hO.1
  have tk : tk_ W z q.2.2.2.1 (ch_ O q d b) q.2.1 := ⟨hW, hz, k7, k8, hc, k2⟩
  obtain ⟨m1, e1, p1⟩ := trav_ tk (r := j) (by omega) k1 k4 (m := m) ⟨h2, h3.2, g1, g2, g4⟩
  have ei := inf_m hO h4 hd
  have e0 : f_X12_go (nI j) (nI d) (b01_ b) m = some (1, m1) := by
    unfold f_X12_go
    cases b with
    | false =>
      have eb : b01_ false = nI 0 := rfl
      have ec : ch_ O q d false = 0 := rfl
      rw [ec] at e1
      simp (disch := omega) only [↓reduceIte, ↓ns_m1, ns_let, ns_lef, ns_ltt, ns_ltf, ns_eqt, ns_eqf, ns_gd, nI_clamp, nI_add, pk_sub, pk_mul, ns_m1a, ns_m1b, ns_m1c, ns_m1d, ns_m1e, ns_m1f, ns_m1g, ns_un1, ns_un0, ns_day1, Option.bind_some, gi_si_self, gi_si_ne, gl_si, gi_sl, gl_sl_self, gl_sl_ne, if_true, if_false, ns_i0, ns_i1, ns_i2, ns_i3, ns_i4, ns_i5, ns_i6, ns_i7, ns_i8, ns_i9, ns_i10, ns_i11, ns_i12, ns_i13, ns_i20, ns_i23, ns_i24, ns_i31, ns_i50, ns_i60, ns_i99, ns_i100, ns_i144, ns_i200, ns_i255, ns_i700, ns_i880, ns_i899, ns_i900, ns_i901, ns_i999, ns_i1000, ns_i1440, ns_i4095, ns_i1000000, eb, h5.1, ns_day2, ei, e1]
    | true =>
      have eb : b01_ true = nI 1 := rfl
      have ec : ch_ O q d true = chg_ O d q.2.2.2.2 := rfl
      rw [ec] at e1
      unfold chg_ at e1
      cases hb : inf_ O d O.length with
      | none =>
        rw [hb] at e1 ei
        have ei : f_X12_inForce (nI d) m = some (-1, m) := ei
        have e1 : f_X12_travel (nI j) (nI 0) m = some (0, m1) := e1
        simp (disch := omega) only [↓reduceIte, ↓ns_m1, ns_let, ns_lef, ns_ltt, ns_ltf, ns_eqt, ns_eqf, ns_gd, nI_clamp, nI_add, pk_sub, pk_mul, ns_m1a, ns_m1b, ns_m1c, ns_m1d, ns_m1e, ns_m1f, ns_m1g, ns_un1, ns_un0, ns_day1, Option.bind_some, gi_si_self, gi_si_ne, gl_si, gi_sl, gl_sl_self, gl_sl_ne, if_true, if_false, ns_i0, ns_i1, ns_i2, ns_i3, ns_i4, ns_i5, ns_i6, ns_i7, ns_i8, ns_i9, ns_i10, ns_i11, ns_i12, ns_i13, ns_i20, ns_i23, ns_i24, ns_i31, ns_i50, ns_i60, ns_i99, ns_i100, ns_i144, ns_i200, ns_i255, ns_i700, ns_i880, ns_i899, ns_i900, ns_i901, ns_i999, ns_i1000, ns_i1440, ns_i4095, ns_i1000000, eb, h5.1, ns_day2, ei, e1]
      | some i =>
        rw [hb] at e1 ei
        have hi := (inf_u _ _ hb).1
        have eo := List.getElem?_eq_getElem hi
        generalize O[i] = o at eo
        have go := (h4.2 i o eo).2 _ k9
        simp only [eo] at e1
        have ei : f_X12_inForce (nI d) m = some (nI i, m) := ei
        simp (disch := omega) only [↓reduceIte, ↓ns_m1, ns_let, ns_lef, ns_ltt, ns_ltf, ns_eqt, ns_eqf, ns_gd, nI_clamp, nI_add, pk_sub, pk_mul, ns_m1a, ns_m1b, ns_m1c, ns_m1d, ns_m1e, ns_m1f, ns_m1g, ns_un1, ns_un0, ns_day1, Option.bind_some, gi_si_self, gi_si_ne, gl_si, gi_sl, gl_sl_self, gl_sl_ne, if_true, if_false, ns_i0, ns_i1, ns_i2, ns_i3, ns_i4, ns_i5, ns_i6, ns_i7, ns_i8, ns_i9, ns_i10, ns_i11, ns_i12, ns_i13, ns_i20, ns_i23, ns_i24, ns_i31, ns_i50, ns_i60, ns_i99, ns_i100, ns_i144, ns_i200, ns_i255, ns_i700, ns_i880, ns_i899, ns_i900, ns_i901, ns_i999, ns_i1000, ns_i1440, ns_i4095, ns_i1000000, eb, h5.1, ns_day2, ei, g5, go, e1]
  refine ⟨m1, e0, ?_, dwm_ag hm (sa_ag (by rfl) (fr_X12_go e0))⟩
  cases b with
  | true => exact p1
  | false =>
    have ec : ch_ O q d false = 0 := rfl
    show pth_ (q.1 :: ptl_ W z q.2.2.2.1 (ch_ O q d false) q.2.1 11 q.1 1) m1
    rw [ec] at p1 tk ⊢
    have st : stt_ z q.1 (bb_ z q.1) := by
      rw [← nt_bb]
      exact nt_ok (Or.inl rfl) k1
    rw [ptl_c0 tk 11 q.1 (bb_ z q.1) st (kk_st tk k1 st.1 k4)] at p1
    exact p1
/-- which trip, which day -/
def tsel_ (TR : tp_) (x1 x2 : Int32) : Option (Nat × (Nat × Nat × Nat × Nat × Nat) × Nat) := match nat_ x1 TR.length, nat_ x2 100 with
  | some j, some d => match TR[j]? with
    | some q => some (j, q, d)
    | none => none
  | _, _ => none
theorem tsel_u {TR : tp_} (hT : TR.length ≤ 20) {x1 x2 : Int32} : (tsel_ TR x1 x2 = none ∧ (nat_ x1 TR.length = none ∨ nat_ x2 100 = none)) ∨ ∃ j q d, tsel_ TR x1 x2 = some (j, q, d) ∧ TR[j]? = some q ∧ x1 = nI j ∧ x2 = nI d ∧ d < 100 ∧ j < TR.length := by
  unfold tsel_
  rcases nat_ix x1 (n := TR.length) (by omega) with ⟨e, _⟩ | ⟨j, hj, rfl, e, -⟩
  · rw [e]; exact Or.inl ⟨rfl, Or.inl rfl⟩
  rcases nat_ix x2 (n := 100) (by omega) with ⟨e2, _⟩ | ⟨d, hd, rfl, e2, -⟩
  · rw [e, e2]; exact Or.inl ⟨rfl, Or.inr rfl⟩
  right
  rw [e, e2]
  have hq := List.getElem?_eq_getElem hj
  exact ⟨j, TR[j], d, by simp only [hq], hq, rfl, rfl, hd, hj⟩
def smin_ (W : List (Nat × Nat × Nat)) (z : Nat) (O : List od_) (TR : tp_) (x1 x2 : Int32) (b : Bool) : Int32 := match tsel_ TR x1 x2 with
  | none => -1
  | some (_, q, d) => nI (lenl_ W q.1 (rtl_ W z O q d b))
def svia_ (W : List (Nat × Nat × Nat)) (z : Nat) (O : List od_) (TR : tp_) (x1 x2 : Int32) (b : Bool) (x4 : Int32) : Int32 := match tsel_ TR x1 x2 with
  | none => -1
  | some (_, q, d) => match nat_ x4 (q.1 :: rtl_ W z O q d b).length with
    | none => -1
    | some i => match (q.1 :: rtl_ W z O q d b)[i]? with
      | none => -1
      | some p => nI p
theorem und0 {x : Int32} {n : Nat} {m : fm_} (h : nat_ x n = none) : f_X11_isUnder x (nI n) m = some (nI 0, m) := by rw [und_, bu_0 h]; rfl
theorem day0 {x : Int32} {m : fm_} (h : nat_ x 100 = none) : f_X11_isDay x m = some (nI 0, m) := by rw [day_c, bu_0 h]; rfl
theorem day0m {x : Int32} {m : fm_} (h : nat_ x 100 = none) : f_X12_isDay x m = some (nI 0, m) := by rw [day_m, bu_0 h]; rfl
theorem tsn_c {TR : tp_} (hT : TR.length ≤ 20) {m : fm_} (h : trc_ TR m) {x1 x2 : Int32} (hn : nat_ x1 TR.length = none ∨ nat_ x2 100 = none) (K : fm_ → Option (Int32 × fm_)) : (Option.bind (f_X11_isUnder x1 (gi_ m 98 7) m) fun q1 => if q1.1 = 0 then some (-1, q1.2) else Option.bind (f_X11_isDay x2 q1.2) fun q6 => if q6.1 = 0 then some (-1, q6.2) else K q6.2) = some (-1, m) := by
  rw [h.1]
  rcases nat_ix x1 (n := TR.length) (by omega) with ⟨e, _⟩ | ⟨j, hj, rfl, e, -⟩
  · simp (disch := omega) only [↓reduceIte, ↓ns_m1, ns_let, ns_lef, ns_ltt, ns_ltf, ns_eqt, ns_eqf, ns_gd, nI_clamp, nI_add, pk_sub, pk_mul, ns_m1a, ns_m1b, ns_m1c, ns_m1d, ns_m1e, ns_m1f, ns_m1g, ns_un1, ns_un0, ns_day1, Option.bind_some, gi_si_self, gi_si_ne, gl_si, gi_sl, gl_sl_self, gl_sl_ne, if_true, if_false, ns_i0, ns_i1, ns_i2, ns_i3, ns_i4, ns_i5, ns_i6, ns_i7, ns_i8, ns_i9, ns_i10, ns_i11, ns_i12, ns_i13, ns_i20, ns_i23, ns_i24, ns_i31, ns_i50, ns_i60, ns_i99, ns_i100, ns_i144, ns_i200, ns_i255, ns_i700, ns_i880, ns_i899, ns_i900, ns_i901, ns_i999, ns_i1000, ns_i1440, ns_i4095, ns_i1000000, und0 e]
  · rcases hn with hn | hn
    · rw [hn] at e; cases e
    · simp (disch := omega) only [↓reduceIte, ↓ns_m1, ns_let, ns_lef, ns_ltt, ns_ltf, ns_eqt, ns_eqf, ns_gd, nI_clamp, nI_add, pk_sub, pk_mul, ns_m1a, ns_m1b, ns_m1c, ns_m1d, ns_m1e, ns_m1f, ns_m1g, ns_un1, ns_un0, ns_day1, Option.bind_some, gi_si_self, gi_si_ne, gl_si, gi_sl, gl_sl_self, gl_sl_ne, if_true, if_false, ns_i0, ns_i1, ns_i2, ns_i3, ns_i4, ns_i5, ns_i6, ns_i7, ns_i8, ns_i9, ns_i10, ns_i11, ns_i12, ns_i13, ns_i20, ns_i23, ns_i24, ns_i31, ns_i50, ns_i60, ns_i99, ns_i100, ns_i144, ns_i200, ns_i255, ns_i700, ns_i880, ns_i899, ns_i900, ns_i901, ns_i999, ns_i1000, ns_i1440, ns_i4095, ns_i1000000, day0 hn]
theorem go_no {TR : tp_} (hT : TR.length ≤ 20) {m : fm_} (h : trm_ TR m) {x1 x2 : Int32} (hn : nat_ x1 TR.length = none ∨ nat_ x2 100 = none) (x3 : Int32) : f_X12_go x1 x2 x3 m = some (0, m) := by
  unfold f_X12_go
  rw [h.1]
  rcases nat_ix x1 (n := TR.length) (by omega) with ⟨e, q | ⟨q, q2⟩⟩ | ⟨j, hj, rfl, e, q, q2⟩
  · rw [if_pos q]
  · rw [if_neg q, if_pos q2]
  · rcases hn with hn | hn
    · rw [hn] at e; cases e
    · simp (disch := omega) only [↓reduceIte, ↓ns_m1, ns_let, ns_lef, ns_ltt, ns_ltf, ns_eqt, ns_eqf, ns_gd, nI_clamp, nI_add, pk_sub, pk_mul, ns_m1a, ns_m1b, ns_m1c, ns_m1d, ns_m1e, ns_m1f, ns_m1g, ns_un1, ns_un0, ns_day1, Option.bind_some, gi_si_self, gi_si_ne, gl_si, gi_sl, gl_sl_self, gl_sl_ne, if_true, if_false, ns_i0, ns_i1, ns_i2, ns_i3, ns_i4, ns_i5, ns_i6, ns_i7, ns_i8, ns_i9, ns_i10, ns_i11, ns_i12, ns_i13, ns_i20, ns_i23, ns_i24, ns_i31, ns_i50, ns_i60, ns_i99, ns_i100, ns_i144, ns_i200, ns_i255, ns_i700, ns_i880, ns_i899, ns_i900, ns_i901, ns_i999, ns_i1000, ns_i1440, ns_i4095, ns_i1000000, day0m hn]
theorem min_c {W : List (Nat × Nat × Nat)} {z : Nat} {O : List od_} {TR : tp_} (hk : dwok_ W z O TR) {m : fm_} (hm : dwc_ W z O TR m) (x1 x2 : Int32) (b : Bool) : ∃ m1, f_X11_minutes x1 x2 (b01_ b) m = some (smin_ W z O TR x1 x2 b, m1) ∧ dwc_ W z O TR m1 := by
  have hl := hk.2.2.2.1
  unfold f_X11_minutes smin_
  rcases tsel_u hl (x1 := x1) (x2 := x2) with ⟨e, hn⟩ | ⟨j, q, d, e, hq, rfl, rfl, hd, hj⟩
  · rw [e]
    exact ⟨m, tsn_c hl hm.2.2 hn (fun m6 => (f_X10_follow x1 x2 (b01_ b) m6).bind fun q11 => some (gi_ q11.2 98 11, q11.2)), hm⟩
  · obtain ⟨m1, e1, r1, w1⟩ := follow_c hk hm hq hd b
    rw [e]
    simp (disch := omega) only [↓reduceIte, ↓ns_m1, ns_let, ns_lef, ns_ltt, ns_ltf, ns_eqt, ns_eqf, ns_gd, nI_clamp, nI_add, pk_sub, pk_mul, ns_m1a, ns_m1b, ns_m1c, ns_m1d, ns_m1e, ns_m1f, ns_m1g, ns_un1, ns_un0, ns_day1, Option.bind_some, gi_si_self, gi_si_ne, gl_si, gi_sl, gl_sl_self, gl_sl_ne, if_true, if_false, ns_i0, ns_i1, ns_i2, ns_i3, ns_i4, ns_i5, ns_i6, ns_i7, ns_i8, ns_i9, ns_i10, ns_i11, ns_i12, ns_i13, ns_i20, ns_i23, ns_i24, ns_i31, ns_i50, ns_i60, ns_i99, ns_i100, ns_i144, ns_i200, ns_i255, ns_i700, ns_i880, ns_i899, ns_i900, ns_i901, ns_i999, ns_i1000, ns_i1440, ns_i4095, ns_i1000000, hm.2.2.1, e1, r1.2.2.1]
    exact ⟨_, rfl, w1⟩
theorem via_c {W : List (Nat × Nat × Nat)} {z : Nat} {O : List od_} {TR : tp_} (hk : dwok_ W z O TR) {m : fm_} (hm : dwc_ W z O TR m) (x1 x2 : Int32) (b : Bool) (x4 : Int32) : ∃ m1, f_X11_via x1 x2 (b01_ b) x4 m = some (svia_ W z O TR x1 x2 b x4, m1) ∧ dwc_ W z O TR m1 := by
  have hl := hk.2.2.2.1
  unfold f_X11_via svia_
  rcases tsel_u hl (x1 := x1) (x2 := x2) with ⟨e, hn⟩ | ⟨j, q, d, e, hq, rfl, rfl, hd, hj⟩
  · rw [e]
    exact ⟨m, tsn_c hl hm.2.2 hn (fun m6 => (f_X10_follow x1 x2 (b01_ b) m6).bind fun q11 => (f_X11_isUnder x4 (gi_ q11.2 98 9) q11.2).bind fun q14 => if q14.1 = 0 then some (-1, q14.2) else gd_ (ix_ x4 12) (some (gi_ q14.2 104 x4.toNatClampNeg, q14.2))), hm⟩
  · obtain ⟨m1, e1, r1, w1⟩ := follow_c hk hm hq hd b
    have h12 : (q.1 :: rtl_ W z O q d b).length ≤ 12 := by
      have := (ptl_12 (W := W) (z := z) (v := q.2.2.2.1) (c := ch_ O q d b) (g := q.2.1) 11 q.1 (t0_ z q b)).1
      rw [List.length_cons]
      unfold rtl_
      omega
    rw [e]
    simp only
    generalize q.1 :: rtl_ W z O q d b = V at r1 h12
    rcases nat_ix x4 (n := V.length) (by omega) with ⟨e4, _⟩ | ⟨i, hi, rfl, e4, -⟩
    · rw [e4]
      simp (disch := omega) only [↓reduceIte, ↓ns_m1, ns_let, ns_lef, ns_ltt, ns_ltf, ns_eqt, ns_eqf, ns_gd, nI_clamp, nI_add, pk_sub, pk_mul, ns_m1a, ns_m1b, ns_m1c, ns_m1d, ns_m1e, ns_m1f, ns_m1g, ns_un1, ns_un0, ns_day1, Option.bind_some, gi_si_self, gi_si_ne, gl_si, gi_sl, gl_sl_self, gl_sl_ne, if_true, if_false, ns_i0, ns_i1, ns_i2, ns_i3, ns_i4, ns_i5, ns_i6, ns_i7, ns_i8, ns_i9, ns_i10, ns_i11, ns_i12, ns_i13, ns_i20, ns_i23, ns_i24, ns_i31, ns_i50, ns_i60, ns_i99, ns_i100, ns_i144, ns_i200, ns_i255, ns_i700, ns_i880, ns_i899, ns_i900, ns_i901, ns_i999, ns_i1000, ns_i1440, ns_i4095, ns_i1000000, hm.2.2.1, e1, r1.1, und0 e4]
      exact ⟨_, rfl, w1⟩
    · rw [e4]
      have hV := List.getElem?_eq_getElem hi
      generalize V[i] = p at hV
      have g4 := r1.2.2.2 i p hV
      simp (disch := omega) only [↓reduceIte, ↓ns_m1, ns_let, ns_lef, ns_ltt, ns_ltf, ns_eqt, ns_eqf, ns_gd, nI_clamp, nI_add, pk_sub, pk_mul, ns_m1a, ns_m1b, ns_m1c, ns_m1d, ns_m1e, ns_m1f, ns_m1g, ns_un1, ns_un0, ns_day1, Option.bind_some, gi_si_self, gi_si_ne, gl_si, gi_sl, gl_sl_self, gl_sl_ne, if_true, if_false, ns_i0, ns_i1, ns_i2, ns_i3, ns_i4, ns_i5, ns_i6, ns_i7, ns_i8, ns_i9, ns_i10, ns_i11, ns_i12, ns_i13, ns_i20, ns_i23, ns_i24, ns_i31, ns_i50, ns_i60, ns_i99, ns_i100, ns_i144, ns_i200, ns_i255, ns_i700, ns_i880, ns_i899, ns_i900, ns_i901, ns_i999, ns_i1000, ns_i1440, ns_i4095, ns_i1000000, hm.2.2.1, e1, r1.1, g4, hV]
      exact ⟨_, rfl, w1⟩
theorem rtl_12 {W : List (Nat × Nat × Nat)} {z : Nat} {O : List od_} {q : Nat × Nat × Nat × Nat × Nat} {d : Nat} {b : Bool} (hq : q.1 < 12) : (q.1 :: rtl_ W z O q d b).length ≤ 12 ∧ ∀ x ∈ q.1 :: rtl_ W z O q d b, x < 12 := by
  have := ptl_12 (W := W) (z := z) (v := q.2.2.2.1) (c := ch_ O q d b) (g := q.2.1) 11 q.1 (t0_ z q b)
  refine ⟨?_, fun x hx => ?_⟩
  · rw [List.length_cons]
    unfold rtl_
    omega
  · rcases List.mem_cons.mp hx with hx | hx
    · rw [hx]; exact hq
    · exact this.2 x hx
/-- along a list: what stands at a place, and the rest -/
theorem drop_s {V : List Nat} {i x : Nat} {r : List Nat} (h : V.drop i = x :: r) : V[i]? = some x ∧ V.drop (i + 1) = r ∧ i < V.length := by
  have hi : i < V.length := by
    by_cases q : i < V.length
    · exact q
    · rw [List.drop_of_length_le (by omega)] at h; cases h
  rw [List.drop_eq_getElem_cons hi] at h
  injection h with h1 h2
  exact ⟨by rw [List.getElem?_eq_getElem hi, h1], h2, hi⟩
theorem mn_m {W : List (Nat × Nat × Nat)} (hW : wok_ W) {m : fm_} (ht : tb_ (hm_ W) 121 m) {V : List Nat} (hV : pth_ V m) (h12 : V.length ≤ 12) (hx : ∀ x ∈ V, x < 12) {x1 x2 x3 : Int32} : ∀ (r : List Nat) (x j acc : Nat), V.drop j = x :: r → f_X12_minutes_18 x1 x2 x3 (nI acc) (nI (j + 1)) m = some (nI (acc + lenl_ W x r), m) := by
  intro r
  induction r with
  | nil =>
    intro x j acc h
    obtain ⟨h1, h2, h3⟩ := drop_s h
    have : V.length ≤ j + 1 := by
      have := congrArg List.length h2
      rw [List.length_drop, List.length_nil] at this
      omega
    rw [e_X12_minutes_18]
    simp (disch := omega) only [↓reduceIte, ↓ns_m1, ns_let, ns_lef, ns_ltt, ns_ltf, ns_eqt, ns_eqf, ns_gd, nI_clamp, nI_add, pk_sub, pk_mul, ns_m1a, ns_m1b, ns_m1c, ns_m1d, ns_m1e, ns_m1f, ns_m1g, ns_un1, ns_un0, ns_day1, Option.bind_some, gi_si_self, gi_si_ne, gl_si, gi_sl, gl_sl_self, gl_sl_ne, if_true, if_false, ns_i0, ns_i1, ns_i2, ns_i3, ns_i4, ns_i5, ns_i6, ns_i7, ns_i8, ns_i9, ns_i10, ns_i11, ns_i12, ns_i13, ns_i20, ns_i23, ns_i24, ns_i31, ns_i50, ns_i60, ns_i99, ns_i100, ns_i144, ns_i200, ns_i255, ns_i700, ns_i880, ns_i899, ns_i900, ns_i901, ns_i999, ns_i1000, ns_i1440, ns_i4095, ns_i1000000, hV.1]
    rfl
  | cons y r ih =>
    intro x j acc h
    obtain ⟨h1, h2, h3⟩ := drop_s h
    obtain ⟨k1, k2, k3⟩ := drop_s h2
    have g1 := hV.2 j x h1
    have g2 := hV.2 (j + 1) y k1
    have bx := hx x (List.mem_of_getElem? h1)
    have by1 := hx y (List.mem_of_getElem? k1)
    have t := tb_c ht bx by1
    have hf := hm_far hW x y
    have ih := ih y (j + 1) (acc + hm_ W x y) h2
    have es : j + 1 - 1 = j := by omega
    rw [e_X12_minutes_18]
    simp (disch := omega) only [↓reduceIte, ↓ns_m1, ns_let, ns_lef, ns_ltt, ns_ltf, ns_eqt, ns_eqf, ns_gd, nI_clamp, nI_add, pk_sub, pk_mul, ns_m1a, ns_m1b, ns_m1c, ns_m1d, ns_m1e, ns_m1f, ns_m1g, ns_un1, ns_un0, ns_day1, Option.bind_some, gi_si_self, gi_si_ne, gl_si, gi_sl, gl_sl_self, gl_sl_ne, if_true, if_false, ns_i0, ns_i1, ns_i2, ns_i3, ns_i4, ns_i5, ns_i6, ns_i7, ns_i8, ns_i9, ns_i10, ns_i11, ns_i12, ns_i13, ns_i20, ns_i23, ns_i24, ns_i31, ns_i50, ns_i60, ns_i99, ns_i100, ns_i144, ns_i200, ns_i255, ns_i700, ns_i880, ns_i899, ns_i900, ns_i901, ns_i999, ns_i1000, ns_i1440, ns_i4095, ns_i1000000, hV.1, es, g1, g2, t]
    rw [ih]
    show some (nI (acc + hm_ W x y + lenl_ W y r), m) = some (nI (acc + (hm_ W x y + lenl_ W y r)), m)
    rw [Nat.add_assoc]
theorem min_m {W : List (Nat × Nat × Nat)} {z : Nat} {O : List od_} {TR : tp_} (hk : dwok_ W z O TR) {m : fm_} (hm : dwm_ W z O TR m) (x1 x2 : Int32) (b : Bool) : ∃ m1, f_X12_minutes x1 x2 (b01_ b) m = some (smin_ W z O TR x1 x2 b, m1) ∧ dwm_ W z O TR m1 := by
  have hl := hk.2.2.2.1
  unfold f_X12_minutes smin_
  rcases tsel_u hl (x1 := x1) (x2 := x2) with ⟨e, hn⟩ | ⟨j, q, d, e, hq, rfl, rfl, hd, hj⟩
  · rw [e, go_no hl hm.2.2.2.2 hn]
    exact ⟨m, rfl, hm⟩
  · obtain ⟨m1, e1, p1, w1⟩ := go_ hk hm hq hd b
    have hb := rtl_12 (W := W) (z := z) (O := O) (d := d) (b := b) (hk.2.2.2.2 q (List.mem_of_getElem? hq)).1
    have := mn_m hk.1 w1.2.2.1.2 p1 hb.1 hb.2 (x1 := nI j) (x2 := nI d) (x3 := b01_ b) (rtl_ W z O q d b) q.1 0 0 rfl
    simp only [Nat.zero_add] at this
    rw [e]
    simp (disch := omega) only [↓reduceIte, ↓ns_m1, ns_let, ns_lef, ns_ltt, ns_ltf, ns_eqt, ns_eqf, ns_gd, nI_clamp, nI_add, pk_sub, pk_mul, ns_m1a, ns_m1b, ns_m1c, ns_m1d, ns_m1e, ns_m1f, ns_m1g, ns_un1, ns_un0, ns_day1, Option.bind_some, gi_si_self, gi_si_ne, gl_si, gi_sl, gl_sl_self, gl_sl_ne, if_true, if_false, ns_i0, ns_i1, ns_i2, ns_i3, ns_i4, ns_i5, ns_i6, ns_i7, ns_i8, ns_i9, ns_i10, ns_i11, ns_i12, ns_i13, ns_i20, ns_i23, ns_i24, ns_i31, ns_i50, ns_i60, ns_i99, ns_i100, ns_i144, ns_i200, ns_i255, ns_i700, ns_i880, ns_i899, ns_i900, ns_i901, ns_i999, ns_i1000, ns_i1440, ns_i4095, ns_i1000000, e1, this]
    exact ⟨_, rfl, w1⟩
theorem via_m {W : List (Nat × Nat × Nat)} {z : Nat} {O : List od_} {TR : tp_} (hk : dwok_ W z O TR) {m : fm_} (hm : dwm_ W z O TR m) (x1 x2 : Int32) (b : Bool) (x4 : Int32) : ∃ m1, f_X12_via x1 x2 (b01_ b) x4 m = some (svia_ W z O TR x1 x2 b x4, m1) ∧ dwm_ W z O TR m1 := by
  have hl := hk.2.2.2.1
  unfold f_X12_via svia_
  rcases tsel_u hl (x1 := x1) (x2 := x2) with ⟨e, hn⟩ | ⟨j, q, d, e, hq, rfl, rfl, hd, hj⟩
  · rw [e, go_no hl hm.2.2.2.2 hn]
    exact ⟨m, rfl, hm⟩
  · obtain ⟨m1, e1, p1, w1⟩ := go_ hk hm hq hd b
    have hb := rtl_12 (W := W) (z := z) (O := O) (d := d) (b := b) (hk.2.2.2.2 q (List.mem_of_getElem? hq)).1
    have h12 := hb.1
    rw [e]
    simp only
    generalize q.1 :: rtl_ W z O q d b = V at p1 h12
    rcases nat_ix x4 (n := V.length) (by omega) with ⟨e4, q4 | ⟨q4, q5⟩⟩ | ⟨i, hi, rfl, e4, -⟩
    · rw [e4, e1]
      simp only [Option.bind_some, if_pos q4, if_neg (show ¬ (1 : Int32) = 0 by decide)]
      exact ⟨_, rfl, w1⟩
    · rw [e4, e1]
      simp only [Option.bind_some, if_neg q4, p1.1, if_pos q5, if_neg (show ¬ (1 : Int32) = 0 by decide)]
      exact ⟨_, rfl, w1⟩
    · rw [e4]
      have hV := List.getElem?_eq_getElem hi
      generalize V[i] = p at hV
      have g4 := p1.2 i p hV
      simp (disch := omega) only [↓reduceIte, ↓ns_m1, ns_let, ns_lef, ns_ltt, ns_ltf, ns_eqt, ns_eqf, ns_gd, nI_clamp, nI_add, pk_sub, pk_mul, ns_m1a, ns_m1b, ns_m1c, ns_m1d, ns_m1e, ns_m1f, ns_m1g, ns_un1, ns_un0, ns_day1, Option.bind_some, gi_si_self, gi_si_ne, gl_si, gi_sl, gl_sl_self, gl_sl_ne, if_true, if_false, ns_i0, ns_i1, ns_i2, ns_i3, ns_i4, ns_i5, ns_i6, ns_i7, ns_i8, ns_i9, ns_i10, ns_i11, ns_i12, ns_i13, ns_i20, ns_i23, ns_i24, ns_i31, ns_i50, ns_i60, ns_i99, ns_i100, ns_i144, ns_i200, ns_i255, ns_i700, ns_i880, ns_i899, ns_i900, ns_i901, ns_i999, ns_i1000, ns_i1440, ns_i4095, ns_i1000000, e1, p1.1, g4, hV]
      exact ⟨_, rfl, w1⟩
/-! a trip is told -/
def r99_ (x : Int32) : Option Nat := match nat_ x 100 with
  | some (n + 1) => some (n + 1)
  | _ => none
theorem r99_u (x : Int32) : (r99_ x = none ∧ (x < nI 1 ∨ (¬ x < nI 1 ∧ nI 99 < x))) ∨ ∃ n, 1 ≤ n ∧ n ≤ 99 ∧ x = nI n ∧ r99_ x = some n := by
  unfold r99_
  rcases nat_ix x (n := 100) (by omega) with ⟨e, h1 | ⟨h1, h2⟩⟩ | ⟨j, hj, rfl, e, h1, h2⟩
  · rw [e]
    refine Or.inl ⟨rfl, Or.inl ?_⟩
    rw [Int32.lt_iff_toInt_lt] at h1 ⊢
    have e0 : (0 : Int32).toInt = 0 := rfl
    rw [nI_toInt (by omega)]
    omega
  · rw [e]
    rw [Int32.le_iff_toInt_le, nI_toInt (by omega)] at h2
    refine Or.inl ⟨rfl, Or.inr ⟨?_, ?_⟩⟩
    · rw [Int32.lt_iff_toInt_lt, nI_toInt (by omega)]
      omega
    · rw [Int32.lt_iff_toInt_lt, nI_toInt (by omega)]
      omega
  · rw [e]
    cases j with
    | zero => exact Or.inl ⟨rfl, Or.inl (nI_lt (by omega) (by omega))⟩
    | succ n => exact Or.inr ⟨n + 1, by omega, by omega, rfl, rfl⟩
def strp_ (W : List (Nat × Nat × Nat)) (TR : tp_) (p1 p2 p3 p4 p5 : Int32) : Int32 × tp_ := match nat_ p1 12, nat_ p2 12, r99_ p3, r99_ p4, nat_ p5 10 with
  | some a, some b, some n, some v, some k => if a = b ∨ 1000000 ≤ ner_ W a b ∨ 20 ≤ TR.length then (-1, TR) else (nI TR.length, TR ++ [(a, b, n, v, k)])
  | _, _, _, _, _ => (-1, TR)
theorem strp_ok {W : List (Nat × Nat × Nat)} {TR : tp_} (h : tok_ W TR) (p1 p2 p3 p4 p5 : Int32) : tok_ W (strp_ W TR p1 p2 p3 p4 p5).2 := by
  unfold strp_
  rcases nat_ix p1 (n := 12) (by omega) with ⟨e1, _⟩ | ⟨a, ha, rfl, e1, -⟩
  · rw [e1]; exact h
  rcases nat_ix p2 (n := 12) (by omega) with ⟨e2, _⟩ | ⟨b, hb, rfl, e2, -⟩
  · rw [e1, e2]; exact h
  rcases r99_u p3 with ⟨e3, _⟩ | ⟨n, n1, n2, rfl, e3⟩
  · rw [e1, e2, e3]; exact h
  rcases r99_u p4 with ⟨e4, _⟩ | ⟨v, v1, v2, rfl, e4⟩
  · rw [e1, e2, e3, e4]; exact h
  rcases nat_ix p5 (n := 10) (by omega) with ⟨e5, _⟩ | ⟨k, hk, rfl, e5, -⟩
  · rw [e1, e2, e3, e4, e5]; exact h
  rw [e1, e2, e3, e4, e5]
  simp only
  by_cases c : a = b ∨ 1000000 ≤ ner_ W a b ∨ 20 ≤ TR.length
  · rw [if_pos c]; exact h
  · rw [if_neg c]
    refine ⟨by rw [List.length_append]; show TR.length + 1 ≤ 20; omega, fun q hq => ?_⟩
    rcases List.mem_append.mp hq with hq | hq
    · exact h.2 q hq
    · rw [List.mem_singleton.mp hq]
      exact ⟨ha, hb, fun x => c (Or.inl x), by show ner_ W a b < 1000000; omega, n1, n2, v1, v2, hk⟩
theorem trip_c {W : List (Nat × Nat × Nat)} (hW : wok_ W) {TR : tp_} (hT : TR.length ≤ 20) {m : fm_} (h : trc_ TR m) (ht : tb_ (ner_ W) 14 m) (p1 p2 p3 p4 p5 : Int32) : ∃ m1, f_X11_trip p1 p2 p3 p4 p5 m = some ((strp_ W TR p1 p2 p3 p4 p5).1, m1) ∧ trc_ (strp_ W TR p1 p2 p3 p4 p5).2 m1 := by
  unfold f_X11_trip strp_
  have far : ∀ K : Option (Int32 × fm_), (if (1000000 : Int32) ≤ 1000000 then some (-1, m) else K) = some (-1, m) := fun K => if_pos (by decide)
  rcases nat_ix p1 (n := 12) (by omega) with ⟨e1, _⟩ | ⟨a, ha, rfl, e1, -⟩
  · have hn : f_X9_near p1 p2 m = some (1000000, m) := by unfold f_X9_near; rw [at_no m (Or.inl e1)]; rfl
    rw [e1, hn]
    simp only [Option.bind_some, far]
    by_cases c : p1 = p2
    · rw [if_pos c]; exact ⟨m, rfl, h⟩
    · rw [if_neg c]; exact ⟨m, rfl, h⟩
  rcases nat_ix p2 (n := 12) (by omega) with ⟨e2, _⟩ | ⟨b, hb, rfl, e2, -⟩
  · have hn : f_X9_near (nI a) p2 m = some (1000000, m) := by unfold f_X9_near; rw [at_no m (Or.inr e2)]; rfl
    rw [e1, e2, hn]
    simp only [Option.bind_some, far]
    by_cases c : nI a = p2
    · rw [if_pos c]; exact ⟨m, rfl, h⟩
    · rw [if_neg c]; exact ⟨m, rfl, h⟩
  have hn := near_ ht ha hb
  have hf := ner_far hW a b
  rw [e1, e2, hn]
  by_cases c1 : a = b
  · subst c1
    rw [if_pos rfl]
    refine ⟨m, ?_⟩
    cases r99_ p3 with
    | none => exact ⟨rfl, h⟩
    | some n =>
      cases r99_ p4 with
      | none => exact ⟨rfl, h⟩
      | some v =>
        cases nat_ p5 10 with
        | none => exact ⟨rfl, h⟩
        | some k => simp only [true_or, if_true]; exact ⟨trivial, h⟩
  rw [if_neg (fun q => c1 ((nI_eq (by omega) (by omega)).mp q))]
  simp only [Option.bind_some]
  by_cases c2 : 1000000 ≤ ner_ W a b
  · rw [if_pos (show (1000000 : Int32) ≤ nI (ner_ W a b) from nI_le (a := 1000000) c2 (by omega))]
    refine ⟨m, ?_⟩
    cases r99_ p3 with
    | none => exact ⟨rfl, h⟩
    | some n =>
      cases r99_ p4 with
      | none => exact ⟨rfl, h⟩
      | some v =>
        cases nat_ p5 10 with
        | none => exact ⟨rfl, h⟩
        | some k => simp only [c2, true_or, or_true, if_true]; exact ⟨trivial, h⟩
  rw [if_neg (show ¬ (1000000 : Int32) ≤ nI (ner_ W a b) from nI_ge (b := 1000000) (by omega) (by omega))]
  rcases r99_u p3 with ⟨e3, q | ⟨q, q2⟩⟩ | ⟨n, n1, n2, rfl, e3⟩
  · simp (disch := omega) only [↓reduceIte, ↓ns_m1, ns_let, ns_lef, ns_ltt, ns_ltf, ns_eqt, ns_eqf, ns_gd, nI_clamp, nI_add, pk_sub, pk_mul, ns_m1a, ns_m1b, ns_m1c, ns_m1d, ns_m1e, ns_m1f, ns_m1g, ns_un1, ns_un0, ns_day1, Option.bind_some, gi_si_self, gi_si_ne, gl_si, gi_sl, gl_sl_self, gl_sl_ne, if_true, if_false, ns_i0, ns_i1, ns_i2, ns_i3, ns_i4, ns_i5, ns_i6, ns_i7, ns_i8, ns_i9, ns_i10, ns_i11, ns_i12, ns_i13, ns_i20, ns_i23, ns_i24, ns_i31, ns_i50, ns_i60, ns_i99, ns_i100, ns_i144, ns_i200, ns_i255, ns_i700, ns_i880, ns_i899, ns_i900, ns_i901, ns_i999, ns_i1000, ns_i1440, ns_i4095, ns_i1000000, e3, q]
    exact ⟨m, rfl, h⟩
  · simp (disch := omega) only [↓reduceIte, ↓ns_m1, ns_let, ns_lef, ns_ltt, ns_ltf, ns_eqt, ns_eqf, ns_gd, nI_clamp, nI_add, pk_sub, pk_mul, ns_m1a, ns_m1b, ns_m1c, ns_m1d, ns_m1e, ns_m1f, ns_m1g, ns_un1, ns_un0, ns_day1, Option.bind_some, gi_si_self, gi_si_ne, gl_si, gi_sl, gl_sl_self, gl_sl_ne, if_true, if_false, ns_i0, ns_i1, ns_i2, ns_i3, ns_i4, ns_i5, ns_i6, ns_i7, ns_i8, ns_i9, ns_i10, ns_i11, ns_i12, ns_i13, ns_i20, ns_i23, ns_i24, ns_i31, ns_i50, ns_i60, ns_i99, ns_i100, ns_i144, ns_i200, ns_i255, ns_i700, ns_i880, ns_i899, ns_i900, ns_i901, ns_i999, ns_i1000, ns_i1440, ns_i4095, ns_i1000000, e3, q, q2]
    exact ⟨m, rfl, h⟩
  rcases r99_u p4 with ⟨e4, q | ⟨q, q2⟩⟩ | ⟨v, v1, v2, rfl, e4⟩
  · simp (disch := omega) only [↓reduceIte, ↓ns_m1, ns_let, ns_lef, ns_ltt, ns_ltf, ns_eqt, ns_eqf, ns_gd, nI_clamp, nI_add, pk_sub, pk_mul, ns_m1a, ns_m1b, ns_m1c, ns_m1d, ns_m1e, ns_m1f, ns_m1g, ns_un1, ns_un0, ns_day1, Option.bind_some, gi_si_self, gi_si_ne, gl_si, gi_sl, gl_sl_self, gl_sl_ne, if_true, if_false, ns_i0, ns_i1, ns_i2, ns_i3, ns_i4, ns_i5, ns_i6, ns_i7, ns_i8, ns_i9, ns_i10, ns_i11, ns_i12, ns_i13, ns_i20, ns_i23, ns_i24, ns_i31, ns_i50, ns_i60, ns_i99, ns_i100, ns_i144, ns_i200, ns_i255, ns_i700, ns_i880, ns_i899, ns_i900, ns_i901, ns_i999, ns_i1000, ns_i1440, ns_i4095, ns_i1000000, e3, e4, q]
    exact ⟨m, rfl, h⟩
  · simp (disch := omega) only [↓reduceIte, ↓ns_m1, ns_let, ns_lef, ns_ltt, ns_ltf, ns_eqt, ns_eqf, ns_gd, nI_clamp, nI_add, pk_sub, pk_mul, ns_m1a, ns_m1b, ns_m1c, ns_m1d, ns_m1e, ns_m1f, ns_m1g, ns_un1, ns_un0, ns_day1, Option.bind_some, gi_si_self, gi_si_ne, gl_si, gi_sl, gl_sl_self, gl_sl_ne, if_true, if_false, ns_i0, ns_i1, ns_i2, ns_i3, ns_i4, ns_i5, ns_i6, ns_i7, ns_i8, ns_i9, ns_i10, ns_i11, ns_i12, ns_i13, ns_i20, ns_i23, ns_i24, ns_i31, ns_i50, ns_i60, ns_i99, ns_i100, ns_i144, ns_i200, ns_i255, ns_i700, ns_i880, ns_i899, ns_i900, ns_i901, ns_i999, ns_i1000, ns_i1440, ns_i4095, ns_i1000000, e3, e4, q, q2]
    exact ⟨m, rfl, h⟩
  rcases nat_ix p5 (n := 10) (by omega) with ⟨e5, _⟩ | ⟨k, hk, rfl, e5, -⟩
  · simp (disch := omega) only [↓reduceIte, ↓ns_m1, ns_let, ns_lef, ns_ltt, ns_ltf, ns_eqt, ns_eqf, ns_gd, nI_clamp, nI_add, pk_sub, pk_mul, ns_m1a, ns_m1b, ns_m1c, ns_m1d, ns_m1e, ns_m1f, ns_m1g, ns_un1, ns_un0, ns_day1, Option.bind_some, gi_si_self, gi_si_ne, gl_si, gi_sl, gl_sl_self, gl_sl_ne, if_true, if_false, ns_i0, ns_i1, ns_i2, ns_i3, ns_i4, ns_i5, ns_i6, ns_i7, ns_i8, ns_i9, ns_i10, ns_i11, ns_i12, ns_i13, ns_i20, ns_i23, ns_i24, ns_i31, ns_i50, ns_i60, ns_i99, ns_i100, ns_i144, ns_i200, ns_i255, ns_i700, ns_i880, ns_i899, ns_i900, ns_i901, ns_i999, ns_i1000, ns_i1440, ns_i4095, ns_i1000000, e3, e4, e5, und0 e5]
    exact ⟨m, rfl, h⟩
  unfold f_X10_add
  by_cases c3 : 20 ≤ TR.length
  · simp (disch := omega) only [↓reduceIte, ↓ns_m1, ns_let, ns_lef, ns_ltt, ns_ltf, ns_eqt, ns_eqf, ns_gd, nI_clamp, nI_add, pk_sub, pk_mul, ns_m1a, ns_m1b, ns_m1c, ns_m1d, ns_m1e, ns_m1f, ns_m1g, ns_un1, ns_un0, ns_day1, Option.bind_some, gi_si_self, gi_si_ne, gl_si, gi_sl, gl_sl_self, gl_sl_ne, if_true, if_false, ns_i0, ns_i1, ns_i2, ns_i3, ns_i4, ns_i5, ns_i6, ns_i7, ns_i8, ns_i9, ns_i10, ns_i11, ns_i12, ns_i13, ns_i20, ns_i23, ns_i24, ns_i31, ns_i50, ns_i60, ns_i99, ns_i100, ns_i144, ns_i200, ns_i255, ns_i700, ns_i880, ns_i899, ns_i900, ns_i901, ns_i999, ns_i1000, ns_i1440, ns_i4095, ns_i1000000, e3, e4, e5, h.1, c1, c2, c3, or_true, true_or]
    exact ⟨m, rfl, h⟩
  · have c4 : ¬ (a = b ∨ 1000000 ≤ ner_ W a b ∨ 20 ≤ TR.length) := by omega
    have ep : TR.length + 1 - 1 = TR.length := by omega
    simp (disch := omega) only [↓reduceIte, ↓ns_m1, ns_let, ns_lef, ns_ltt, ns_ltf, ns_eqt, ns_eqf, ns_gd, nI_clamp, nI_add, pk_sub, pk_mul, ns_m1a, ns_m1b, ns_m1c, ns_m1d, ns_m1e, ns_m1f, ns_m1g, ns_un1, ns_un0, ns_day1, Option.bind_some, gi_si_self, gi_si_ne, gl_si, gi_sl, gl_sl_self, gl_sl_ne, if_true, if_false, ns_i0, ns_i1, ns_i2, ns_i3, ns_i4, ns_i5, ns_i6, ns_i7, ns_i8, ns_i9, ns_i10, ns_i11, ns_i12, ns_i13, ns_i20, ns_i23, ns_i24, ns_i31, ns_i50, ns_i60, ns_i99, ns_i100, ns_i144, ns_i200, ns_i255, ns_i700, ns_i880, ns_i899, ns_i900, ns_i901, ns_i999, ns_i1000, ns_i1440, ns_i4095, ns_i1000000, e3, e4, e5, h.1, c4, ep]
    refine ⟨_, rfl, ?_, fun j q hj => ?_⟩
    · simp (disch := omega) only [↓reduceIte, ↓ns_m1, ns_let, ns_lef, ns_ltt, ns_ltf, ns_eqt, ns_eqf, ns_gd, nI_clamp, nI_add, pk_sub, pk_mul, ns_m1a, ns_m1b, ns_m1c, ns_m1d, ns_m1e, ns_m1f, ns_m1g, ns_un1, ns_un0, ns_day1, Option.bind_some, gi_si_self, gi_si_ne, gl_si, gi_sl, gl_sl_self, gl_sl_ne, if_true, if_false, ns_i0, ns_i1, ns_i2, ns_i3, ns_i4, ns_i5, ns_i6, ns_i7, ns_i8, ns_i9, ns_i10, ns_i11, ns_i12, ns_i13, ns_i20, ns_i23, ns_i24, ns_i31, ns_i50, ns_i60, ns_i99, ns_i100, ns_i144, ns_i200, ns_i255, ns_i700, ns_i880, ns_i899, ns_i900, ns_i901, ns_i999, ns_i1000, ns_i1440, ns_i4095, ns_i1000000]
      rw [List.length_append]
      rfl
    · rcases ap_get hj with ⟨q1, q2⟩ | ⟨q1, q2⟩
      · have := h.2 j q q2
        simp (disch := omega) only [↓reduceIte, ↓ns_m1, ns_let, ns_lef, ns_ltt, ns_ltf, ns_eqt, ns_eqf, ns_gd, nI_clamp, nI_add, pk_sub, pk_mul, ns_m1a, ns_m1b, ns_m1c, ns_m1d, ns_m1e, ns_m1f, ns_m1g, ns_un1, ns_un0, ns_day1, Option.bind_some, gi_si_self, gi_si_ne, gl_si, gi_sl, gl_sl_self, gl_sl_ne, if_true, if_false, ns_i0, ns_i1, ns_i2, ns_i3, ns_i4, ns_i5, ns_i6, ns_i7, ns_i8, ns_i9, ns_i10, ns_i11, ns_i12, ns_i13, ns_i20, ns_i23, ns_i24, ns_i31, ns_i50, ns_i60, ns_i99, ns_i100, ns_i144, ns_i200, ns_i255, ns_i700, ns_i880, ns_i899, ns_i900, ns_i901, ns_i999, ns_i1000, ns_i1440, ns_i4095, ns_i1000000]
        exact this
      · subst q1
        subst q2
        simp (disch := omega) only [↓reduceIte, ↓ns_m1, ns_let, ns_lef, ns_ltt, ns_ltf, ns_eqt, ns_eqf, ns_gd, nI_clamp, nI_add, pk_sub, pk_mul, ns_m1a, ns_m1b, ns_m1c, ns_m1d, ns_m1e, ns_m1f, ns_m1g, ns_un1, ns_un0, ns_day1, Option.bind_some, gi_si_self, gi_si_ne, gl_si, gi_sl, gl_sl_self, gl_sl_ne, if_true, if_false, ns_i0, ns_i1, ns_i2, ns_i3, ns_i4, ns_i5, ns_i6, ns_i7, ns_i8, ns_i9, ns_i10, ns_i11, ns_i12, ns_i13, ns_i20, ns_i23, ns_i24, ns_i31, ns_i50, ns_i60, ns_i99, ns_i100, ns_i144, ns_i200, ns_i255, ns_i700, ns_i880, ns_i899, ns_i900, ns_i901, ns_i999, ns_i1000, ns_i1440, ns_i4095, ns_i1000000, and_self]
theorem trip_m {W : List (Nat × Nat × Nat)} (hW : wok_ W) {TR : tp_} (hT : TR.length ≤ 20) {m : fm_} (h : trm_ TR m) (ht : tb_ (ner_ W) 120 m) (p1 p2 p3 p4 p5 : Int32) : ∃ m1, f_X12_trip p1 p2 p3 p4 p5 m = some ((strp_ W TR p1 p2 p3 p4 p5).1, m1) ∧ trm_ (strp_ W TR p1 p2 p3 p4 p5).2 m1 := by
  unfold f_X12_trip strp_
  by_cases c3 : 20 ≤ TR.length
  · have e20 : gi_ m 106 87 = 20 := by rw [h.1, show TR.length = 20 by omega]; rfl
    rw [if_pos e20]
    refine ⟨m, ?_⟩
    cases nat_ p1 12 with
    | none => exact ⟨rfl, h⟩
    | some a =>
      cases nat_ p2 12 with
      | none => exact ⟨rfl, h⟩
      | some b =>
        cases r99_ p3 with
        | none => exact ⟨rfl, h⟩
        | some n =>
          cases r99_ p4 with
          | none => exact ⟨rfl, h⟩
          | some v =>
            cases nat_ p5 10 with
            | none => exact ⟨rfl, h⟩
            | some k => simp only [c3, or_true, if_true]; exact ⟨trivial, h⟩
  have n20 : ¬ gi_ m 106 87 = 20 := by
    rw [h.1]
    intro q
    have := (nI_eq (b := 20) (by omega) (by omega)).mp q
    omega
  rw [if_neg n20, isp12_m]
  simp only [Option.bind_some]
  rcases nat_ix p1 (n := 12) (by omega) with ⟨e1, _⟩ | ⟨a, ha, rfl, e1, -⟩
  · rw [if_pos (bu_0 e1), e1]; exact ⟨m, rfl, h⟩
  rw [if_neg (bu_ne e1), e1, isp12_m]
  simp only [Option.bind_some]
  rcases nat_ix p2 (n := 12) (by omega) with ⟨e2, _⟩ | ⟨b, hb, rfl, e2, -⟩
  · rw [if_pos (bu_0 e2), e2]; exact ⟨m, rfl, h⟩
  rw [if_neg (bu_ne e2), e2]
  have hn := tb_c ht ha hb
  have hf := ner_far hW a b
  by_cases c1 : a = b
  · subst c1
    rw [if_pos rfl]
    refine ⟨m, ?_⟩
    cases r99_ p3 with
    | none => exact ⟨rfl, h⟩
    | some n =>
      cases r99_ p4 with
      | none => exact ⟨rfl, h⟩
      | some v =>
        cases nat_ p5 10 with
        | none => exact ⟨rfl, h⟩
        | some k => simp only [true_or, if_true]; exact ⟨trivial, h⟩
  by_cases c2 : 1000000 ≤ ner_ W a b
  · simp (disch := omega) only [↓reduceIte, ↓ns_m1, ns_let, ns_lef, ns_ltt, ns_ltf, ns_eqt, ns_eqf, ns_gd, nI_clamp, nI_add, pk_sub, pk_mul, ns_m1a, ns_m1b, ns_m1c, ns_m1d, ns_m1e, ns_m1f, ns_m1g, ns_un1, ns_un0, ns_day1, Option.bind_some, gi_si_self, gi_si_ne, gl_si, gi_sl, gl_sl_self, gl_sl_ne, if_true, if_false, ns_i0, ns_i1, ns_i2, ns_i3, ns_i4, ns_i5, ns_i6, ns_i7, ns_i8, ns_i9, ns_i10, ns_i11, ns_i12, ns_i13, ns_i20, ns_i23, ns_i24, ns_i31, ns_i50, ns_i60, ns_i99, ns_i100, ns_i144, ns_i200, ns_i255, ns_i700, ns_i880, ns_i899, ns_i900, ns_i901, ns_i999, ns_i1000, ns_i1440, ns_i4095, ns_i1000000, hn]
    refine ⟨m, ?_⟩
    cases r99_ p3 with
    | none => exact ⟨rfl, h⟩
    | some n =>
      cases r99_ p4 with
      | none => exact ⟨rfl, h⟩
      | some v =>
        cases nat_ p5 10 with
        | none => exact ⟨rfl, h⟩
        | some k => simp only [c2, true_or, or_true, if_true]; exact ⟨trivial, h⟩
  rcases r99_u p3 with ⟨e3, q | ⟨q, q2⟩⟩ | ⟨n, n1, n2, rfl, e3⟩
  · simp (disch := omega) only [↓reduceIte, ↓ns_m1, ns_let, ns_lef, ns_ltt, ns_ltf, ns_eqt, ns_eqf, ns_gd, nI_clamp, nI_add, pk_sub, pk_mul, ns_m1a, ns_m1b, ns_m1c, ns_m1d, ns_m1e, ns_m1f, ns_m1g, ns_un1, ns_un0, ns_day1, Option.bind_some, gi_si_self, gi_si_ne, gl_si, gi_sl, gl_sl_self, gl_sl_ne, if_true, if_false, ns_i0, ns_i1, ns_i2, ns_i3, ns_i4, ns_i5, ns_i6, ns_i7, ns_i8, ns_i9, ns_i10, ns_i11, ns_i12, ns_i13, ns_i20, ns_i23, ns_i24, ns_i31, ns_i50, ns_i60, ns_i99, ns_i100, ns_i144, ns_i200, ns_i255, ns_i700, ns_i880, ns_i899, ns_i900, ns_i901, ns_i999, ns_i1000, ns_i1440, ns_i4095, ns_i1000000, hn, e3, q]
    exact ⟨m, rfl, h⟩
  · simp (disch := omega) only [↓reduceIte, ↓ns_m1, ns_let, ns_lef, ns_ltt, ns_ltf, ns_eqt, ns_eqf, ns_gd, nI_clamp, nI_add, pk_sub, pk_mul, ns_m1a, ns_m1b, ns_m1c, ns_m1d, ns_m1e, ns_m1f, ns_m1g, ns_un1, ns_un0, ns_day1, Option.bind_some, gi_si_self, gi_si_ne, gl_si, gi_sl, gl_sl_self, gl_sl_ne, if_true, if_false, ns_i0, ns_i1, ns_i2, ns_i3, ns_i4, ns_i5, ns_i6, ns_i7, ns_i8, ns_i9, ns_i10, ns_i11, ns_i12, ns_i13, ns_i20, ns_i23, ns_i24, ns_i31, ns_i50, ns_i60, ns_i99, ns_i100, ns_i144, ns_i200, ns_i255, ns_i700, ns_i880, ns_i899, ns_i900, ns_i901, ns_i999, ns_i1000, ns_i1440, ns_i4095, ns_i1000000, hn, e3, q, q2]
    exact ⟨m, rfl, h⟩
  rcases r99_u p4 with ⟨e4, q | ⟨q, q2⟩⟩ | ⟨v, v1, v2, rfl, e4⟩
  · simp (disch := omega) only [↓reduceIte, ↓ns_m1, ns_let, ns_lef, ns_ltt, ns_ltf, ns_eqt, ns_eqf, ns_gd, nI_clamp, nI_add, pk_sub, pk_mul, ns_m1a, ns_m1b, ns_m1c, ns_m1d, ns_m1e, ns_m1f, ns_m1g, ns_un1, ns_un0, ns_day1, Option.bind_some, gi_si_self, gi_si_ne, gl_si, gi_sl, gl_sl_self, gl_sl_ne, if_true, if_false, ns_i0, ns_i1, ns_i2, ns_i3, ns_i4, ns_i5, ns_i6, ns_i7, ns_i8, ns_i9, ns_i10, ns_i11, ns_i12, ns_i13, ns_i20, ns_i23, ns_i24, ns_i31, ns_i50, ns_i60, ns_i99, ns_i100, ns_i144, ns_i200, ns_i255, ns_i700, ns_i880, ns_i899, ns_i900, ns_i901, ns_i999, ns_i1000, ns_i1440, ns_i4095, ns_i1000000, hn, e3, e4, q]
    exact ⟨m, rfl, h⟩
  · simp (disch := omega) only [↓reduceIte, ↓ns_m1, ns_let, ns_lef, ns_ltt, ns_ltf, ns_eqt, ns_eqf, ns_gd, nI_clamp, nI_add, pk_sub, pk_mul, ns_m1a, ns_m1b, ns_m1c, ns_m1d, ns_m1e, ns_m1f, ns_m1g, ns_un1, ns_un0, ns_day1, Option.bind_some, gi_si_self, gi_si_ne, gl_si, gi_sl, gl_sl_self, gl_sl_ne, if_true, if_false, ns_i0, ns_i1, ns_i2, ns_i3, ns_i4, ns_i5, ns_i6, ns_i7, ns_i8, ns_i9, ns_i10, ns_i11, ns_i12, ns_i13, ns_i20, ns_i23, ns_i24, ns_i31, ns_i50, ns_i60, ns_i99, ns_i100, ns_i144, ns_i200, ns_i255, ns_i700, ns_i880, ns_i899, ns_i900, ns_i901, ns_i999, ns_i1000, ns_i1440, ns_i4095, ns_i1000000, hn, e3, e4, q, q2]
    exact ⟨m, rfl, h⟩
  have es : f_X12_isSmall p5 m = some (bu_ p5 10, m) := iss_m p5 m
  rcases nat_ix p5 (n := 10) (by omega) with ⟨e5, _⟩ | ⟨k, hk, rfl, e5, -⟩
  · have eb : bu_ p5 10 = nI 0 := bu_0 e5
    simp (disch := omega) only [↓reduceIte, ↓ns_m1, ns_let, ns_lef, ns_ltt, ns_ltf, ns_eqt, ns_eqf, ns_gd, nI_clamp, nI_add, pk_sub, pk_mul, ns_m1a, ns_m1b, ns_m1c, ns_m1d, ns_m1e, ns_m1f, ns_m1g, ns_un1, ns_un0, ns_day1, Option.bind_some, gi_si_self, gi_si_ne, gl_si, gi_sl, gl_sl_self, gl_sl_ne, if_true, if_false, ns_i0, ns_i1, ns_i2, ns_i3, ns_i4, ns_i5, ns_i6, ns_i7, ns_i8, ns_i9, ns_i10, ns_i11, ns_i12, ns_i13, ns_i20, ns_i23, ns_i24, ns_i31, ns_i50, ns_i60, ns_i99, ns_i100, ns_i144, ns_i200, ns_i255, ns_i700, ns_i880, ns_i899, ns_i900, ns_i901, ns_i999, ns_i1000, ns_i1440, ns_i4095, ns_i1000000, hn, e3, e4, e5, es, eb]
    exact ⟨m, rfl, h⟩
  have eb : bu_ (nI k) 10 = nI 1 := bu_1 e5
  have c4 : ¬ (a = b ∨ 1000000 ≤ ner_ W a b ∨ 20 ≤ TR.length) := by omega
  have ep : TR.length + 1 - 1 = TR.length := by omega
  simp (disch := omega) only [↓reduceIte, ↓ns_m1, ns_let, ns_lef, ns_ltt, ns_ltf, ns_eqt, ns_eqf, ns_gd, nI_clamp, nI_add, pk_sub, pk_mul, ns_m1a, ns_m1b, ns_m1c, ns_m1d, ns_m1e, ns_m1f, ns_m1g, ns_un1, ns_un0, ns_day1, Option.bind_some, gi_si_self, gi_si_ne, gl_si, gi_sl, gl_sl_self, gl_sl_ne, if_true, if_false, ns_i0, ns_i1, ns_i2, ns_i3, ns_i4, ns_i5, ns_i6, ns_i7, ns_i8, ns_i9, ns_i10, ns_i11, ns_i12, ns_i13, ns_i20, ns_i23, ns_i24, ns_i31, ns_i50, ns_i60, ns_i99, ns_i100, ns_i144, ns_i200, ns_i255, ns_i700, ns_i880, ns_i899, ns_i900, ns_i901, ns_i999, ns_i1000, ns_i1440, ns_i4095, ns_i1000000, hn, e3, e4, e5, es, eb, h.1, c4, ep]
  refine ⟨_, rfl, ?_, fun j q hj => ?_⟩
  · simp (disch := omega) only [↓reduceIte, ↓ns_m1, ns_let, ns_lef, ns_ltt, ns_ltf, ns_eqt, ns_eqf, ns_gd, nI_clamp, nI_add, pk_sub, pk_mul, ns_m1a, ns_m1b, ns_m1c, ns_m1d, ns_m1e, ns_m1f, ns_m1g, ns_un1, ns_un0, ns_day1, Option.bind_some, gi_si_self, gi_si_ne, gl_si, gi_sl, gl_sl_self, gl_sl_ne, if_true, if_false, ns_i0, ns_i1, ns_i2, ns_i3, ns_i4, ns_i5, ns_i6, ns_i7, ns_i8, ns_i9, ns_i10, ns_i11, ns_i12, ns_i13, ns_i20, ns_i23, ns_i24, ns_i31, ns_i50, ns_i60, ns_i99, ns_i100, ns_i144, ns_i200, ns_i255, ns_i700, ns_i880, ns_i899, ns_i900, ns_i901, ns_i999, ns_i1000, ns_i1440, ns_i4095, ns_i1000000]
    rw [List.length_append]
    rfl
  · rcases ap_get hj with ⟨q1, q2⟩ | ⟨q1, q2⟩
    · have := h.2 j q q2
      simp (disch := omega) only [↓reduceIte, ↓ns_m1, ns_let, ns_lef, ns_ltt, ns_ltf, ns_eqt, ns_eqf, ns_gd, nI_clamp, nI_add, pk_sub, pk_mul, ns_m1a, ns_m1b, ns_m1c, ns_m1d, ns_m1e, ns_m1f, ns_m1g, ns_un1, ns_un0, ns_day1, Option.bind_some, gi_si_self, gi_si_ne, gl_si, gi_sl, gl_sl_self, gl_sl_ne, if_true, if_false, ns_i0, ns_i1, ns_i2, ns_i3, ns_i4, ns_i5, ns_i6, ns_i7, ns_i8, ns_i9, ns_i10, ns_i11, ns_i12, ns_i13, ns_i20, ns_i23, ns_i24, ns_i31, ns_i50, ns_i60, ns_i99, ns_i100, ns_i144, ns_i200, ns_i255, ns_i700, ns_i880, ns_i899, ns_i900, ns_i901, ns_i999, ns_i1000, ns_i1440, ns_i4095, ns_i1000000]
      exact this
    · subst q1
      subst q2
      simp (disch := omega) only [↓reduceIte, ↓ns_m1, ns_let, ns_lef, ns_ltt, ns_ltf, ns_eqt, ns_eqf, ns_gd, nI_clamp, nI_add, pk_sub, pk_mul, ns_m1a, ns_m1b, ns_m1c, ns_m1d, ns_m1e, ns_m1f, ns_m1g, ns_un1, ns_un0, ns_day1, Option.bind_some, gi_si_self, gi_si_ne, gl_si, gi_sl, gl_sl_self, gl_sl_ne, if_true, if_false, ns_i0, ns_i1, ns_i2, ns_i3, ns_i4, ns_i5, ns_i6, ns_i7, ns_i8, ns_i9, ns_i10, ns_i11, ns_i12, ns_i13, ns_i20, ns_i23, ns_i24, ns_i31, ns_i50, ns_i60, ns_i99, ns_i100, ns_i144, ns_i200, ns_i255, ns_i700, ns_i880, ns_i899, ns_i900, ns_i901, ns_i999, ns_i1000, ns_i1440, ns_i4095, ns_i1000000, and_self]
