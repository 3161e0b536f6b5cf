/-! ===== where new cameras see most, the reference ===== -/
def tch_ (W : List (Nat × Nat × Nat)) (z : Nat) (O : List od_) (TR : tp_) (d n : Nat) (m : fm_) : Prop := ∀ j q, j < n → TR[j]? = some q → gi_ m 167 j = nI (mk1_ W z O q d true)
theorem dwm_si {W : List (Nat × Nat × Nat)} {z : Nat} {O : List od_} {TR : tp_} {m : fm_} (h : dwm_ W z O TR m) {a k : Nat} {x : Int32} (ha : a = 167 ∨ (a = 106 ∧ 88 ≤ k)) : dwm_ W z O TR (si_ m a k x) := by
  refine dwm_ag h fun b j hb => ⟨gi_si_ne ?_, gl_si⟩
  intro q
  obtain ⟨q1, q2⟩ := q
  subst q1
  subst q2
  obtain ⟨p, hp, h1, h2, h3⟩ := wi_mem.mp hb
  unfold dwmd_ at hp
  simp only [List.mem_cons, List.not_mem_nil, or_false] at hp
  rcases hp with hp | hp | hp | hp | hp | hp | hp | hp | hp <;> subst hp <;> simp only at h1 h2 h3 <;> omega
theorem look97_ {W : List (Nat × Nat × Nat)} {z : Nat} {O : List od_} {TR : tp_} (hk : dwok_ W z O TR) {cp d s : Nat} (hcp : cp < 4096) (hs : s < 4096) {m : fm_} (hm : dwm_ W z O TR m) (hc : gi_ m 106 32 = nI cp) (hu : tch_ W z O TR d TR.length m) {x1 x2 : Int32} : f_X12_look_97 x1 x2 (nI s) (nI 0) (nI 0) m = f_X12_look_97 x1 x2 (nI s) (nI (scs_ W z O TR cp d s TR.length)) (nI TR.length) m := by
  have hl := hk.2.2.2.1
  obtain ⟨x, e, hx⟩ := lp0_ (n := TR.length) (F := fun i x => f_X12_look_97 x1 x2 (nI s) x (nI i) m) (I := fun i x => x = nI (scs_ W z O TR cp d s i)) (fun i x hi hx => by
    have hx : x = nI (scs_ W z O TR cp d s i) := hx
    subst hx
    have hq := List.getElem?_eq_getElem hi
    generalize TR[i] = q at hq
    have hv := hk.2.2.2.2 q (List.mem_of_getElem? hq)
    have l1 : mk1_ W z O q d true < 4096 := mk1_lt hv.1
    have g1 := hu i q hi hq
    have gc := (hm.2.2.2.2.2 i q hq).2.2.1
    have n1 : nI (mk1_ W z O q d true) &&& nI s = nI (mk1_ W z O q d true &&& s) := nI_and (by omega) (by omega)
    have a1 : mk1_ W z O q d true &&& s < 4096 := and_lt l1
    have n2 : nI (mk1_ W z O q d true) &&& nI cp = nI (mk1_ W z O q d true &&& cp) := nI_and (by omega) (by omega)
    have a2 : mk1_ W z O q d true &&& cp < 4096 := and_lt l1
    show ∃ s', f_X12_look_97 x1 x2 (nI s) (nI (scs_ W z O TR cp d s i)) (nI i) m = f_X12_look_97 x1 x2 (nI s) s' (nI (i + 1)) m ∧ s' = nI (scs_ W z O TR cp d s (i + 1))
    rw [e_X12_look_97, scs_s hq]
    unfold sc1_
    by_cases c1 : mk1_ W z O q d true &&& cp = 0
    · by_cases c2 : mk1_ W z O q d true &&& s = 0
      · simp (disch := omega) only [↓reduceIte, ↓ns_m1, ns_let, ns_lef, ns_ltt, ns_ltf, ns_eqt, ns_eqf, ns_gd, nI_clamp, nI_add, pk_sub, pk_mul, ns_m1a, ns_m1b, ns_m1c, ns_m1d, ns_m1e, ns_m1f, ns_m1g, ns_un1, ns_un0, ns_day1, Option.bind_some, gi_si_self, gi_si_ne, gl_si, gi_sl, gl_sl_self, gl_sl_ne, if_true, if_false, ns_i0, ns_i1, ns_i2, ns_i3, ns_i4, ns_i5, ns_i6, ns_i7, ns_i8, ns_i9, ns_i10, ns_i11, ns_i12, ns_i13, ns_i20, ns_i23, ns_i24, ns_i31, ns_i50, ns_i60, ns_i99, ns_i100, ns_i144, ns_i200, ns_i255, ns_i700, ns_i880, ns_i899, ns_i900, ns_i901, ns_i999, ns_i1000, ns_i1440, ns_i4095, ns_i1000000, hm.2.2.2.2.1, g1, hc, n1, n2, c1, c2]
        exact ⟨_, rfl, rfl⟩
      · simp (disch := omega) only [↓reduceIte, ↓ns_m1, ns_let, ns_lef, ns_ltt, ns_ltf, ns_eqt, ns_eqf, ns_gd, nI_clamp, nI_add, pk_sub, pk_mul, ns_m1a, ns_m1b, ns_m1c, ns_m1d, ns_m1e, ns_m1f, ns_m1g, ns_un1, ns_un0, ns_day1, Option.bind_some, gi_si_self, gi_si_ne, gl_si, gi_sl, gl_sl_self, gl_sl_ne, if_true, if_false, ns_i0, ns_i1, ns_i2, ns_i3, ns_i4, ns_i5, ns_i6, ns_i7, ns_i8, ns_i9, ns_i10, ns_i11, ns_i12, ns_i13, ns_i20, ns_i23, ns_i24, ns_i31, ns_i50, ns_i60, ns_i99, ns_i100, ns_i144, ns_i200, ns_i255, ns_i700, ns_i880, ns_i899, ns_i900, ns_i901, ns_i999, ns_i1000, ns_i1440, ns_i4095, ns_i1000000, hm.2.2.2.2.1, g1, hc, n1, n2, c1, c2, gc]
        exact ⟨_, rfl, rfl⟩
    · simp (disch := omega) only [↓reduceIte, ↓ns_m1, ns_let, ns_lef, ns_ltt, ns_ltf, ns_eqt, ns_eqf, ns_gd, nI_clamp, nI_add, pk_sub, pk_mul, ns_m1a, ns_m1b, ns_m1c, ns_m1d, ns_m1e, ns_m1f, ns_m1g, ns_un1, ns_un0, ns_day1, Option.bind_some, gi_si_self, gi_si_ne, gl_si, gi_sl, gl_sl_self, gl_sl_ne, if_true, if_false, ns_i0, ns_i1, ns_i2, ns_i3, ns_i4, ns_i5, ns_i6, ns_i7, ns_i8, ns_i9, ns_i10, ns_i11, ns_i12, ns_i13, ns_i20, ns_i23, ns_i24, ns_i31, ns_i50, ns_i60, ns_i99, ns_i100, ns_i144, ns_i200, ns_i255, ns_i700, ns_i880, ns_i899, ns_i900, ns_i901, ns_i999, ns_i1000, ns_i1440, ns_i4095, ns_i1000000, hm.2.2.2.2.1, g1, hc, n1, n2, c1]
      exact ⟨_, rfl, rfl⟩) (s := nI 0) rfl
  have hx : x = nI (scs_ W z O TR cp d s TR.length) := hx
  have e : f_X12_look_97 x1 x2 (nI s) (nI 0) (nI 0) m = f_X12_look_97 x1 x2 (nI s) x (nI TR.length) m := e
  rw [e, hx]
theorem lk3_ {W : List (Nat × Nat × Nat)} {z : Nat} {O : List od_} {TR : tp_} (hk : dwok_ W z O TR) {cp d k : Nat} (hcp : cp < 4096) (hd : d < 100) (hk4 : k < 4) {m : fm_} (hm : dwm_ W z O TR m) (hc : gi_ m 106 32 = nI cp) {nn : Nat} (hnn : 4095 = nn) : ∃ m1, f_X12_look (nI d) (nI k) m = some (1, m1) ∧ gi_ m1 106 97 = nI (vw_ k cp (fun s => scs_ W z O TR cp d s TR.length) nn).1 ∧ gi_ m1 106 98 = nI (vw_ k cp (fun s => scs_ W z O TR cp d s TR.length) nn).2 ∧ dwm_ W z O TR m1 ∧ gi_ m1 106 32 = nI cp := by
  have hl := hk.2.2.2.1
  obtain ⟨m1, e1, w1, c1, u1⟩ := lp0_ (n := TR.length) (F := fun i m => f_X12_look_20 (nI d) (nI k) (nI i) m) (I := fun i m => dwm_ W z O TR m ∧ gi_ m 106 32 = nI cp ∧ tch_ W z O TR d i m) (fun i m0 hi hI => by
    obtain ⟨i1, i2, i3⟩ := hI
    have hq := List.getElem?_eq_getElem hi
    generalize TR[i] = q at hq
    have hv := hk.2.2.2.2 q (List.mem_of_getElem? hq)
    obtain ⟨m2, e2, r2, w2⟩ := go_ hk i1 hq hd true
    have f2 := fr_X12_go e2
    have e2 : f_X12_go (nI i) (nI d) (nI 1) m0 = some (1, m2) := e2
    have b2 := rtl_12 (W := W) (z := z) (O := O) (d := d) (b := true) hv.1
    have g2 : f_X12_gone m2 = some (nI (mk1_ W z O q d true), m2) := gone_ r2 b2.1 b2.2
    have c2 : gi_ m2 106 32 = nI cp := (sa_gi f2 (by rfl)).trans i2
    have u2 : tch_ W z O TR d i m2 := fun j r hj hr => (sa_gi f2 (by rfl)).trans (i3 j r hj hr)
    show ∃ s', f_X12_look_20 (nI d) (nI k) (nI i) m0 = f_X12_look_20 (nI d) (nI k) (nI (i + 1)) s' ∧ _
    rw [e_X12_look_20]
    simp (disch := omega) only [↓reduceIte, ↓ns_m1, ns_let, ns_lef, ns_ltt, ns_ltf, ns_eqt, ns_eqf, ns_gd, nI_clamp, nI_add, pk_sub, pk_mul, ns_m1a, ns_m1b, ns_m1c, ns_m1d, ns_m1e, ns_m1f, ns_m1g, ns_un1, ns_un0, ns_day1, Option.bind_some, gi_si_self, gi_si_ne, gl_si, gi_sl, gl_sl_self, gl_sl_ne, if_true, if_false, ns_i0, ns_i1, ns_i2, ns_i3, ns_i4, ns_i5, ns_i6, ns_i7, ns_i8, ns_i9, ns_i10, ns_i11, ns_i12, ns_i13, ns_i20, ns_i23, ns_i24, ns_i31, ns_i50, ns_i60, ns_i99, ns_i100, ns_i144, ns_i200, ns_i255, ns_i700, ns_i880, ns_i899, ns_i900, ns_i901, ns_i999, ns_i1000, ns_i1440, ns_i4095, ns_i1000000, i1.2.2.2.2.1, e2, g2]
    refine ⟨_, rfl, dwm_si w2 (Or.inl rfl), (gi_si_ne (by omega)).trans c2, fun j r hj hr => ?_⟩
    by_cases ej : j = i
    · rw [ej] at hr ⊢
      rw [hr] at hq
      cases hq
      rw [gi_si_self]
    · rw [gi_si_ne (by omega)]
      exact u2 j r (by omega) hr) (s := m) ⟨hm, hc, fun j r hj _ => absurd hj (Nat.not_lt_zero _)⟩
  have e1 : f_X12_look_20 (nI d) (nI k) (nI 0) m = f_X12_look_20 (nI d) (nI k) (nI TR.length) m1 := e1
  have hsc : ∀ s, (fun s => scs_ W z O TR cp d s TR.length) s ≤ 1980 := fun s => by
    have := scs_b (O := O) hk.2.2.2 (z := z) (cp := cp) (d := d) (s := s) TR.length
    show scs_ W z O TR cp d s TR.length ≤ 1980
    omega
  generalize hsq : (fun s => scs_ W z O TR cp d s TR.length) = sc at hsc ⊢
  obtain ⟨m2, e2, h2⟩ := lp0_ (n := nn) (F := fun i m => f_X12_look_64 (nI d) (nI k) (nI (i + 1)) m) (I := fun i m => dwm_ W z O TR m ∧ gi_ m 106 32 = nI cp ∧ tch_ W z O TR d TR.length m ∧ gi_ m 106 97 = nI (vw_ k cp sc i).1 ∧ gi_ m 106 98 = nI (vw_ k cp sc i).2) (fun i m0 hi hI => by
    obtain ⟨i1, i2, i3, i4, i5⟩ := hI
    have hb := vw_b (k := k) (cp := cp) hsc i
    have me : f_X12_look_97 (nI d) (nI k) (nI (i + 1)) (nI 0) (nI 0) m0 = f_X12_look_97 (nI d) (nI k) (nI (i + 1)) (nI (sc (i + 1))) (nI TR.length) m0 := by
      rw [← hsq]
      exact look97_ hk hcp (by omega) i1 i2 i3
    have b1 := bits_m (s := i + 1) (by omega) m0
    have b2 := bits_m (s := (vw_ k cp sc i).1) (by omega) m0
    have p1 := pop_b (i + 1)
    have p2 := pop_b (vw_ k cp sc i).1
    have s1 := hsc (i + 1)
    have n1 : nI (i + 1) &&& nI cp = nI (i + 1 &&& cp) := nI_and (by omega) (by omega)
    have a1 : i + 1 &&& cp < 4096 := and_lt (by omega)
    have fin : ∀ s n : Nat, dwm_ W z O TR (si_ (si_ m0 106 97 (nI s)) 106 98 (nI n)) ∧ gi_ (si_ (si_ m0 106 97 (nI s)) 106 98 (nI n)) 106 32 = nI cp ∧ tch_ W z O TR d TR.length (si_ (si_ m0 106 97 (nI s)) 106 98 (nI n)) ∧ gi_ (si_ (si_ m0 106 97 (nI s)) 106 98 (nI n)) 106 97 = nI s ∧ gi_ (si_ (si_ m0 106 97 (nI s)) 106 98 (nI n)) 106 98 = nI n := fun s n =>
      ⟨dwm_si (dwm_si i1 (Or.inr ⟨rfl, by omega⟩)) (Or.inr ⟨rfl, by omega⟩), (gi_si_ne (by omega)).trans ((gi_si_ne (by omega)).trans i2), fun j r hj hr => (gi_si_ne (by omega)).trans ((gi_si_ne (by omega)).trans (i3 j r hj hr)), (gi_si_ne (by omega)).trans gi_si_self, gi_si_self⟩
    show ∃ s', f_X12_look_64 (nI d) (nI k) (nI (i + 1)) m0 = f_X12_look_64 (nI d) (nI k) (nI (i + 1 + 1)) s' ∧ dwm_ W z O TR s' ∧ gi_ s' 106 32 = nI cp ∧ tch_ W z O TR d TR.length s' ∧ gi_ s' 106 97 = nI (vs_ k cp sc (i + 1) (vw_ k cp sc i)).1 ∧ gi_ s' 106 98 = nI (vs_ k cp sc (i + 1) (vw_ k cp sc i)).2
    generalize vw_ k cp sc i = st at hb i4 i5 b2 p2 ⊢
    rw [e_X12_look_64, show (4096 : Int32) = nI 4096 from rfl]
    unfold vs_
    by_cases c2 : i + 1 &&& cp = 0
    · by_cases c1 : k < pop_ (i + 1)
      · rw [if_pos c1]
        simp (disch := omega) only [↓reduceIte, ↓ns_m1, ns_let, ns_lef, ns_ltt, ns_ltf, ns_eqt, ns_eqf, ns_gd, nI_clamp, nI_add, pk_sub, pk_mul, ns_m1a, ns_m1b, ns_m1c, ns_m1d, ns_m1e, ns_m1f, ns_m1g, ns_un1, ns_un0, ns_day1, Option.bind_some, gi_si_self, gi_si_ne, gl_si, gi_sl, gl_sl_self, gl_sl_ne, if_true, if_false, ns_i0, ns_i1, ns_i2, ns_i3, ns_i4, ns_i5, ns_i6, ns_i7, ns_i8, ns_i9, ns_i10, ns_i11, ns_i12, ns_i13, ns_i20, ns_i23, ns_i24, ns_i31, ns_i50, ns_i60, ns_i99, ns_i100, ns_i144, ns_i200, ns_i255, ns_i700, ns_i880, ns_i899, ns_i900, ns_i901, ns_i999, ns_i1000, ns_i1440, ns_i4095, ns_i1000000, i2, n1, c2, b1]
        exact ⟨_, rfl, i1, i2, i3, i4, i5⟩
      · rw [if_neg c1, if_pos c2]
        simp (disch := omega) only [↓reduceIte, ↓ns_m1, ns_let, ns_lef, ns_ltt, ns_ltf, ns_eqt, ns_eqf, ns_gd, nI_clamp, nI_add, pk_sub, pk_mul, ns_m1a, ns_m1b, ns_m1c, ns_m1d, ns_m1e, ns_m1f, ns_m1g, ns_un1, ns_un0, ns_day1, Option.bind_some, gi_si_self, gi_si_ne, gl_si, gi_sl, gl_sl_self, gl_sl_ne, if_true, if_false, ns_i0, ns_i1, ns_i2, ns_i3, ns_i4, ns_i5, ns_i6, ns_i7, ns_i8, ns_i9, ns_i10, ns_i11, ns_i12, ns_i13, ns_i20, ns_i23, ns_i24, ns_i31, ns_i50, ns_i60, ns_i99, ns_i100, ns_i144, ns_i200, ns_i255, ns_i700, ns_i880, ns_i899, ns_i900, ns_i901, ns_i999, ns_i1000, ns_i1440, ns_i4095, ns_i1000000, i2, n1, c2, b1, me]
        rw [e_X12_look_97]
        by_cases c3 : st.2 < sc (i + 1) ∨ (sc (i + 1) = st.2 ∧ pop_ (i + 1) < pop_ st.1)
        · rw [if_pos c3]
          by_cases c4 : st.2 < sc (i + 1)
          · simp (disch := omega) only [↓reduceIte, ↓ns_m1, ns_let, ns_lef, ns_ltt, ns_ltf, ns_eqt, ns_eqf, ns_gd, nI_clamp, nI_add, pk_sub, pk_mul, ns_m1a, ns_m1b, ns_m1c, ns_m1d, ns_m1e, ns_m1f, ns_m1g, ns_un1, ns_un0, ns_day1, Option.bind_some, gi_si_self, gi_si_ne, gl_si, gi_sl, gl_sl_self, gl_sl_ne, if_true, if_false, ns_i0, ns_i1, ns_i2, ns_i3, ns_i4, ns_i5, ns_i6, ns_i7, ns_i8, ns_i9, ns_i10, ns_i11, ns_i12, ns_i13, ns_i20, ns_i23, ns_i24, ns_i31, ns_i50, ns_i60, ns_i99, ns_i100, ns_i144, ns_i200, ns_i255, ns_i700, ns_i880, ns_i899, ns_i900, ns_i901, ns_i999, ns_i1000, ns_i1440, ns_i4095, ns_i1000000, i1.2.2.2.2.1, i4, i5]
            exact ⟨_, rfl, fin _ _⟩
          · simp (disch := omega) only [↓reduceIte, ↓ns_m1, ns_let, ns_lef, ns_ltt, ns_ltf, ns_eqt, ns_eqf, ns_gd, nI_clamp, nI_add, pk_sub, pk_mul, ns_m1a, ns_m1b, ns_m1c, ns_m1d, ns_m1e, ns_m1f, ns_m1g, ns_un1, ns_un0, ns_day1, Option.bind_some, gi_si_self, gi_si_ne, gl_si, gi_sl, gl_sl_self, gl_sl_ne, if_true, if_false, ns_i0, ns_i1, ns_i2, ns_i3, ns_i4, ns_i5, ns_i6, ns_i7, ns_i8, ns_i9, ns_i10, ns_i11, ns_i12, ns_i13, ns_i20, ns_i23, ns_i24, ns_i31, ns_i50, ns_i60, ns_i99, ns_i100, ns_i144, ns_i200, ns_i255, ns_i700, ns_i880, ns_i899, ns_i900, ns_i901, ns_i999, ns_i1000, ns_i1440, ns_i4095, ns_i1000000, i1.2.2.2.2.1, i4, i5, b1, b2]
            exact ⟨_, rfl, fin _ _⟩
        · rw [if_neg c3]
          by_cases c6 : sc (i + 1) = st.2
          · simp (disch := omega) only [↓reduceIte, ↓ns_m1, ns_let, ns_lef, ns_ltt, ns_ltf, ns_eqt, ns_eqf, ns_gd, nI_clamp, nI_add, pk_sub, pk_mul, ns_m1a, ns_m1b, ns_m1c, ns_m1d, ns_m1e, ns_m1f, ns_m1g, ns_un1, ns_un0, ns_day1, Option.bind_some, gi_si_self, gi_si_ne, gl_si, gi_sl, gl_sl_self, gl_sl_ne, if_true, if_false, ns_i0, ns_i1, ns_i2, ns_i3, ns_i4, ns_i5, ns_i6, ns_i7, ns_i8, ns_i9, ns_i10, ns_i11, ns_i12, ns_i13, ns_i20, ns_i23, ns_i24, ns_i31, ns_i50, ns_i60, ns_i99, ns_i100, ns_i144, ns_i200, ns_i255, ns_i700, ns_i880, ns_i899, ns_i900, ns_i901, ns_i999, ns_i1000, ns_i1440, ns_i4095, ns_i1000000, i1.2.2.2.2.1, i4, i5, b1, b2]
            exact ⟨_, rfl, i1, i2, i3, i4, i5⟩
          · simp (disch := omega) only [↓reduceIte, ↓ns_m1, ns_let, ns_lef, ns_ltt, ns_ltf, ns_eqt, ns_eqf, ns_gd, nI_clamp, nI_add, pk_sub, pk_mul, ns_m1a, ns_m1b, ns_m1c, ns_m1d, ns_m1e, ns_m1f, ns_m1g, ns_un1, ns_un0, ns_day1, Option.bind_some, gi_si_self, gi_si_ne, gl_si, gi_sl, gl_sl_self, gl_sl_ne, if_true, if_false, ns_i0, ns_i1, ns_i2, ns_i3, ns_i4, ns_i5, ns_i6, ns_i7, ns_i8, ns_i9, ns_i10, ns_i11, ns_i12, ns_i13, ns_i20, ns_i23, ns_i24, ns_i31, ns_i50, ns_i60, ns_i99, ns_i100, ns_i144, ns_i200, ns_i255, ns_i700, ns_i880, ns_i899, ns_i900, ns_i901, ns_i999, ns_i1000, ns_i1440, ns_i4095, ns_i1000000, i1.2.2.2.2.1, i4, i5]
            exact ⟨_, rfl, i1, i2, i3, i4, i5⟩
    · have hn : (if k < pop_ (i + 1) then st else if i + 1 &&& cp = 0 then (if st.2 < sc (i + 1) ∨ (sc (i + 1) = st.2 ∧ pop_ (i + 1) < pop_ st.1) then (i + 1, sc (i + 1)) else st) else st) = st := by
        rw [if_neg c2]
        by_cases c1 : k < pop_ (i + 1)
        · rw [if_pos c1]
        · rw [if_neg c1]
      rw [hn]
      simp (disch := omega) only [↓reduceIte, ↓ns_m1, ns_let, ns_lef, ns_ltt, ns_ltf, ns_eqt, ns_eqf, ns_gd, nI_clamp, nI_add, pk_sub, pk_mul, ns_m1a, ns_m1b, ns_m1c, ns_m1d, ns_m1e, ns_m1f, ns_m1g, ns_un1, ns_un0, ns_day1, Option.bind_some, gi_si_self, gi_si_ne, gl_si, gi_sl, gl_sl_self, gl_sl_ne, if_true, if_false, ns_i0, ns_i1, ns_i2, ns_i3, ns_i4, ns_i5, ns_i6, ns_i7, ns_i8, ns_i9, ns_i10, ns_i11, ns_i12, ns_i13, ns_i20, ns_i23, ns_i24, ns_i31, ns_i50, ns_i60, ns_i99, ns_i100, ns_i144, ns_i200, ns_i255, ns_i700, ns_i880, ns_i899, ns_i900, ns_i901, ns_i999, ns_i1000, ns_i1440, ns_i4095, ns_i1000000, i2, n1]
      exact ⟨_, rfl, i1, i2, i3, i4, i5⟩) (s := si_ (si_ m1 106 97 (nI 0)) 106 98 (nI 0)) ⟨dwm_si (dwm_si w1 (Or.inr ⟨rfl, by omega⟩)) (Or.inr ⟨rfl, by omega⟩), (gi_si_ne (by omega)).trans ((gi_si_ne (by omega)).trans c1), fun j r hj hr => (gi_si_ne (by omega)).trans ((gi_si_ne (by omega)).trans (u1 j r hj hr)), (gi_si_ne (by omega)).trans gi_si_self, gi_si_self⟩
  have e2 : f_X12_look_64 (nI d) (nI k) (nI 1) (si_ (si_ m1 106 97 (nI 0)) 106 98 (nI 0)) = f_X12_look_64 (nI d) (nI k) (nI (nn + 1)) m2 := e2
  refine ⟨m2, ?_, h2.2.2.2.1, h2.2.2.2.2, h2.1, h2.2.1⟩
  unfold f_X12_look
  simp (disch := omega) only [↓reduceIte, ↓ns_m1, ns_let, ns_lef, ns_ltt, ns_ltf, ns_eqt, ns_eqf, ns_gd, nI_clamp, nI_add, pk_sub, pk_mul, ns_m1a, ns_m1b, ns_m1c, ns_m1d, ns_m1e, ns_m1f, ns_m1g, ns_un1, ns_un0, ns_day1, Option.bind_some, gi_si_self, gi_si_ne, gl_si, gi_sl, gl_sl_self, gl_sl_ne, if_true, if_false, ns_i0, ns_i1, ns_i2, ns_i3, ns_i4, ns_i5, ns_i6, ns_i7, ns_i8, ns_i9, ns_i10, ns_i11, ns_i12, ns_i13, ns_i20, ns_i23, ns_i24, ns_i31, ns_i50, ns_i60, ns_i99, ns_i100, ns_i144, ns_i200, ns_i255, ns_i700, ns_i880, ns_i899, ns_i900, ns_i901, ns_i999, ns_i1000, ns_i1440, ns_i4095, ns_i1000000, ns_day2]
  rw [e1, e_X12_look_20]
  simp (disch := omega) only [↓reduceIte, ↓ns_m1, ns_let, ns_lef, ns_ltt, ns_ltf, ns_eqt, ns_eqf, ns_gd, nI_clamp, nI_add, pk_sub, pk_mul, ns_m1a, ns_m1b, ns_m1c, ns_m1d, ns_m1e, ns_m1f, ns_m1g, ns_un1, ns_un0, ns_day1, Option.bind_some, gi_si_self, gi_si_ne, gl_si, gi_sl, gl_sl_self, gl_sl_ne, if_true, if_false, ns_i0, ns_i1, ns_i2, ns_i3, ns_i4, ns_i5, ns_i6, ns_i7, ns_i8, ns_i9, ns_i10, ns_i11, ns_i12, ns_i13, ns_i20, ns_i23, ns_i24, ns_i31, ns_i50, ns_i60, ns_i99, ns_i100, ns_i144, ns_i200, ns_i255, ns_i700, ns_i880, ns_i899, ns_i900, ns_i901, ns_i999, ns_i1000, ns_i1440, ns_i4095, ns_i1000000, w1.2.2.2.2.1, e2]
  rw [e_X12_look_64]
  have l4 : (4096 : Int32) ≤ nI (nn + 1) := nI_le (a := 4096) (by omega) (by omega)
  rw [if_pos l4]
  rfl
theorem look_m {W : List (Nat × Nat × Nat)} {z : Nat} {O : List od_} {TR : tp_} (hk : dwok_ W z O TR) {cp d k : Nat} (hcp : cp < 4096) (hd : d < 100) (hk4 : k < 4) {m : fm_} (hm : dwm_ W z O TR m) (hc : gi_ m 106 32 = nI cp) : ∃ m1, f_X12_look (nI d) (nI k) m = some (1, m1) ∧ gi_ m1 106 97 = nI (vwa_ k cp (fun s => scs_ W z O TR cp d s TR.length)).1 ∧ gi_ m1 106 98 = nI (vwa_ k cp (fun s => scs_ W z O TR cp d s TR.length)).2 ∧ dwm_ W z O TR m1 ∧ gi_ m1 106 32 = nI cp := by
  obtain ⟨nn, hnn⟩ : ∃ nn : Nat, 4095 = nn := ⟨_, rfl⟩
  have := lk3_ hk hcp hd hk4 hm hc hnn
  rw [vwa_e hnn] at this
  exact this
theorem look_no {x1 x2 : Int32} {m : fm_} (h : nat_ x1 100 = none ∨ nat_ x2 4 = none) : f_X12_look x1 x2 m = some (0, m) := by
  unfold f_X12_look
  rcases nat_ix x1 (n := 100) (by omega) with ⟨e, _⟩ | ⟨d, hd, rfl, e, -⟩
  · simp (disch := omega) only [↓reduceIte, ↓ns_m1, ns_let, ns_lef, ns_ltt, ns_ltf, ns_eqt, ns_eqf, ns_gd, nI_clamp, nI_add, pk_sub, pk_mul, ns_m1a, ns_m1b, ns_m1c, ns_m1d, ns_m1e, ns_m1f, ns_m1g, ns_un1, ns_un0, ns_day1, Option.bind_some, gi_si_self, gi_si_ne, gl_si, gi_sl, gl_sl_self, gl_sl_ne, if_true, if_false, ns_i0, ns_i1, ns_i2, ns_i3, ns_i4, ns_i5, ns_i6, ns_i7, ns_i8, ns_i9, ns_i10, ns_i11, ns_i12, ns_i13, ns_i20, ns_i23, ns_i24, ns_i31, ns_i50, ns_i60, ns_i99, ns_i100, ns_i144, ns_i200, ns_i255, ns_i700, ns_i880, ns_i899, ns_i900, ns_i901, ns_i999, ns_i1000, ns_i1440, ns_i4095, ns_i1000000, day0m e]
  · rcases h with h | h
    · rw [h] at e; cases e
    · rcases nat_ix x2 (n := 4) (by omega) with ⟨e2, q | ⟨q, q2⟩⟩ | ⟨k, hk, rfl, e2, -⟩
      · rw [ns_day2 hd]
        simp only [Option.bind_some, if_pos q]
        rfl
      · have n3 : ¬ x2 ≤ 3 := by
          rw [Int32.le_iff_toInt_le, nI_toInt (by omega)] at q2
          rw [Int32.le_iff_toInt_le, show (3 : Int32).toInt = 3 from rfl]
          omega
        rw [ns_day2 hd]
        simp only [Option.bind_some, if_neg q, if_neg n3]
        rfl
      · rw [h] at e2; cases e2
theorem view_m {W : List (Nat × Nat × Nat)} {z : Nat} {O : List od_} {TR : tp_} (hk : dwok_ W z O TR) {cp : Nat} (hcp : cp < 4096) {m : fm_} (hm : dwm_ W z O TR m) (hc : gi_ m 106 32 = nI cp) (x1 x2 : Int32) : ∃ m1, f_X12_view x1 x2 m = some (svw_ W z O TR cp x1 x2 true, m1) ∧ dwm_ W z O TR m1 ∧ gi_ m1 106 32 = nI cp := by
  unfold f_X12_view svw_
  rcases nat_ix x1 (n := 100) (by omega) with ⟨e, _⟩ | ⟨d, hd, rfl, e, -⟩
  · rw [e, look_no (Or.inl e)]
    exact ⟨m, rfl, hm, hc⟩
  rcases nat_ix x2 (n := 4) (by omega) with ⟨e2, _⟩ | ⟨k, hk4, rfl, e2, -⟩
  · rw [e, e2, look_no (Or.inr e2)]
    exact ⟨m, rfl, hm, hc⟩
  obtain ⟨m1, e1, h1, h2, h3, h4⟩ := look_m hk hcp hd hk4 hm hc
  rw [e, e2]
  simp (disch := omega) only [↓reduceIte, ↓ns_m1, ns_let, ns_lef, ns_ltt, ns_ltf, ns_eqt, ns_eqf, ns_gd, nI_clamp, nI_add, pk_sub, pk_mul, ns_m1a, ns_m1b, ns_m1c, ns_m1d, ns_m1e, ns_m1f, ns_m1g, ns_un1, ns_un0, ns_day1, Option.bind_some, gi_si_self, gi_si_ne, gl_si, gi_sl, gl_sl_self, gl_sl_ne, if_true, if_false, ns_i0, ns_i1, ns_i2, ns_i3, ns_i4, ns_i5, ns_i6, ns_i7, ns_i8, ns_i9, ns_i10, ns_i11, ns_i12, ns_i13, ns_i20, ns_i23, ns_i24, ns_i31, ns_i50, ns_i60, ns_i99, ns_i100, ns_i144, ns_i200, ns_i255, ns_i700, ns_i880, ns_i899, ns_i900, ns_i901, ns_i999, ns_i1000, ns_i1440, ns_i4095, ns_i1000000, e1, h1]
  exact ⟨_, rfl, h3, h4⟩
theorem seen_m {W : List (Nat × Nat × Nat)} {z : Nat} {O : List od_} {TR : tp_} (hk : dwok_ W z O TR) {cp : Nat} (hcp : cp < 4096) {m : fm_} (hm : dwm_ W z O TR m) (hc : gi_ m 106 32 = nI cp) (x1 x2 : Int32) : ∃ m1, f_X12_seen x1 x2 m = some (svw_ W z O TR cp x1 x2 false, m1) ∧ dwm_ W z O TR m1 ∧ gi_ m1 106 32 = nI cp := by
  have n0 : ¬ false = true := by decide
  unfold f_X12_seen svw_
  rcases nat_ix x1 (n := 100) (by omega) with ⟨e, _⟩ | ⟨d, hd, rfl, e, -⟩
  · rw [e, look_no (Or.inl e)]
    exact ⟨m, rfl, hm, hc⟩
  rcases nat_ix x2 (n := 4) (by omega) with ⟨e2, _⟩ | ⟨k, hk4, rfl, e2, -⟩
  · rw [e, e2, look_no (Or.inr e2)]
    exact ⟨m, rfl, hm, hc⟩
  obtain ⟨m1, e1, h1, h2, h3, h4⟩ := look_m hk hcp hd hk4 hm hc
  rw [e, e2]
  simp (disch := omega) only [↓reduceIte, ↓ns_m1, ns_let, ns_lef, ns_ltt, ns_ltf, ns_eqt, ns_eqf, ns_gd, nI_clamp, nI_add, pk_sub, pk_mul, ns_m1a, ns_m1b, ns_m1c, ns_m1d, ns_m1e, ns_m1f, ns_m1g, ns_un1, ns_un0, ns_day1, Option.bind_some, gi_si_self, gi_si_ne, gl_si, gi_sl, gl_sl_self, gl_sl_ne, if_true, if_false, ns_i0, ns_i1, ns_i2, ns_i3, ns_i4, ns_i5, ns_i6, ns_i7, ns_i8, ns_i9, ns_i10, ns_i11, ns_i12, ns_i13, ns_i20, ns_i23, ns_i24, ns_i31, ns_i50, ns_i60, ns_i99, ns_i100, ns_i144, ns_i200, ns_i255, ns_i700, ns_i880, ns_i899, ns_i900, ns_i901, ns_i999, ns_i1000, ns_i1440, ns_i4095, ns_i1000000, e1, h2, n0]
  exact ⟨_, rfl, h3, h4⟩
