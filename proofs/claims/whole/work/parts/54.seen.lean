/-! ===== where new cameras see most ===== -/
/-- cars of a trip that a set would meet -/
def sc1_ (W : List (Nat × Nat × Nat)) (z : Nat) (O : List od_) (cp d s : Nat) (q : Nat × Nat × Nat × Nat × Nat) : Nat := if mk1_ W z O q d true &&& cp = 0 then (if mk1_ W z O q d true &&& s = 0 then 0 else q.2.2.1) else 0
def scs_ (W : List (Nat × Nat × Nat)) (z : Nat) (O : List od_) (TR : tp_) (cp d s : Nat) : Nat → Nat
  | 0 => 0
  | n + 1 => match TR[n]? with
    | none => scs_ W z O TR cp d s n
    | some q => scs_ W z O TR cp d s n + sc1_ W z O cp d s q
theorem scs_s {W : List (Nat × Nat × Nat)} {z : Nat} {O : List od_} {TR : tp_} {cp d s n : Nat} {q : Nat × Nat × Nat × Nat × Nat} (h : TR[n]? = some q) : scs_ W z O TR cp d s (n + 1) = scs_ W z O TR cp d s n + sc1_ W z O cp d s q := by
  show (match TR[n]? with
    | none => scs_ W z O TR cp d s n
    | some q => scs_ W z O TR cp d s n + sc1_ W z O cp d s q) = _
  rw [h]
theorem scs_b {W : List (Nat × Nat × Nat)} {z : Nat} {O : List od_} {TR : tp_} (hT : tok_ W TR) {cp d s : Nat} : ∀ n, scs_ W z O TR cp d s n ≤ 99 * n
  | 0 => Nat.le_refl _
  | n + 1 => by
    have ih := scs_b (O := O) hT (z := z) (cp := cp) (d := d) (s := s) n
    cases e : TR[n]? with
    | none =>
      have : scs_ W z O TR cp d s (n + 1) = scs_ W z O TR cp d s n := by
        show (match TR[n]? with
          | none => scs_ W z O TR cp d s n
          | some q => scs_ W z O TR cp d s n + sc1_ W z O cp d s q) = _
        rw [e]
      omega
    | some q =>
      have hv := (hT.2 q (List.mem_of_getElem? e)).2.2.2.2.2.1
      rw [scs_s e]
      have : sc1_ W z O cp d s q ≤ 99 := by
        unfold sc1_
        by_cases c1 : mk1_ W z O q d true &&& cp = 0
        · rw [if_pos c1]
          by_cases c2 : mk1_ W z O q d true &&& s = 0
          · rw [if_pos c2]; omega
          · rw [if_neg c2]; exact hv
        · rw [if_neg c1]; omega
      omega
/-- one set more -/
def vs_ (k cp : Nat) (sc : Nat → Nat) (s : Nat) (st : Nat × Nat) : Nat × Nat := if k < pop_ s then st else if s &&& cp = 0 then (if st.2 < sc s ∨ (sc s = st.2 ∧ pop_ s < pop_ st.1) then (s, sc s) else st) else st
def vw_ (k cp : Nat) (sc : Nat → Nat) : Nat → Nat × Nat
  | 0 => (0, 0)
  | n + 1 => vs_ k cp sc (n + 1) (vw_ k cp sc n)
theorem vw_b {k cp : Nat} {sc : Nat → Nat} (hs : ∀ s, sc s ≤ 1980) : ∀ n, (vw_ k cp sc n).1 ≤ n ∧ (vw_ k cp sc n).2 ≤ 1980
  | 0 => ⟨Nat.le_refl _, Nat.zero_le _⟩
  | n + 1 => by
    have ih := vw_b (k := k) (cp := cp) hs n
    have h1 := hs (n + 1)
    show (vs_ k cp sc (n + 1) (vw_ k cp sc n)).1 ≤ n + 1 ∧ (vs_ k cp sc (n + 1) (vw_ k cp sc n)).2 ≤ 1980
    unfold vs_
    by_cases c1 : k < pop_ (n + 1)
    · rw [if_pos c1]; exact ⟨by omega, ih.2⟩
    · rw [if_neg c1]
      by_cases c2 : n + 1 &&& cp = 0
      · rw [if_pos c2]
        by_cases c3 : (vw_ k cp sc n).2 < sc (n + 1) ∨ (sc (n + 1) = (vw_ k cp sc n).2 ∧ pop_ (n + 1) < pop_ (vw_ k cp sc n).1)
        · rw [if_pos c3]; exact ⟨Nat.le_refl _, h1⟩
        · rw [if_neg c3]; exact ⟨by omega, ih.2⟩
      · rw [if_neg c2]; exact ⟨by omega, ih.2⟩
/-- what the class keeps while it looks: the points of routes that no camera sees -/
def us_ (W : List (Nat × Nat × Nat)) (z : Nat) (O : List od_) (TR : tp_) (cp d n : Nat) (m : fm_) : Prop := ∀ j q, j < n → TR[j]? = some q → gi_ m 105 j = nI (if mk1_ W z O q d true &&& cp = 0 then mk1_ W z O q d true else 0)
theorem dwc_si {W : List (Nat × Nat × Nat)} {z : Nat} {O : List od_} {TR : tp_} {m : fm_} (hO : O.length ≤ 6) (h : dwc_ W z O TR m) {a k : Nat} {x : Int32} (ha : a = 105 ∨ (a = 98 ∧ 9 ≤ k)) : dwc_ W z O TR (si_ m a k x) := by
  refine dwc_ag hO h fun b j hb => ⟨gi_si_ne ?_, gl_si⟩
  intro q
  obtain ⟨q1, q2⟩ := q
  subst q1
  subst q2
  obtain ⟨p, hp, h1, h2, h3⟩ := wi_mem.mp hb
  unfold dwd_ at hp
  simp only [List.mem_cons, List.not_mem_nil, or_false] at hp
  rcases hp with hp | hp | hp | hp | hp | hp | hp | hp <;> subst hp <;> simp only at h1 h2 h3 <;> omega
theorem meet_c {W : List (Nat × Nat × Nat)} {z : Nat} {O : List od_} {TR : tp_} (hk : dwok_ W z O TR) {cp d s : Nat} (hs : s < 4096) {m : fm_} (hm : dwc_ W z O TR m) (hu : us_ W z O TR cp d TR.length m) : f_X10_carsMeeting (nI s) m = some (nI (scs_ W z O TR cp d s TR.length), m) := by
  have hl := hk.2.2.2.1
  obtain ⟨x, e, hx⟩ := lp0_ (n := TR.length) (F := fun i x => f_X10_carsMeeting_4 (nI s) x (nI i) m) (I := fun i x => x = nI (scs_ W z O TR cp d s i)) (fun i x hi hx => by
    have hx : x = nI (scs_ W z O TR cp d s i) := hx
    subst hx
    have hq := List.getElem?_eq_getElem hi
    generalize TR[i] = q at hq
    have hv := hk.2.2.2.2 q (List.mem_of_getElem? hq)
    have l1 : mk1_ W z O q d true < 4096 := mk1_lt hv.1
    have g1 := hu i q hi hq
    have gc := (hm.2.2.2 i q hq).2.2.1
    show ∃ s', f_X10_carsMeeting_4 (nI s) (nI (scs_ W z O TR cp d s i)) (nI i) m = f_X10_carsMeeting_4 (nI s) s' (nI (i + 1)) m ∧ s' = nI (scs_ W z O TR cp d s (i + 1))
    rw [e_X10_carsMeeting_4, scs_s hq]
    unfold sc1_
    by_cases c1 : mk1_ W z O q d true &&& cp = 0
    · rw [if_pos c1] at g1
      have n1 : nI (mk1_ W z O q d true) &&& nI s = nI (mk1_ W z O q d true &&& s) := nI_and (by omega) (by omega)
      have a1 : mk1_ W z O q d true &&& s < 4096 := and_lt l1
      by_cases c2 : mk1_ W z O q d true &&& s = 0
      · simp (disch := omega) only [↓reduceIte, ↓ns_m1, ns_let, ns_lef, ns_ltt, ns_ltf, ns_eqt, ns_eqf, ns_gd, nI_clamp, nI_add, pk_sub, pk_mul, ns_m1a, ns_m1b, ns_m1c, ns_m1d, ns_m1e, ns_m1f, ns_m1g, ns_un1, ns_un0, ns_day1, Option.bind_some, gi_si_self, gi_si_ne, gl_si, gi_sl, gl_sl_self, gl_sl_ne, if_true, if_false, ns_i0, ns_i1, ns_i2, ns_i3, ns_i4, ns_i5, ns_i6, ns_i7, ns_i8, ns_i9, ns_i10, ns_i11, ns_i12, ns_i13, ns_i20, ns_i23, ns_i24, ns_i31, ns_i50, ns_i60, ns_i99, ns_i100, ns_i144, ns_i200, ns_i255, ns_i700, ns_i880, ns_i899, ns_i900, ns_i901, ns_i999, ns_i1000, ns_i1440, ns_i4095, ns_i1000000, hm.2.2.1, g1, n1, c1, c2, Nat.add_zero]
        exact ⟨_, rfl, rfl⟩
      · simp (disch := omega) only [↓reduceIte, ↓ns_m1, ns_let, ns_lef, ns_ltt, ns_ltf, ns_eqt, ns_eqf, ns_gd, nI_clamp, nI_add, pk_sub, pk_mul, ns_m1a, ns_m1b, ns_m1c, ns_m1d, ns_m1e, ns_m1f, ns_m1g, ns_un1, ns_un0, ns_day1, Option.bind_some, gi_si_self, gi_si_ne, gl_si, gi_sl, gl_sl_self, gl_sl_ne, if_true, if_false, ns_i0, ns_i1, ns_i2, ns_i3, ns_i4, ns_i5, ns_i6, ns_i7, ns_i8, ns_i9, ns_i10, ns_i11, ns_i12, ns_i13, ns_i20, ns_i23, ns_i24, ns_i31, ns_i50, ns_i60, ns_i99, ns_i100, ns_i144, ns_i200, ns_i255, ns_i700, ns_i880, ns_i899, ns_i900, ns_i901, ns_i999, ns_i1000, ns_i1440, ns_i4095, ns_i1000000, hm.2.2.1, g1, n1, c1, c2, gc]
        exact ⟨_, rfl, rfl⟩
    · rw [if_neg c1] at g1
      have n1 : nI 0 &&& nI s = nI 0 := by rw [nI_and (by omega) (by omega), Nat.zero_and]
      simp (disch := omega) only [↓reduceIte, ↓ns_m1, ns_let, ns_lef, ns_ltt, ns_ltf, ns_eqt, ns_eqf, ns_gd, nI_clamp, nI_add, pk_sub, pk_mul, ns_m1a, ns_m1b, ns_m1c, ns_m1d, ns_m1e, ns_m1f, ns_m1g, ns_un1, ns_un0, ns_day1, Option.bind_some, gi_si_self, gi_si_ne, gl_si, gi_sl, gl_sl_self, gl_sl_ne, if_true, if_false, ns_i0, ns_i1, ns_i2, ns_i3, ns_i4, ns_i5, ns_i6, ns_i7, ns_i8, ns_i9, ns_i10, ns_i11, ns_i12, ns_i13, ns_i20, ns_i23, ns_i24, ns_i31, ns_i50, ns_i60, ns_i99, ns_i100, ns_i144, ns_i200, ns_i255, ns_i700, ns_i880, ns_i899, ns_i900, ns_i901, ns_i999, ns_i1000, ns_i1440, ns_i4095, ns_i1000000, hm.2.2.1, g1, n1, c1, Nat.add_zero]
      exact ⟨_, rfl, rfl⟩) (s := nI 0) rfl
  have hx : x = nI (scs_ W z O TR cp d s TR.length) := hx
  have e : f_X10_carsMeeting_4 (nI s) (nI 0) (nI 0) m = f_X10_carsMeeting_4 (nI s) x (nI TR.length) m := e
  show f_X10_carsMeeting_4 (nI s) (nI 0) (nI 0) m = _
  rw [e, e_X10_carsMeeting_4, hx]
  simp (disch := omega) only [↓reduceIte, ↓ns_m1, ns_let, ns_lef, ns_ltt, ns_ltf, ns_eqt, ns_eqf, ns_gd, nI_clamp, nI_add, pk_sub, pk_mul, ns_m1a, ns_m1b, ns_m1c, ns_m1d, ns_m1e, ns_m1f, ns_m1g, ns_un1, ns_un0, ns_day1, Option.bind_some, gi_si_self, gi_si_ne, gl_si, gi_sl, gl_sl_self, gl_sl_ne, if_true, if_false, ns_i0, ns_i1, ns_i2, ns_i3, ns_i4, ns_i5, ns_i6, ns_i7, ns_i8, ns_i9, ns_i10, ns_i11, ns_i12, ns_i13, ns_i20, ns_i23, ns_i24, ns_i31, ns_i50, ns_i60, ns_i99, ns_i100, ns_i144, ns_i200, ns_i255, ns_i700, ns_i880, ns_i899, ns_i900, ns_i901, ns_i999, ns_i1000, ns_i1440, ns_i4095, ns_i1000000, hm.2.2.1]
theorem pop_b (s : Nat) : pop_ s ≤ 12 := popn_b s 12
theorem pl1_ {W : List (Nat × Nat × Nat)} {z : Nat} {O : List od_} {TR : tp_} (hk : dwok_ W z O TR) {cp d k : Nat} (hcp : cp < 4096) (hd : d < 100) (hk4 : k < 4) {m : fm_} (hm : dwc_ W z O TR m) (hc : gi_ m 6 9 = nI cp) : ∃ m1, f_X10_placeCameras_2 (nI d) (nI k) (nI 0) m = f_X10_placeCameras_2 (nI d) (nI k) (nI TR.length) m1 ∧ dwc_ W z O TR m1 ∧ gi_ m1 6 9 = nI cp ∧ us_ W z O TR cp d TR.length m1 := by
  have hl := hk.2.2.2.1
  have hOl := hk.2.2.1.1
  exact lp0_ (n := TR.length) (F := fun i m => f_X10_placeCameras_2 (nI d) (nI k) (nI i) m) (I := fun i m => dwc_ W z O TR m ∧ gi_ m 6 9 = nI cp ∧ us_ W z O TR cp d i m) (fun i m0 hi hI => by
    obtain ⟨i1, i2, i3⟩ := hI
    have hq := List.getElem?_eq_getElem hi
    generalize TR[i] = q at hq
    have hv := hk.2.2.2.2 q (List.mem_of_getElem? hq)
    obtain ⟨m2, e2, r2, w2⟩ := follow_c hk i1 hq hd true
    have f2 := fr_X10_follow e2
    have e2 : f_X10_follow (nI i) (nI d) (nI 1) m0 = some (0, m2) := e2
    have l2 : mk1_ W z O q d true < 4096 := mk1_lt hv.1
    have g2 : gi_ m2 98 10 = nI (mk1_ W z O q d true) := r2.2.1
    have a2 : mk1_ W z O q d true &&& cp < 4096 := and_lt l2
    have n2 : nI (mk1_ W z O q d true) &&& nI cp = nI (mk1_ W z O q d true &&& cp) := nI_and (by omega) (by omega)
    have c2 : gi_ m2 6 9 = nI cp := (sa_gi f2 (by rfl)).trans i2
    have u2 : us_ W z O TR cp d i m2 := fun j r hj hr => (sa_gi f2 (by rfl)).trans (i3 j r hj hr)
    have fin : ∀ x : Int32, x = nI (if mk1_ W z O q d true &&& cp = 0 then mk1_ W z O q d true else 0) → us_ W z O TR cp d (i + 1) (si_ m2 105 i x) := fun x hx j r hj hr => by
      by_cases ej : j = i
      · rw [ej] at hr ⊢
        rw [hr] at hq
        cases hq
        rw [gi_si_self, hx]
      · rw [gi_si_ne (by omega)]
        exact u2 j r (by omega) hr
    show ∃ s', f_X10_placeCameras_2 (nI d) (nI k) (nI i) m0 = f_X10_placeCameras_2 (nI d) (nI k) (nI (i + 1)) s' ∧ _
    rw [e_X10_placeCameras_2]
    by_cases cc : mk1_ W z O q d true &&& cp = 0
    · simp (disch := omega) only [↓reduceIte, ↓ns_m1, ns_let, ns_lef, ns_ltt, ns_ltf, ns_eqt, ns_eqf, ns_gd, nI_clamp, nI_add, pk_sub, pk_mul, ns_m1a, ns_m1b, ns_m1c, ns_m1d, ns_m1e, ns_m1f, ns_m1g, ns_un1, ns_un0, ns_day1, Option.bind_some, gi_si_self, gi_si_ne, gl_si, gi_sl, gl_sl_self, gl_sl_ne, if_true, if_false, ns_i0, ns_i1, ns_i2, ns_i3, ns_i4, ns_i5, ns_i6, ns_i7, ns_i8, ns_i9, ns_i10, ns_i11, ns_i12, ns_i13, ns_i20, ns_i23, ns_i24, ns_i31, ns_i50, ns_i60, ns_i99, ns_i100, ns_i144, ns_i200, ns_i255, ns_i700, ns_i880, ns_i899, ns_i900, ns_i901, ns_i999, ns_i1000, ns_i1440, ns_i4095, ns_i1000000, i1.2.2.1, e2, g2, c2, n2, cc]
      exact ⟨_, rfl, dwc_si hOl w2 (Or.inl rfl), (gi_si_ne (by omega)).trans c2, fin _ (by rw [if_pos cc])⟩
    · simp (disch := omega) only [↓reduceIte, ↓ns_m1, ns_let, ns_lef, ns_ltt, ns_ltf, ns_eqt, ns_eqf, ns_gd, nI_clamp, nI_add, pk_sub, pk_mul, ns_m1a, ns_m1b, ns_m1c, ns_m1d, ns_m1e, ns_m1f, ns_m1g, ns_un1, ns_un0, ns_day1, Option.bind_some, gi_si_self, gi_si_ne, gl_si, gi_sl, gl_sl_self, gl_sl_ne, if_true, if_false, ns_i0, ns_i1, ns_i2, ns_i3, ns_i4, ns_i5, ns_i6, ns_i7, ns_i8, ns_i9, ns_i10, ns_i11, ns_i12, ns_i13, ns_i20, ns_i23, ns_i24, ns_i31, ns_i50, ns_i60, ns_i99, ns_i100, ns_i144, ns_i200, ns_i255, ns_i700, ns_i880, ns_i899, ns_i900, ns_i901, ns_i999, ns_i1000, ns_i1440, ns_i4095, ns_i1000000, i1.2.2.1, e2, g2, c2, n2, cc]
      exact ⟨_, rfl, dwc_si hOl w2 (Or.inl rfl), (gi_si_ne (by omega)).trans c2, fin _ (by rw [if_neg cc])⟩) (s := m) ⟨hm, hc, fun j r hj _ => absurd hj (Nat.not_lt_zero _)⟩
theorem pl2_ {W : List (Nat × Nat × Nat)} {z : Nat} {O : List od_} {TR : tp_} (hk : dwok_ W z O TR) {cp d k : Nat} (hcp : cp < 4096) (hd : d < 100) (hk4 : k < 4) {m1 : fm_} (w1 : dwc_ W z O TR m1) (c1 : gi_ m1 6 9 = nI cp) (u1 : us_ W z O TR cp d TR.length m1) {sc : Nat → Nat} (hsc : ∀ s, sc s ≤ 1980) (hme : ∀ s m, s < 4096 → dwc_ W z O TR m → us_ W z O TR cp d TR.length m → f_X10_carsMeeting (nI s) m = some (nI (sc s), m)) {nn : Nat} (hnn : 4095 = nn) : ∃ m2, f_X10_placeCameras_64 (nI d) (nI k) (nI (0 + 1)) (si_ (si_ m1 98 13 (nI 0)) 98 14 (nI 0)) = f_X10_placeCameras_64 (nI d) (nI k) (nI (nn + 1)) m2 ∧ dwc_ W z O TR m2 ∧ gi_ m2 6 9 = nI cp ∧ us_ W z O TR cp d TR.length m2 ∧ gi_ m2 98 13 = nI (vw_ k cp sc nn).1 ∧ gi_ m2 98 14 = nI (vw_ k cp sc nn).2 := by
  have hl := hk.2.2.2.1
  have hOl := hk.2.2.1.1
  exact lp0_ (n := nn) (F := fun i m => f_X10_placeCameras_64 (nI d) (nI k) (nI (i + 1)) m) (I := fun i m => dwc_ W z O TR m ∧ gi_ m 6 9 = nI cp ∧ us_ W z O TR cp d TR.length m ∧ gi_ m 98 13 = nI (vw_ k cp sc i).1 ∧ gi_ m 98 14 = nI (vw_ k cp sc i).2) (fun i m0 hi hI => by
    obtain ⟨i1, i2, i3, i4, i5⟩ := hI
    have hb := vw_b (k := k) (cp := cp) hsc i
    have me := hme (i + 1) m0 (by omega) i1 i3
    have b1 := bc_ (s := i + 1) (by omega) m0
    have b2 := bc_ (s := (vw_ k cp sc i).1) (by omega) m0
    have p1 := pop_b (i + 1)
    have p2 := pop_b (vw_ k cp sc i).1
    have s1 := hsc (i + 1)
    have n1 : nI (i + 1) &&& nI cp = nI (i + 1 &&& cp) := nI_and (by omega) (by omega)
    have a1 : i + 1 &&& cp < 4096 := and_lt (by omega)
    have fin : ∀ s n : Nat, dwc_ W z O TR (si_ (si_ m0 98 13 (nI s)) 98 14 (nI n)) ∧ gi_ (si_ (si_ m0 98 13 (nI s)) 98 14 (nI n)) 6 9 = nI cp ∧ us_ W z O TR cp d TR.length (si_ (si_ m0 98 13 (nI s)) 98 14 (nI n)) ∧ gi_ (si_ (si_ m0 98 13 (nI s)) 98 14 (nI n)) 98 13 = nI s ∧ gi_ (si_ (si_ m0 98 13 (nI s)) 98 14 (nI n)) 98 14 = nI n := fun s n =>
      ⟨dwc_si hOl (dwc_si hOl i1 (Or.inr ⟨rfl, by omega⟩)) (Or.inr ⟨rfl, by omega⟩), (gi_si_ne (by omega)).trans ((gi_si_ne (by omega)).trans i2), fun j r hj hr => (gi_si_ne (by omega)).trans ((gi_si_ne (by omega)).trans (i3 j r hj hr)), (gi_si_ne (by omega)).trans gi_si_self, gi_si_self⟩
    show ∃ s', f_X10_placeCameras_64 (nI d) (nI k) (nI (i + 1)) m0 = f_X10_placeCameras_64 (nI d) (nI k) (nI (i + 1 + 1)) s' ∧ dwc_ W z O TR s' ∧ gi_ s' 6 9 = nI cp ∧ us_ W z O TR cp d TR.length s' ∧ gi_ s' 98 13 = nI (vs_ k cp sc (i + 1) (vw_ k cp sc i)).1 ∧ gi_ s' 98 14 = nI (vs_ k cp sc (i + 1) (vw_ k cp sc i)).2
    generalize vw_ k cp sc i = st at hb i4 i5 b2 p2 ⊢
    rw [e_X10_placeCameras_64]
    generalize f_J6_bitCount_0f7a4 = bc at b1 b2 ⊢
    unfold vs_
    by_cases c1 : k < pop_ (i + 1)
    · rw [if_pos c1]
      simp (disch := omega) only [↓reduceIte, ↓ns_m1, ns_let, ns_lef, ns_ltt, ns_ltf, ns_eqt, ns_eqf, ns_gd, nI_clamp, nI_add, pk_sub, pk_mul, ns_m1a, ns_m1b, ns_m1c, ns_m1d, ns_m1e, ns_m1f, ns_m1g, ns_un1, ns_un0, ns_day1, Option.bind_some, gi_si_self, gi_si_ne, gl_si, gi_sl, gl_sl_self, gl_sl_ne, if_true, if_false, ns_i0, ns_i1, ns_i2, ns_i3, ns_i4, ns_i5, ns_i6, ns_i7, ns_i8, ns_i9, ns_i10, ns_i11, ns_i12, ns_i13, ns_i20, ns_i23, ns_i24, ns_i31, ns_i50, ns_i60, ns_i99, ns_i100, ns_i144, ns_i200, ns_i255, ns_i700, ns_i880, ns_i899, ns_i900, ns_i901, ns_i999, ns_i1000, ns_i1440, ns_i4095, ns_i1000000, b1]
      exact ⟨_, rfl, i1, i2, i3, i4, i5⟩
    · rw [if_neg c1]
      by_cases c2 : i + 1 &&& cp = 0
      · rw [if_pos c2]
        by_cases c3 : st.2 < sc (i + 1) ∨ (sc (i + 1) = st.2 ∧ pop_ (i + 1) < pop_ st.1)
        · rw [if_pos c3]
          by_cases c4 : st.2 < sc (i + 1)
          · by_cases c5 : pop_ st.1 ≤ pop_ (i + 1)
            · simp (disch := omega) only [↓reduceIte, ↓ns_m1, ns_let, ns_lef, ns_ltt, ns_ltf, ns_eqt, ns_eqf, ns_gd, nI_clamp, nI_add, pk_sub, pk_mul, ns_m1a, ns_m1b, ns_m1c, ns_m1d, ns_m1e, ns_m1f, ns_m1g, ns_un1, ns_un0, ns_day1, Option.bind_some, gi_si_self, gi_si_ne, gl_si, gi_sl, gl_sl_self, gl_sl_ne, if_true, if_false, ns_i0, ns_i1, ns_i2, ns_i3, ns_i4, ns_i5, ns_i6, ns_i7, ns_i8, ns_i9, ns_i10, ns_i11, ns_i12, ns_i13, ns_i20, ns_i23, ns_i24, ns_i31, ns_i50, ns_i60, ns_i99, ns_i100, ns_i144, ns_i200, ns_i255, ns_i700, ns_i880, ns_i899, ns_i900, ns_i901, ns_i999, ns_i1000, ns_i1440, ns_i4095, ns_i1000000, b1, i2, n1, c2]
              rw [me, Option.bind_some, b1, Option.bind_some, i4, b2, Option.bind_some]
              simp (disch := omega) only [↓reduceIte, ↓ns_m1, ns_let, ns_lef, ns_ltt, ns_ltf, ns_eqt, ns_eqf, ns_gd, nI_clamp, nI_add, pk_sub, pk_mul, ns_m1a, ns_m1b, ns_m1c, ns_m1d, ns_m1e, ns_m1f, ns_m1g, ns_un1, ns_un0, ns_day1, Option.bind_some, gi_si_self, gi_si_ne, gl_si, gi_sl, gl_sl_self, gl_sl_ne, if_true, if_false, ns_i0, ns_i1, ns_i2, ns_i3, ns_i4, ns_i5, ns_i6, ns_i7, ns_i8, ns_i9, ns_i10, ns_i11, ns_i12, ns_i13, ns_i20, ns_i23, ns_i24, ns_i31, ns_i50, ns_i60, ns_i99, ns_i100, ns_i144, ns_i200, ns_i255, ns_i700, ns_i880, ns_i899, ns_i900, ns_i901, ns_i999, ns_i1000, ns_i1440, ns_i4095, ns_i1000000, i5]
              exact ⟨_, rfl, fin _ _⟩
            · simp (disch := omega) only [↓reduceIte, ↓ns_m1, ns_let, ns_lef, ns_ltt, ns_ltf, ns_eqt, ns_eqf, ns_gd, nI_clamp, nI_add, pk_sub, pk_mul, ns_m1a, ns_m1b, ns_m1c, ns_m1d, ns_m1e, ns_m1f, ns_m1g, ns_un1, ns_un0, ns_day1, Option.bind_some, gi_si_self, gi_si_ne, gl_si, gi_sl, gl_sl_self, gl_sl_ne, if_true, if_false, ns_i0, ns_i1, ns_i2, ns_i3, ns_i4, ns_i5, ns_i6, ns_i7, ns_i8, ns_i9, ns_i10, ns_i11, ns_i12, ns_i13, ns_i20, ns_i23, ns_i24, ns_i31, ns_i50, ns_i60, ns_i99, ns_i100, ns_i144, ns_i200, ns_i255, ns_i700, ns_i880, ns_i899, ns_i900, ns_i901, ns_i999, ns_i1000, ns_i1440, ns_i4095, ns_i1000000, b1, i2, n1, c2]
              rw [me, Option.bind_some, b1, Option.bind_some, i4, b2, Option.bind_some]
              simp (disch := omega) only [↓reduceIte, ↓ns_m1, ns_let, ns_lef, ns_ltt, ns_ltf, ns_eqt, ns_eqf, ns_gd, nI_clamp, nI_add, pk_sub, pk_mul, ns_m1a, ns_m1b, ns_m1c, ns_m1d, ns_m1e, ns_m1f, ns_m1g, ns_un1, ns_un0, ns_day1, Option.bind_some, gi_si_self, gi_si_ne, gl_si, gi_sl, gl_sl_self, gl_sl_ne, if_true, if_false, ns_i0, ns_i1, ns_i2, ns_i3, ns_i4, ns_i5, ns_i6, ns_i7, ns_i8, ns_i9, ns_i10, ns_i11, ns_i12, ns_i13, ns_i20, ns_i23, ns_i24, ns_i31, ns_i50, ns_i60, ns_i99, ns_i100, ns_i144, ns_i200, ns_i255, ns_i700, ns_i880, ns_i899, ns_i900, ns_i901, ns_i999, ns_i1000, ns_i1440, ns_i4095, ns_i1000000, i5]
              exact ⟨_, rfl, fin _ _⟩
          · simp (disch := omega) only [↓reduceIte, ↓ns_m1, ns_let, ns_lef, ns_ltt, ns_ltf, ns_eqt, ns_eqf, ns_gd, nI_clamp, nI_add, pk_sub, pk_mul, ns_m1a, ns_m1b, ns_m1c, ns_m1d, ns_m1e, ns_m1f, ns_m1g, ns_un1, ns_un0, ns_day1, Option.bind_some, gi_si_self, gi_si_ne, gl_si, gi_sl, gl_sl_self, gl_sl_ne, if_true, if_false, ns_i0, ns_i1, ns_i2, ns_i3, ns_i4, ns_i5, ns_i6, ns_i7, ns_i8, ns_i9, ns_i10, ns_i11, ns_i12, ns_i13, ns_i20, ns_i23, ns_i24, ns_i31, ns_i50, ns_i60, ns_i99, ns_i100, ns_i144, ns_i200, ns_i255, ns_i700, ns_i880, ns_i899, ns_i900, ns_i901, ns_i999, ns_i1000, ns_i1440, ns_i4095, ns_i1000000, b1, i2, n1, c2]
            rw [me, Option.bind_some, b1, Option.bind_some, i4, b2, Option.bind_some]
            simp (disch := omega) only [↓reduceIte, ↓ns_m1, ns_let, ns_lef, ns_ltt, ns_ltf, ns_eqt, ns_eqf, ns_gd, nI_clamp, nI_add, pk_sub, pk_mul, ns_m1a, ns_m1b, ns_m1c, ns_m1d, ns_m1e, ns_m1f, ns_m1g, ns_un1, ns_un0, ns_day1, Option.bind_some, gi_si_self, gi_si_ne, gl_si, gi_sl, gl_sl_self, gl_sl_ne, if_true, if_false, ns_i0, ns_i1, ns_i2, ns_i3, ns_i4, ns_i5, ns_i6, ns_i7, ns_i8, ns_i9, ns_i10, ns_i11, ns_i12, ns_i13, ns_i20, ns_i23, ns_i24, ns_i31, ns_i50, ns_i60, ns_i99, ns_i100, ns_i144, ns_i200, ns_i255, ns_i700, ns_i880, ns_i899, ns_i900, ns_i901, ns_i999, ns_i1000, ns_i1440, ns_i4095, ns_i1000000, i5]
            exact ⟨_, rfl, fin _ _⟩
        · rw [if_neg c3]
          by_cases c5 : pop_ st.1 ≤ pop_ (i + 1)
          · by_cases c6 : sc (i + 1) = st.2
            · simp (disch := omega) only [↓reduceIte, ↓ns_m1, ns_let, ns_lef, ns_ltt, ns_ltf, ns_eqt, ns_eqf, ns_gd, nI_clamp, nI_add, pk_sub, pk_mul, ns_m1a, ns_m1b, ns_m1c, ns_m1d, ns_m1e, ns_m1f, ns_m1g, ns_un1, ns_un0, ns_day1, Option.bind_some, gi_si_self, gi_si_ne, gl_si, gi_sl, gl_sl_self, gl_sl_ne, if_true, if_false, ns_i0, ns_i1, ns_i2, ns_i3, ns_i4, ns_i5, ns_i6, ns_i7, ns_i8, ns_i9, ns_i10, ns_i11, ns_i12, ns_i13, ns_i20, ns_i23, ns_i24, ns_i31, ns_i50, ns_i60, ns_i99, ns_i100, ns_i144, ns_i200, ns_i255, ns_i700, ns_i880, ns_i899, ns_i900, ns_i901, ns_i999, ns_i1000, ns_i1440, ns_i4095, ns_i1000000, b1, i2, n1, c2]
              rw [me, Option.bind_some, b1, Option.bind_some, i4, b2, Option.bind_some]
              simp (disch := omega) only [↓reduceIte, ↓ns_m1, ns_let, ns_lef, ns_ltt, ns_ltf, ns_eqt, ns_eqf, ns_gd, nI_clamp, nI_add, pk_sub, pk_mul, ns_m1a, ns_m1b, ns_m1c, ns_m1d, ns_m1e, ns_m1f, ns_m1g, ns_un1, ns_un0, ns_day1, Option.bind_some, gi_si_self, gi_si_ne, gl_si, gi_sl, gl_sl_self, gl_sl_ne, if_true, if_false, ns_i0, ns_i1, ns_i2, ns_i3, ns_i4, ns_i5, ns_i6, ns_i7, ns_i8, ns_i9, ns_i10, ns_i11, ns_i12, ns_i13, ns_i20, ns_i23, ns_i24, ns_i31, ns_i50, ns_i60, ns_i99, ns_i100, ns_i144, ns_i200, ns_i255, ns_i700, ns_i880, ns_i899, ns_i900, ns_i901, ns_i999, ns_i1000, ns_i1440, ns_i4095, ns_i1000000, i5]
              exact ⟨_, rfl, i1, i2, i3, i4, i5⟩
            · simp (disch := omega) only [↓reduceIte, ↓ns_m1, ns_let, ns_lef, ns_ltt, ns_ltf, ns_eqt, ns_eqf, ns_gd, nI_clamp, nI_add, pk_sub, pk_mul, ns_m1a, ns_m1b, ns_m1c, ns_m1d, ns_m1e, ns_m1f, ns_m1g, ns_un1, ns_un0, ns_day1, Option.bind_some, gi_si_self, gi_si_ne, gl_si, gi_sl, gl_sl_self, gl_sl_ne, if_true, if_false, ns_i0, ns_i1, ns_i2, ns_i3, ns_i4, ns_i5, ns_i6, ns_i7, ns_i8, ns_i9, ns_i10, ns_i11, ns_i12, ns_i13, ns_i20, ns_i23, ns_i24, ns_i31, ns_i50, ns_i60, ns_i99, ns_i100, ns_i144, ns_i200, ns_i255, ns_i700, ns_i880, ns_i899, ns_i900, ns_i901, ns_i999, ns_i1000, ns_i1440, ns_i4095, ns_i1000000, b1, i2, n1, c2]
              rw [me, Option.bind_some, b1, Option.bind_some, i4, b2, Option.bind_some]
              simp (disch := omega) only [↓reduceIte, ↓ns_m1, ns_let, ns_lef, ns_ltt, ns_ltf, ns_eqt, ns_eqf, ns_gd, nI_clamp, nI_add, pk_sub, pk_mul, ns_m1a, ns_m1b, ns_m1c, ns_m1d, ns_m1e, ns_m1f, ns_m1g, ns_un1, ns_un0, ns_day1, Option.bind_some, gi_si_self, gi_si_ne, gl_si, gi_sl, gl_sl_self, gl_sl_ne, if_true, if_false, ns_i0, ns_i1, ns_i2, ns_i3, ns_i4, ns_i5, ns_i6, ns_i7, ns_i8, ns_i9, ns_i10, ns_i11, ns_i12, ns_i13, ns_i20, ns_i23, ns_i24, ns_i31, ns_i50, ns_i60, ns_i99, ns_i100, ns_i144, ns_i200, ns_i255, ns_i700, ns_i880, ns_i899, ns_i900, ns_i901, ns_i999, ns_i1000, ns_i1440, ns_i4095, ns_i1000000, i5]
              exact ⟨_, rfl, i1, i2, i3, i4, i5⟩
          · simp (disch := omega) only [↓reduceIte, ↓ns_m1, ns_let, ns_lef, ns_ltt, ns_ltf, ns_eqt, ns_eqf, ns_gd, nI_clamp, nI_add, pk_sub, pk_mul, ns_m1a, ns_m1b, ns_m1c, ns_m1d, ns_m1e, ns_m1f, ns_m1g, ns_un1, ns_un0, ns_day1, Option.bind_some, gi_si_self, gi_si_ne, gl_si, gi_sl, gl_sl_self, gl_sl_ne, if_true, if_false, ns_i0, ns_i1, ns_i2, ns_i3, ns_i4, ns_i5, ns_i6, ns_i7, ns_i8, ns_i9, ns_i10, ns_i11, ns_i12, ns_i13, ns_i20, ns_i23, ns_i24, ns_i31, ns_i50, ns_i60, ns_i99, ns_i100, ns_i144, ns_i200, ns_i255, ns_i700, ns_i880, ns_i899, ns_i900, ns_i901, ns_i999, ns_i1000, ns_i1440, ns_i4095, ns_i1000000, b1, i2, n1, c2]
            rw [me, Option.bind_some, b1, Option.bind_some, i4, b2, Option.bind_some]
            simp (disch := omega) only [↓reduceIte, ↓ns_m1, ns_let, ns_lef, ns_ltt, ns_ltf, ns_eqt, ns_eqf, ns_gd, nI_clamp, nI_add, pk_sub, pk_mul, ns_m1a, ns_m1b, ns_m1c, ns_m1d, ns_m1e, ns_m1f, ns_m1g, ns_un1, ns_un0, ns_day1, Option.bind_some, gi_si_self, gi_si_ne, gl_si, gi_sl, gl_sl_self, gl_sl_ne, if_true, if_false, ns_i0, ns_i1, ns_i2, ns_i3, ns_i4, ns_i5, ns_i6, ns_i7, ns_i8, ns_i9, ns_i10, ns_i11, ns_i12, ns_i13, ns_i20, ns_i23, ns_i24, ns_i31, ns_i50, ns_i60, ns_i99, ns_i100, ns_i144, ns_i200, ns_i255, ns_i700, ns_i880, ns_i899, ns_i900, ns_i901, ns_i999, ns_i1000, ns_i1440, ns_i4095, ns_i1000000, i5]
            exact ⟨_, rfl, i1, i2, i3, i4, i5⟩
      · rw [if_neg c2]
        simp (disch := omega) only [↓reduceIte, ↓ns_m1, ns_let, ns_lef, ns_ltt, ns_ltf, ns_eqt, ns_eqf, ns_gd, nI_clamp, nI_add, pk_sub, pk_mul, ns_m1a, ns_m1b, ns_m1c, ns_m1d, ns_m1e, ns_m1f, ns_m1g, ns_un1, ns_un0, ns_day1, Option.bind_some, gi_si_self, gi_si_ne, gl_si, gi_sl, gl_sl_self, gl_sl_ne, if_true, if_false, ns_i0, ns_i1, ns_i2, ns_i3, ns_i4, ns_i5, ns_i6, ns_i7, ns_i8, ns_i9, ns_i10, ns_i11, ns_i12, ns_i13, ns_i20, ns_i23, ns_i24, ns_i31, ns_i50, ns_i60, ns_i99, ns_i100, ns_i144, ns_i200, ns_i255, ns_i700, ns_i880, ns_i899, ns_i900, ns_i901, ns_i999, ns_i1000, ns_i1440, ns_i4095, ns_i1000000, b1, i2, n1]
        exact ⟨_, rfl, i1, i2, i3, i4, i5⟩) (s := si_ (si_ m1 98 13 (nI 0)) 98 14 (nI 0)) ⟨dwc_si hOl (dwc_si hOl w1 (Or.inr ⟨rfl, by omega⟩)) (Or.inr ⟨rfl, by omega⟩), (gi_si_ne (by omega)).trans ((gi_si_ne (by omega)).trans c1), fun j r hj hr => (gi_si_ne (by omega)).trans ((gi_si_ne (by omega)).trans (u1 j r hj hr)), (gi_si_ne (by omega)).trans gi_si_self, gi_si_self⟩
theorem pl3_ {W : List (Nat × Nat × Nat)} {z : Nat} {O : List od_} {TR : tp_} (hk : dwok_ W z O TR) {cp d k : Nat} (hcp : cp < 4096) (hd : d < 100) (hk4 : k < 4) {m : fm_} (hm : dwc_ W z O TR m) (hc : gi_ m 6 9 = nI cp) {nn : Nat} (hnn : 4095 = nn) : ∃ m1, f_X10_placeCameras (nI d) (nI k) m = some (0, m1) ∧ gi_ m1 98 13 = nI (vw_ k cp (fun s => scs_ W z O TR cp d s TR.length) nn).1 ∧ gi_ m1 98 14 = nI (vw_ k cp (fun s => scs_ W z O TR cp d s TR.length) nn).2 ∧ dwc_ W z O TR m1 ∧ gi_ m1 6 9 = nI cp := by
  have hl := hk.2.2.2.1
  obtain ⟨m1, e1, w1, c1, u1⟩ := pl1_ hk hcp hd hk4 hm hc
  obtain ⟨m2, e2, h2⟩ := pl2_ hk hcp hd hk4 w1 c1 u1 (sc := fun s => scs_ W z O TR cp d s TR.length) (fun s => by
    have := scs_b (O := O) hk.2.2.2 (z := z) (cp := cp) (d := d) (s := s) TR.length
    show scs_ W z O TR cp d s TR.length ≤ 1980
    omega) (fun s m hs h1 h2 => meet_c hk hs h1 h2) hnn
  refine ⟨m2, ?_, h2.2.2.2.1, h2.2.2.2.2, h2.1, h2.2.1⟩
  show f_X10_placeCameras_2 (nI d) (nI k) (nI 0) m = _
  rw [Nat.zero_add] at e2
  rw [e1, e_X10_placeCameras_2]
  simp (disch := omega) only [↓reduceIte, ↓ns_m1, ns_let, ns_lef, ns_ltt, ns_ltf, ns_eqt, ns_eqf, ns_gd, nI_clamp, nI_add, pk_sub, pk_mul, ns_m1a, ns_m1b, ns_m1c, ns_m1d, ns_m1e, ns_m1f, ns_m1g, ns_un1, ns_un0, ns_day1, Option.bind_some, gi_si_self, gi_si_ne, gl_si, gi_sl, gl_sl_self, gl_sl_ne, if_true, if_false, ns_i0, ns_i1, ns_i2, ns_i3, ns_i4, ns_i5, ns_i6, ns_i7, ns_i8, ns_i9, ns_i10, ns_i11, ns_i12, ns_i13, ns_i20, ns_i23, ns_i24, ns_i31, ns_i50, ns_i60, ns_i99, ns_i100, ns_i144, ns_i200, ns_i255, ns_i700, ns_i880, ns_i899, ns_i900, ns_i901, ns_i999, ns_i1000, ns_i1440, ns_i4095, ns_i1000000, w1.2.2.1, e2]
  rw [e_X10_placeCameras_64]
  simp (disch := omega) only [↓reduceIte, ↓ns_m1, ns_let, ns_lef, ns_ltt, ns_ltf, ns_eqt, ns_eqf, ns_gd, nI_clamp, nI_add, pk_sub, pk_mul, ns_m1a, ns_m1b, ns_m1c, ns_m1d, ns_m1e, ns_m1f, ns_m1g, ns_un1, ns_un0, ns_day1, Option.bind_some, gi_si_self, gi_si_ne, gl_si, gi_sl, gl_sl_self, gl_sl_ne, if_true, if_false, ns_i0, ns_i1, ns_i2, ns_i3, ns_i4, ns_i5, ns_i6, ns_i7, ns_i8, ns_i9, ns_i10, ns_i11, ns_i12, ns_i13, ns_i20, ns_i23, ns_i24, ns_i31, ns_i50, ns_i60, ns_i99, ns_i100, ns_i144, ns_i200, ns_i255, ns_i700, ns_i880, ns_i899, ns_i900, ns_i901, ns_i999, ns_i1000, ns_i1440, ns_i4095, ns_i1000000]
/-- all sets have been tried -/
def vwa_ (k cp : Nat) (sc : Nat → Nat) : Nat × Nat := vw_ k cp sc 4095
theorem vwa_e {k cp : Nat} {sc : Nat → Nat} {nn : Nat} (h : 4095 = nn) : vw_ k cp sc nn = vwa_ k cp sc := by
  subst h
  rfl
theorem place_c {W : List (Nat × Nat × Nat)} {z : Nat} {O : List od_} {TR : tp_} (hk : dwok_ W z O TR) {cp d k : Nat} (hcp : cp < 4096) (hd : d < 100) (hk4 : k < 4) {m : fm_} (hm : dwc_ W z O TR m) (hc : gi_ m 6 9 = nI cp) : ∃ m1, f_X10_placeCameras (nI d) (nI k) m = some (0, m1) ∧ gi_ m1 98 13 = nI (vwa_ k cp (fun s => scs_ W z O TR cp d s TR.length)).1 ∧ gi_ m1 98 14 = nI (vwa_ k cp (fun s => scs_ W z O TR cp d s TR.length)).2 ∧ dwc_ W z O TR m1 ∧ gi_ m1 6 9 = nI cp := by
  obtain ⟨nn, hnn⟩ : ∃ nn : Nat, 4095 = nn := ⟨_, rfl⟩
  have := pl3_ hk hcp hd hk4 hm hc hnn
  rw [vwa_e hnn] at this
  exact this
def svw_ (W : List (Nat × Nat × Nat)) (z : Nat) (O : List od_) (TR : tp_) (cp : Nat) (x1 x2 : Int32) (one : Bool) : Int32 := match nat_ x1 100, nat_ x2 4 with
  | some d, some k => if one = true then nI (vwa_ k cp (fun s => scs_ W z O TR cp d s TR.length)).1 else nI (vwa_ k cp (fun s => scs_ W z O TR cp d s TR.length)).2
  | _, _ => -1
theorem view_c {W : List (Nat × Nat × Nat)} {z : Nat} {O : List od_} {TR : tp_} (hk : dwok_ W z O TR) {cp : Nat} (hcp : cp < 4096) {m : fm_} (hm : dwc_ W z O TR m) (hc : gi_ m 6 9 = nI cp) (x1 x2 : Int32) : ∃ m1, f_X11_view x1 x2 m = some (svw_ W z O TR cp x1 x2 true, m1) ∧ dwc_ W z O TR m1 ∧ gi_ m1 6 9 = nI cp := by
  unfold f_X11_view svw_
  rcases nat_ix x1 (n := 100) (by omega) with ⟨e, _⟩ | ⟨d, hd, rfl, e, -⟩
  · rw [e]
    simp (disch := omega) only [↓reduceIte, ↓ns_m1, ns_let, ns_lef, ns_ltt, ns_ltf, ns_eqt, ns_eqf, ns_gd, nI_clamp, nI_add, pk_sub, pk_mul, ns_m1a, ns_m1b, ns_m1c, ns_m1d, ns_m1e, ns_m1f, ns_m1g, ns_un1, ns_un0, ns_day1, Option.bind_some, gi_si_self, gi_si_ne, gl_si, gi_sl, gl_sl_self, gl_sl_ne, if_true, if_false, ns_i0, ns_i1, ns_i2, ns_i3, ns_i4, ns_i5, ns_i6, ns_i7, ns_i8, ns_i9, ns_i10, ns_i11, ns_i12, ns_i13, ns_i20, ns_i23, ns_i24, ns_i31, ns_i50, ns_i60, ns_i99, ns_i100, ns_i144, ns_i200, ns_i255, ns_i700, ns_i880, ns_i899, ns_i900, ns_i901, ns_i999, ns_i1000, ns_i1440, ns_i4095, ns_i1000000, day0 e]
    exact ⟨m, rfl, hm, hc⟩
  rcases nat_ix x2 (n := 4) (by omega) with ⟨e2, _⟩ | ⟨k, hk4, rfl, e2, -⟩
  · rw [e, e2]
    simp (disch := omega) only [↓reduceIte, ↓ns_m1, ns_let, ns_lef, ns_ltt, ns_ltf, ns_eqt, ns_eqf, ns_gd, nI_clamp, nI_add, pk_sub, pk_mul, ns_m1a, ns_m1b, ns_m1c, ns_m1d, ns_m1e, ns_m1f, ns_m1g, ns_un1, ns_un0, ns_day1, Option.bind_some, gi_si_self, gi_si_ne, gl_si, gi_sl, gl_sl_self, gl_sl_ne, if_true, if_false, ns_i0, ns_i1, ns_i2, ns_i3, ns_i4, ns_i5, ns_i6, ns_i7, ns_i8, ns_i9, ns_i10, ns_i11, ns_i12, ns_i13, ns_i20, ns_i23, ns_i24, ns_i31, ns_i50, ns_i60, ns_i99, ns_i100, ns_i144, ns_i200, ns_i255, ns_i700, ns_i880, ns_i899, ns_i900, ns_i901, ns_i999, ns_i1000, ns_i1440, ns_i4095, ns_i1000000, und0 e2]
    exact ⟨m, rfl, hm, hc⟩
  obtain ⟨m1, e1, h1, h2, h3, h4⟩ := place_c hk hcp hd hk4 hm hc
  rw [e, e2]
  simp (disch := omega) only [↓reduceIte, ↓ns_m1, ns_let, ns_lef, ns_ltt, ns_ltf, ns_eqt, ns_eqf, ns_gd, nI_clamp, nI_add, pk_sub, pk_mul, ns_m1a, ns_m1b, ns_m1c, ns_m1d, ns_m1e, ns_m1f, ns_m1g, ns_un1, ns_un0, ns_day1, Option.bind_some, gi_si_self, gi_si_ne, gl_si, gi_sl, gl_sl_self, gl_sl_ne, if_true, if_false, ns_i0, ns_i1, ns_i2, ns_i3, ns_i4, ns_i5, ns_i6, ns_i7, ns_i8, ns_i9, ns_i10, ns_i11, ns_i12, ns_i13, ns_i20, ns_i23, ns_i24, ns_i31, ns_i50, ns_i60, ns_i99, ns_i100, ns_i144, ns_i200, ns_i255, ns_i700, ns_i880, ns_i899, ns_i900, ns_i901, ns_i999, ns_i1000, ns_i1440, ns_i4095, ns_i1000000, e1, h1]
  exact ⟨_, rfl, h3, h4⟩
theorem seen_c {W : List (Nat × Nat × Nat)} {z : Nat} {O : List od_} {TR : tp_} (hk : dwok_ W z O TR) {cp : Nat} (hcp : cp < 4096) {m : fm_} (hm : dwc_ W z O TR m) (hc : gi_ m 6 9 = nI cp) (x1 x2 : Int32) : ∃ m1, f_X11_seen x1 x2 m = some (svw_ W z O TR cp x1 x2 false, m1) ∧ dwc_ W z O TR m1 ∧ gi_ m1 6 9 = nI cp := by
  have n0 : ¬ false = true := by decide
  unfold f_X11_seen svw_
  rcases nat_ix x1 (n := 100) (by omega) with ⟨e, _⟩ | ⟨d, hd, rfl, e, -⟩
  · rw [e]
    simp (disch := omega) only [↓reduceIte, ↓ns_m1, ns_let, ns_lef, ns_ltt, ns_ltf, ns_eqt, ns_eqf, ns_gd, nI_clamp, nI_add, pk_sub, pk_mul, ns_m1a, ns_m1b, ns_m1c, ns_m1d, ns_m1e, ns_m1f, ns_m1g, ns_un1, ns_un0, ns_day1, Option.bind_some, gi_si_self, gi_si_ne, gl_si, gi_sl, gl_sl_self, gl_sl_ne, if_true, if_false, ns_i0, ns_i1, ns_i2, ns_i3, ns_i4, ns_i5, ns_i6, ns_i7, ns_i8, ns_i9, ns_i10, ns_i11, ns_i12, ns_i13, ns_i20, ns_i23, ns_i24, ns_i31, ns_i50, ns_i60, ns_i99, ns_i100, ns_i144, ns_i200, ns_i255, ns_i700, ns_i880, ns_i899, ns_i900, ns_i901, ns_i999, ns_i1000, ns_i1440, ns_i4095, ns_i1000000, day0 e]
    exact ⟨m, rfl, hm, hc⟩
  rcases nat_ix x2 (n := 4) (by omega) with ⟨e2, _⟩ | ⟨k, hk4, rfl, e2, -⟩
  · rw [e, e2]
    simp (disch := omega) only [↓reduceIte, ↓ns_m1, ns_let, ns_lef, ns_ltt, ns_ltf, ns_eqt, ns_eqf, ns_gd, nI_clamp, nI_add, pk_sub, pk_mul, ns_m1a, ns_m1b, ns_m1c, ns_m1d, ns_m1e, ns_m1f, ns_m1g, ns_un1, ns_un0, ns_day1, Option.bind_some, gi_si_self, gi_si_ne, gl_si, gi_sl, gl_sl_self, gl_sl_ne, if_true, if_false, ns_i0, ns_i1, ns_i2, ns_i3, ns_i4, ns_i5, ns_i6, ns_i7, ns_i8, ns_i9, ns_i10, ns_i11, ns_i12, ns_i13, ns_i20, ns_i23, ns_i24, ns_i31, ns_i50, ns_i60, ns_i99, ns_i100, ns_i144, ns_i200, ns_i255, ns_i700, ns_i880, ns_i899, ns_i900, ns_i901, ns_i999, ns_i1000, ns_i1440, ns_i4095, ns_i1000000, und0 e2]
    exact ⟨m, rfl, hm, hc⟩
  obtain ⟨m1, e1, h1, h2, h3, h4⟩ := place_c hk hcp hd hk4 hm hc
  rw [e, e2]
  simp (disch := omega) only [↓reduceIte, ↓ns_m1, ns_let, ns_lef, ns_ltt, ns_ltf, ns_eqt, ns_eqf, ns_gd, nI_clamp, nI_add, pk_sub, pk_mul, ns_m1a, ns_m1b, ns_m1c, ns_m1d, ns_m1e, ns_m1f, ns_m1g, ns_un1, ns_un0, ns_day1, Option.bind_some, gi_si_self, gi_si_ne, gl_si, gi_sl, gl_sl_self, gl_sl_ne, if_true, if_false, ns_i0, ns_i1, ns_i2, ns_i3, ns_i4, ns_i5, ns_i6, ns_i7, ns_i8, ns_i9, ns_i10, ns_i11, ns_i12, ns_i13, ns_i20, ns_i23, ns_i24, ns_i31, ns_i50, ns_i60, ns_i99, ns_i100, ns_i144, ns_i200, ns_i255, ns_i700, ns_i880, ns_i899, ns_i900, ns_i901, ns_i999, ns_i1000, ns_i1440, ns_i4095, ns_i1000000, e1, h2, n0]
  exact ⟨_, rfl, h3, h4⟩
