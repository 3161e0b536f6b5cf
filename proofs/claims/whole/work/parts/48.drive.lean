/-! ===== trips, the class ===== -/
/-- from, to, cars, value, class -/
abbrev tp_ : Type := List (Nat × Nat × Nat × Nat × Nat)
def tok_ (W : List (Nat × Nat × Nat)) (TR : tp_) : Prop := TR.length ≤ 20 ∧ ∀ q ∈ TR, q.1 < 12 ∧ q.2.1 < 12 ∧ ¬ q.1 = q.2.1 ∧ ner_ W q.1 q.2.1 < 1000000 ∧ 1 ≤ q.2.2.1 ∧ q.2.2.1 ≤ 99 ∧ 1 ≤ q.2.2.2.1 ∧ q.2.2.2.1 ≤ 99 ∧ q.2.2.2.2 < 10
def trc_ (TR : tp_) (m : fm_) : Prop := gi_ m 98 7 = nI TR.length ∧ ∀ j q, TR[j]? = some q → gi_ m 99 j = nI q.1 ∧ gi_ m 100 j = nI q.2.1 ∧ gi_ m 101 j = nI q.2.2.1 ∧ gi_ m 102 j = nI q.2.2.2.1 ∧ gi_ m 103 j = nI q.2.2.2.2
def trm_ (TR : tp_) (m : fm_) : Prop := gi_ m 106 87 = nI TR.length ∧ ∀ j q, TR[j]? = some q → gi_ m 160 j = nI q.1 ∧ gi_ m 161 j = nI q.2.1 ∧ gi_ m 162 j = nI q.2.2.1 ∧ gi_ m 163 j = nI q.2.2.2.1 ∧ gi_ m 164 j = nI q.2.2.2.2
/-- charge and start of a drive, with the zone or without it -/
def ch_ (O : List od_) (q : Nat × Nat × Nat × Nat × Nat) (d : Nat) (b : Bool) : Nat := if b = true then chg_ O d q.2.2.2.2 else 0
def t0_ (z : Nat) (q : Nat × Nat × Nat × Nat × Nat) (b : Bool) : Nat := if b = true then bb_ z q.1 else 1
def rtl_ (W : List (Nat × Nat × Nat)) (z : Nat) (O : List od_) (q : Nat × Nat × Nat × Nat × Nat) (d : Nat) (b : Bool) : List Nat := ptl_ W z q.2.2.2.1 (ch_ O q d b) q.2.1 11 q.1 (t0_ z q b)
theorem ch_b {O : List od_} (hO : ok1_ O) (q : Nat × Nat × Nat × Nat × Nat) (d : Nat) (b : Bool) : ch_ O q d b ≤ 999 := by
  unfold ch_
  cases b with
  | true => exact chg_b hO _ _
  | false => exact Nat.zero_le _
theorem kk_st {W : List (Nat × Nat × Nat)} {z v c g p t : Nat} (h : tk_ W z v c g) (hp : p < 12) (ht : t = 0 ∨ t = 1) (hn : ner_ W p g < 1000000) : kk_ W z v c g p t < 1000000 := by
  have h1 : kk_ W z v c g p 1 < 1000000 := by
    have b1 : ner_ W p g ≤ 1188 := ft_b h.1 (S := fun _ => true) hn
    have := small_v (x := ner_ W p g) (v := v) (by omega) h.2.2.2.1
    have := h.2.2.2.2.1
    rw [kk_1]
    omega
  rcases ht with ht | ht
  · subst ht
    have := kk_01 h hp
    omega
  · subst ht
    exact h1
theorem stt_t0 {z : Nat} {q : Nat × Nat × Nat × Nat × Nat} (b : Bool) (hq : q.1 < 12) : stt_ z q.1 (t0_ z q b) := by
  unfold t0_
  cases b with
  | true =>
    show stt_ z q.1 (bb_ z q.1)
    rw [← nt_bb]
    exact nt_ok (Or.inl rfl) hq
  | false => exact ⟨Or.inr rfl, fun e => by have e : (1 : Nat) = 0 := e; omega, hq⟩
theorem ptl_12 {W : List (Nat × Nat × Nat)} {z v c g : Nat} : ∀ (n p t : Nat), (ptl_ W z v c g n p t).length ≤ n ∧ ∀ x ∈ ptl_ W z v c g n p t, x < 12
  | 0, _, _ => ⟨Nat.le_refl _, fun x hx => by cases hx⟩
  | n + 1, p, t => by
    by_cases h : p = g
    · subst h
      rw [ptl_g]
      exact ⟨Nat.zero_le _, fun x hx => by cases hx⟩
    · cases e : nx_ W z v c g p t with
      | none =>
        have : ptl_ W z v c g (n + 1) p t = [] := by
          show (if p = g then [] else match nx_ W z v c g p t with
            | none => []
            | some q => q :: ptl_ W z v c g n q (nt_ z t q)) = _
          rw [if_neg h, e]
        rw [this]
        exact ⟨Nat.zero_le _, fun x hx => by cases hx⟩
      | some q =>
        rw [ptl_s h e]
        have ih := ptl_12 (W := W) (z := z) (v := v) (c := c) (g := g) n q (nt_ z t q)
        have hq := fst_u _ _ _ e
        refine ⟨by rw [List.length_cons]; omega, fun x hx => ?_⟩
        rcases List.mem_cons.mp hx with hx | hx
        · rw [hx]; omega
        · exact ih.2 x hx
/-- the world of drives, the class -/
def dwc_ (W : List (Nat × Nat × Nat)) (z : Nat) (O : List od_) (TR : tp_) (m : fm_) : Prop := tpc_ W z m ∧ oc1_ O m ∧ trc_ TR m
def dwok_ (W : List (Nat × Nat × Nat)) (z : Nat) (O : List od_) (TR : tp_) : Prop := wok_ W ∧ z < 4096 ∧ ok1_ O ∧ tok_ W TR
def dwd_ : List (Nat × Nat × Nat) := [(6, 6, 4), (6, 6, 5), (7, 9, 0), (13, 16, 0), (30, 30, 2), (32, 67, 0), (98, 98, 8), (99, 103, 0)]
theorem wi_r {d : List (Nat × Nat × Nat)} {q : Nat × Nat × Nat} {a k : Nat} (hq : q ∈ d) (h1 : q.1 ≤ a) (h2 : a ≤ q.2.1) (h3 : q.2.2 = 0 ∨ q.2.2 = k + 1) : wi_ d a k = true := wi_mem.mpr ⟨q, hq, h1, h2, h3⟩
theorem dwc_ag {W : List (Nat × Nat × Nat)} {z : Nat} {O : List od_} {TR : tp_} {m m1 : fm_} (hO : O.length ≤ 6) (h : dwc_ W z O TR m) (ha : ag_ dwd_ m m1) : dwc_ W z O TR m1 := by
  refine ⟨tpc_ag h.1 fun a k hk => ha a k ?_, ⟨(ha 30 1 rfl).1.trans h.2.1.1, fun j o hj => ?_⟩, (ha 98 7 rfl).1.trans h.2.2.1, fun j q hj => ?_⟩
  · obtain ⟨q, hq, h1⟩ := wi_mem.mp hk
    refine wi_mem.mpr ⟨q, ?_, h1⟩
    unfold tpd_ at hq
    unfold dwd_
    simp only [List.mem_cons, List.not_mem_nil, or_false] at hq ⊢
    rcases hq with hq | hq | hq | hq
    · exact Or.inl hq
    · exact Or.inr (Or.inl hq)
    · exact Or.inr (Or.inr (Or.inl hq))
    · exact Or.inr (Or.inr (Or.inr (Or.inl hq)))
  · have hjl := (List.getElem?_eq_some_iff.mp hj).1
    have := h.2.1.2 j o hj
    refine ⟨(ha (32 + 6 * j) 0 (wi_r (q := (32, 67, 0)) (by decide) (by show 32 ≤ _; omega) (by show _ ≤ 67; omega) (Or.inl rfl))).1.trans this.1, fun k hk => (ha (32 + 6 * j + 4) k (wi_r (q := (32, 67, 0)) (by decide) (by show 32 ≤ _; omega) (by show _ ≤ 67; omega) (Or.inl rfl))).1.trans (this.2 k hk)⟩
  · have := h.2.2.2 j q hj
    rw [(ha 99 j rfl).1, (ha 100 j rfl).1, (ha 101 j rfl).1, (ha 102 j rfl).1, (ha 103 j rfl).1]
    exact this
theorem follow_c {W : List (Nat × Nat × Nat)} {z : Nat} {O : List od_} {TR : tp_} (hk : dwok_ W z O TR) {m : fm_} (hm : dwc_ W z O TR m) {j : Nat} {q : Nat × Nat × Nat × Nat × Nat} (hq : TR[j]? = some q) {d : Nat} (hd : d < 100) (b : Bool) : ∃ m', f_X10_follow (nI j) (nI d) (b01_ b) m = some (0, m') ∧ rou_ (q.1 :: rtl_ W z O q d b) (lenl_ W q.1 (rtl_ W z O q d b)) m' ∧ dwc_ W z O TR m' := by
  obtain ⟨hW, hz, hO, hT⟩ := hk
  have hjl := (List.getElem?_eq_some_iff.mp hq).1
  have hl := hT.1
  obtain ⟨k1, k2, k3, k4, k5, k6, k7, k8, k9⟩ := hT.2 q (List.mem_of_getElem? hq)
  obtain ⟨g1, g2, g3, g4, g5⟩ := hm.2.2.2 j q hq
  have hc := ch_b hO q d b
  have tk : tk_ W z q.2.2.2.1 (ch_ O q d b) q.2.1 := ⟨hW, hz, k7, k8, hc, k2⟩
  have st := stt_t0 (z := z) (q := q) b k1
  have e1 := chg_c hO hm.2.1 hd k9
  have ez := isz_c hz hm.1.2.1 k1
  have p2 := pow_12 k1
  have nor : nI 0 ||| nI (2 ^ q.1) = nI (2 ^ q.1) := by
    rw [nI_or (k := 12) (by omega) p2 (by omega), Nat.zero_or]
  have ev : f_X10_visit (nI q.1) (si_ (si_ (si_ m 98 9 (nI 0)) 98 10 (nI 0)) 98 11 (nI 0)) = some (nI 0, si_ (si_ (si_ (si_ (si_ (si_ m 98 9 (nI 0)) 98 10 (nI 0)) 98 11 (nI 0)) 104 0 (nI q.1)) 98 9 (nI (0 + 1))) 98 10 (nI (2 ^ q.1))) := by
    unfold f_X10_visit
    simp (disch := omega) only [↓reduceIte, ↓ns_m1, ns_let, ns_lef, ns_ltt, ns_ltf, ns_eqt, ns_eqf, ns_gd, nI_clamp, nI_add, pk_sub, pk_mul, ns_m1a, ns_m1b, ns_m1c, ns_m1d, ns_m1e, ns_m1f, ns_m1g, ns_un1, ns_un0, ns_day1, Option.bind_some, gi_si_self, gi_si_ne, gl_si, gi_sl, gl_sl_self, gl_sl_ne, if_true, if_false, ns_i0, ns_i1, ns_i2, ns_i3, ns_i4, ns_i5, ns_i6, ns_i7, ns_i8, ns_i9, ns_i10, ns_i11, ns_i12, ns_i13, ns_i20, ns_i23, ns_i24, ns_i31, ns_i50, ns_i60, ns_i99, ns_i100, ns_i144, ns_i200, ns_i255, ns_i700, ns_i880, ns_i899, ns_i900, ns_i901, ns_i999, ns_i1000, ns_i1440, ns_i4095, ns_i1000000, ns_shl, nor]
  generalize hm1 : si_ (si_ (si_ (si_ (si_ (si_ m 98 9 (nI 0)) 98 10 (nI 0)) 98 11 (nI 0)) 104 0 (nI q.1)) 98 9 (nI (0 + 1))) 98 10 (nI (2 ^ q.1)) = m1 at ev
  have sa1 : sa_ [(104, 104, 0), (98, 98, 10), (98, 98, 11), (98, 98, 12)] m m1 := by
    rw [← hm1]
    exact sa_si (by rfl) (sa_si (by rfl) (sa_si (by rfl) (sa_si (by rfl) (sa_si (by rfl) (sa_si (by rfl) sa_rf)))))
  have w1 : dwc_ W z O TR m1 := dwc_ag hO.1 hm (sa_ag (by rfl) sa1)
  have r1 : rou_ [q.1] 0 m1 := by
    rw [← hm1]
    refine ⟨?_, ?_, ?_, fun i x hi => ?_⟩
    · simp (disch := omega) only [↓reduceIte, ↓ns_m1, ns_let, ns_lef, ns_ltt, ns_ltf, ns_eqt, ns_eqf, ns_gd, nI_clamp, nI_add, pk_sub, pk_mul, ns_m1a, ns_m1b, ns_m1c, ns_m1d, ns_m1e, ns_m1f, ns_m1g, ns_un1, ns_un0, ns_day1, Option.bind_some, gi_si_self, gi_si_ne, gl_si, gi_sl, gl_sl_self, gl_sl_ne, if_true, if_false, ns_i0, ns_i1, ns_i2, ns_i3, ns_i4, ns_i5, ns_i6, ns_i7, ns_i8, ns_i9, ns_i10, ns_i11, ns_i12, ns_i13, ns_i20, ns_i23, ns_i24, ns_i31, ns_i50, ns_i60, ns_i99, ns_i100, ns_i144, ns_i200, ns_i255, ns_i700, ns_i880, ns_i899, ns_i900, ns_i901, ns_i999, ns_i1000, ns_i1440, ns_i4095, ns_i1000000]
      rfl
    · simp (disch := omega) only [↓reduceIte, ↓ns_m1, ns_let, ns_lef, ns_ltt, ns_ltf, ns_eqt, ns_eqf, ns_gd, nI_clamp, nI_add, pk_sub, pk_mul, ns_m1a, ns_m1b, ns_m1c, ns_m1d, ns_m1e, ns_m1f, ns_m1g, ns_un1, ns_un0, ns_day1, Option.bind_some, gi_si_self, gi_si_ne, gl_si, gi_sl, gl_sl_self, gl_sl_ne, if_true, if_false, ns_i0, ns_i1, ns_i2, ns_i3, ns_i4, ns_i5, ns_i6, ns_i7, ns_i8, ns_i9, ns_i10, ns_i11, ns_i12, ns_i13, ns_i20, ns_i23, ns_i24, ns_i31, ns_i50, ns_i60, ns_i99, ns_i100, ns_i144, ns_i200, ns_i255, ns_i700, ns_i880, ns_i899, ns_i900, ns_i901, ns_i999, ns_i1000, ns_i1440, ns_i4095, ns_i1000000]
      show nI (2 ^ q.1) = nI (0 ||| 2 ^ q.1)
      rw [Nat.zero_or]
    · simp (disch := omega) only [↓reduceIte, ↓ns_m1, ns_let, ns_lef, ns_ltt, ns_ltf, ns_eqt, ns_eqf, ns_gd, nI_clamp, nI_add, pk_sub, pk_mul, ns_m1a, ns_m1b, ns_m1c, ns_m1d, ns_m1e, ns_m1f, ns_m1g, ns_un1, ns_un0, ns_day1, Option.bind_some, gi_si_self, gi_si_ne, gl_si, gi_sl, gl_sl_self, gl_sl_ne, if_true, if_false, ns_i0, ns_i1, ns_i2, ns_i3, ns_i4, ns_i5, ns_i6, ns_i7, ns_i8, ns_i9, ns_i10, ns_i11, ns_i12, ns_i13, ns_i20, ns_i23, ns_i24, ns_i31, ns_i50, ns_i60, ns_i99, ns_i100, ns_i144, ns_i200, ns_i255, ns_i700, ns_i880, ns_i899, ns_i900, ns_i901, ns_i999, ns_i1000, ns_i1440, ns_i4095, ns_i1000000]
    · cases i with
      | zero =>
        cases hi
        simp (disch := omega) only [↓reduceIte, ↓ns_m1, ns_let, ns_lef, ns_ltt, ns_ltf, ns_eqt, ns_eqf, ns_gd, nI_clamp, nI_add, pk_sub, pk_mul, ns_m1a, ns_m1b, ns_m1c, ns_m1d, ns_m1e, ns_m1f, ns_m1g, ns_un1, ns_un0, ns_day1, Option.bind_some, gi_si_self, gi_si_ne, gl_si, gi_sl, gl_sl_self, gl_sl_ne, if_true, if_false, ns_i0, ns_i1, ns_i2, ns_i3, ns_i4, ns_i5, ns_i6, ns_i7, ns_i8, ns_i9, ns_i10, ns_i11, ns_i12, ns_i13, ns_i20, ns_i23, ns_i24, ns_i31, ns_i50, ns_i60, ns_i99, ns_i100, ns_i144, ns_i200, ns_i255, ns_i700, ns_i880, ns_i899, ns_i900, ns_i901, ns_i999, ns_i1000, ns_i1440, ns_i4095, ns_i1000000]
      | succ i => cases hi
  obtain ⟨m2, e2, r2⟩ := fol_ tk (r := j) (x2 := nI d) (x3 := b01_ b) (by omega) 11 1 [q.1] 0 q.1 (t0_ z q b) m1 rfl rfl (fun x hx => by rw [List.mem_singleton.mp hx]; exact k1) w1.1 (w1.2.2.2 j q hq).2.1 (w1.2.2.2 j q hq).2.2.2.1 r1 st (kk_st tk k1 st.1 k4) (ms_11 k1) (by omega)
  have e0 : f_X10_follow (nI j) (nI d) (b01_ b) m = f_X10_follow_79 (nI j) (nI d) (b01_ b) (nI q.1) (nI (ch_ O q d b)) (nI (t0_ z q b)) (nI 1) m1 := by
    unfold f_X10_follow
    cases b with
    | true =>
      have eb : b01_ true = nI 1 := rfl
      have ec : ch_ O q d true = chg_ O d q.2.2.2.2 := rfl
      have et : t0_ z q true = bb_ z q.1 := rfl
      have hb := bb_lt z q.1
      rw [ec, et]
      by_cases cb : bb_ z q.1 = 1
      · simp (disch := omega) only [↓reduceIte, ↓ns_m1, ns_let, ns_lef, ns_ltt, ns_ltf, ns_eqt, ns_eqf, ns_gd, nI_clamp, nI_add, pk_sub, pk_mul, ns_m1a, ns_m1b, ns_m1c, ns_m1d, ns_m1e, ns_m1f, ns_m1g, ns_un1, ns_un0, ns_day1, Option.bind_some, gi_si_self, gi_si_ne, gl_si, gi_sl, gl_sl_self, gl_sl_ne, if_true, if_false, ns_i0, ns_i1, ns_i2, ns_i3, ns_i4, ns_i5, ns_i6, ns_i7, ns_i8, ns_i9, ns_i10, ns_i11, ns_i12, ns_i13, ns_i20, ns_i23, ns_i24, ns_i31, ns_i50, ns_i60, ns_i99, ns_i100, ns_i144, ns_i200, ns_i255, ns_i700, ns_i880, ns_i899, ns_i900, ns_i901, ns_i999, ns_i1000, ns_i1440, ns_i4095, ns_i1000000, eb, g1, g5, e1, ez, cb, ev]
      · have cb0 : bb_ z q.1 = 0 := by omega
        simp (disch := omega) only [↓reduceIte, ↓ns_m1, ns_let, ns_lef, ns_ltt, ns_ltf, ns_eqt, ns_eqf, ns_gd, nI_clamp, nI_add, pk_sub, pk_mul, ns_m1a, ns_m1b, ns_m1c, ns_m1d, ns_m1e, ns_m1f, ns_m1g, ns_un1, ns_un0, ns_day1, Option.bind_some, gi_si_self, gi_si_ne, gl_si, gi_sl, gl_sl_self, gl_sl_ne, if_true, if_false, ns_i0, ns_i1, ns_i2, ns_i3, ns_i4, ns_i5, ns_i6, ns_i7, ns_i8, ns_i9, ns_i10, ns_i11, ns_i12, ns_i13, ns_i20, ns_i23, ns_i24, ns_i31, ns_i50, ns_i60, ns_i99, ns_i100, ns_i144, ns_i200, ns_i255, ns_i700, ns_i880, ns_i899, ns_i900, ns_i901, ns_i999, ns_i1000, ns_i1440, ns_i4095, ns_i1000000, eb, g1, g5, e1, ez, cb0, ev]
    | false =>
      have eb : b01_ false = nI 0 := rfl
      have ec : ch_ O q d false = 0 := rfl
      have et : t0_ z q false = 1 := rfl
      rw [ec, et]
      simp (disch := omega) only [↓reduceIte, ↓ns_m1, ns_let, ns_lef, ns_ltt, ns_ltf, ns_eqt, ns_eqf, ns_gd, nI_clamp, nI_add, pk_sub, pk_mul, ns_m1a, ns_m1b, ns_m1c, ns_m1d, ns_m1e, ns_m1f, ns_m1g, ns_un1, ns_un0, ns_day1, Option.bind_some, gi_si_self, gi_si_ne, gl_si, gi_sl, gl_sl_self, gl_sl_ne, if_true, if_false, ns_i0, ns_i1, ns_i2, ns_i3, ns_i4, ns_i5, ns_i6, ns_i7, ns_i8, ns_i9, ns_i10, ns_i11, ns_i12, ns_i13, ns_i20, ns_i23, ns_i24, ns_i31, ns_i50, ns_i60, ns_i99, ns_i100, ns_i144, ns_i200, ns_i255, ns_i700, ns_i880, ns_i899, ns_i900, ns_i901, ns_i999, ns_i1000, ns_i1440, ns_i4095, ns_i1000000, eb, g1, ev]
  have e3 : f_X10_follow (nI j) (nI d) (b01_ b) m = some (0, m2) := e0.trans e2
  refine ⟨m2, e3, ?_, dwc_ag hO.1 hm (sa_ag (by rfl) (fr_X10_follow e3))⟩
  rw [Nat.zero_add] at r2
  exact r2
