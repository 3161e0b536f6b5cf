/-! ===== tables by a middle; the whole measure of the class ===== -/
theorem at_ {T : t2_} {c : Nat} {m : fm_} (h : tb_ T c m) {a b : Nat} (ha : a < 12) (hb : b < 12) : f_X9_at c (nI a) (nI b) m = some (nI (T a b), m) := by
  unfold f_X9_at
  simp (disch := omega) only [↓reduceIte, ↓ns_m1, ns_let, ns_lef, ns_ltt, ns_ltf, ns_eqt, ns_eqf, ns_gd, nI_clamp, nI_add, pk_sub, pk_mul, ns_m1a, ns_m1b, ns_m1c, ns_m1d, ns_m1e, ns_m1f, ns_m1g, ns_un1, ns_un0, ns_day1, Option.bind_some, gi_si_self, gi_si_ne, gl_si, gi_sl, gl_sl_self, gl_sl_ne, if_true, if_false, ns_i0, ns_i1, ns_i2, ns_i3, ns_i4, ns_i5, ns_i6, ns_i7, ns_i8, ns_i9, ns_i10, ns_i11, ns_i12, ns_i13, ns_i20, ns_i23, ns_i24, ns_i31, ns_i50, ns_i60, ns_i99, ns_i100, ns_i144, ns_i200, ns_i255, ns_i700, ns_i880, ns_i899, ns_i900, ns_i901, ns_i999, ns_i1000, ns_i1440, ns_i4095, ns_i1000000, h a b ha hb]
theorem near_ {T : t2_} {m : fm_} (h : tb_ T 14 m) {a b : Nat} (ha : a < 12) (hb : b < 12) : f_X9_near (nI a) (nI b) m = some (nI (T a b), m) := by
  unfold f_X9_near
  rw [at_ h ha hb]
  rfl
theorem beside_ {T : t2_} {m : fm_} (h : tb_ T 15 m) {a b : Nat} (ha : a < 12) (hb : b < 12) : f_X9_beside (nI a) (nI b) m = some (nI (T a b), m) := by
  unfold f_X9_beside
  rw [at_ h ha hb]
  rfl
theorem byzone_ {T : t2_} {m : fm_} (h : tb_ T 16 m) {a b : Nat} (ha : a < 12) (hb : b < 12) : f_X9_byZone (nI a) (nI b) m = some (nI (T a b), m) := by
  unfold f_X9_byZone
  rw [at_ h ha hb]
  rfl
theorem byout_ {T : t2_} {m : fm_} (h : tb_ T 17 m) {a b : Nat} (ha : a < 12) (hb : b < 12) : f_X9_byOutside (nI a) (nI b) m = some (nI (T a b), m) := by
  unfold f_X9_byOutside
  rw [at_ h ha hb]
  rfl
theorem join_ {T : t2_} (hT : far_ T) {s : Nat} {S : Nat → Bool} (hs4 : s < 4096) (hs : ∀ p, p < 12 → bb_ s p = if S p = true then 1 else 0) {c : Nat} (hc : 15 ≤ c) {m : fm_} (h : tb_ T 14 m) : ∃ m', f_X9_joinBy c (nI s) m = some (0, m') ∧ tb_ T 14 m' ∧ tb_ (fun a b => jb_ T S a b 12) c m' := by
  obtain ⟨m1, e1, h1, h2⟩ := lp0_ (n := 12) (F := fun a m => f_X9_joinBy_2 c (nI s) (nI a) m) (I := fun a m => tb_ T 14 m ∧ tf_ (fun a b => jb_ T S a b 12) c a 0 m) (fun a m0 ha hI => by
    obtain ⟨m2, e2, h3, h4⟩ := lp0_ (n := 12) (F := fun b m => f_X9_joinBy_11 c (nI s) (nI a) (nI b) m) (I := fun b m => tb_ T 14 m ∧ tf_ (fun a b => jb_ T S a b 12) c a b m) (fun b m3 hb hJ => by
      obtain ⟨x, e3, hx⟩ := lp0_ (n := 12) (F := fun k x => f_X9_joinBy_25 c (nI s) (nI a) (nI b) x (nI k) m3) (I := fun k x => x = nI (jb_ T S a b k)) (fun k x hk hx => by
        have hx : x = nI (jb_ T S a b k) := hx
        subst hx
        have sk := hs k hk
        have b0 := jb_far T S a b k
        have b1 := hT a k
        have b2 := hT k b
        have n1 := near_ hJ.1 ha hk
        have n2 := near_ hJ.1 hk hb
        show ∃ s', f_X9_joinBy_25 c (nI s) (nI a) (nI b) (nI (jb_ T S a b k)) (nI k) m3 = f_X9_joinBy_25 c (nI s) (nI a) (nI b) s' (nI (k + 1)) m3 ∧ s' = nI (if S k = true then min (jb_ T S a b k) (T a k + T k b) else jb_ T S a b k)
        rw [e_X9_joinBy_25]
        by_cases c1 : S k = true
        · rw [if_pos c1] at sk
          simp (disch := omega) only [↓reduceIte, ↓ns_m1, ns_let, ns_lef, ns_ltt, ns_ltf, ns_eqt, ns_eqf, ns_gd, nI_clamp, nI_add, pk_sub, pk_mul, ns_m1a, ns_m1b, ns_m1c, ns_m1d, ns_m1e, ns_m1f, ns_m1g, ns_un1, ns_un0, ns_day1, Option.bind_some, gi_si_self, gi_si_ne, gl_si, gi_sl, gl_sl_self, gl_sl_ne, if_true, if_false, ns_i0, ns_i1, ns_i2, ns_i3, ns_i4, ns_i5, ns_i6, ns_i7, ns_i8, ns_i9, ns_i10, ns_i11, ns_i12, ns_i13, ns_i20, ns_i23, ns_i24, ns_i31, ns_i50, ns_i60, ns_i99, ns_i100, ns_i144, ns_i200, ns_i255, ns_i700, ns_i880, ns_i899, ns_i900, ns_i901, ns_i999, ns_i1000, ns_i1440, ns_i4095, ns_i1000000, ns_bb, n1, n2, ns_mn, c1]
          exact ⟨_, rfl, rfl⟩
        · rw [if_neg c1] at sk
          simp (disch := omega) only [↓reduceIte, ↓ns_m1, ns_let, ns_lef, ns_ltt, ns_ltf, ns_eqt, ns_eqf, ns_gd, nI_clamp, nI_add, pk_sub, pk_mul, ns_m1a, ns_m1b, ns_m1c, ns_m1d, ns_m1e, ns_m1f, ns_m1g, ns_un1, ns_un0, ns_day1, Option.bind_some, gi_si_self, gi_si_ne, gl_si, gi_sl, gl_sl_self, gl_sl_ne, if_true, if_false, ns_i0, ns_i1, ns_i2, ns_i3, ns_i4, ns_i5, ns_i6, ns_i7, ns_i8, ns_i9, ns_i10, ns_i11, ns_i12, ns_i13, ns_i20, ns_i23, ns_i24, ns_i31, ns_i50, ns_i60, ns_i99, ns_i100, ns_i144, ns_i200, ns_i255, ns_i700, ns_i880, ns_i899, ns_i900, ns_i901, ns_i999, ns_i1000, ns_i1440, ns_i4095, ns_i1000000, ns_bb, c1]
          exact ⟨_, rfl, rfl⟩) (s := nI 1000000) rfl
      have hx : x = nI (jb_ T S a b 12) := hx
      have e3 : f_X9_joinBy_25 c (nI s) (nI a) (nI b) (nI 1000000) (nI 0) m3 = f_X9_joinBy_25 c (nI s) (nI a) (nI b) x (nI 12) m3 := e3
      show ∃ s', f_X9_joinBy_11 c (nI s) (nI a) (nI b) m3 = f_X9_joinBy_11 c (nI s) (nI a) (nI (b + 1)) s' ∧ _
      rw [e_X9_joinBy_11]
      simp (disch := omega) only [↓reduceIte, ↓ns_m1, ns_let, ns_lef, ns_ltt, ns_ltf, ns_eqt, ns_eqf, ns_gd, nI_clamp, nI_add, pk_sub, pk_mul, ns_m1a, ns_m1b, ns_m1c, ns_m1d, ns_m1e, ns_m1f, ns_m1g, ns_un1, ns_un0, ns_day1, Option.bind_some, gi_si_self, gi_si_ne, gl_si, gi_sl, gl_sl_self, gl_sl_ne, if_true, if_false, ns_i0, ns_i1, ns_i2, ns_i3, ns_i4, ns_i5, ns_i6, ns_i7, ns_i8, ns_i9, ns_i10, ns_i11, ns_i12, ns_i13, ns_i20, ns_i23, ns_i24, ns_i31, ns_i50, ns_i60, ns_i99, ns_i100, ns_i144, ns_i200, ns_i255, ns_i700, ns_i880, ns_i899, ns_i900, ns_i901, ns_i999, ns_i1000, ns_i1440, ns_i4095, ns_i1000000, e3]
      rw [e_X9_joinBy_25]
      simp (disch := omega) only [↓reduceIte, ↓ns_m1, ns_let, ns_lef, ns_ltt, ns_ltf, ns_eqt, ns_eqf, ns_gd, nI_clamp, nI_add, pk_sub, pk_mul, ns_m1a, ns_m1b, ns_m1c, ns_m1d, ns_m1e, ns_m1f, ns_m1g, ns_un1, ns_un0, ns_day1, Option.bind_some, gi_si_self, gi_si_ne, gl_si, gi_sl, gl_sl_self, gl_sl_ne, if_true, if_false, ns_i0, ns_i1, ns_i2, ns_i3, ns_i4, ns_i5, ns_i6, ns_i7, ns_i8, ns_i9, ns_i10, ns_i11, ns_i12, ns_i13, ns_i20, ns_i23, ns_i24, ns_i31, ns_i50, ns_i60, ns_i99, ns_i100, ns_i144, ns_i200, ns_i255, ns_i700, ns_i880, ns_i899, ns_i900, ns_i901, ns_i999, ns_i1000, ns_i1440, ns_i4095, ns_i1000000]
      refine ⟨_, rfl, fun u v hu hv => ?_, tf_si hJ.2 hx hb⟩
      rw [gi_si_ne (by omega)]
      exact hJ.1 u v hu hv) (s := m0) hI
    refine ⟨m2, ?_, h3, tf_r h4⟩
    show f_X9_joinBy_2 c (nI s) (nI a) m0 = f_X9_joinBy_2 c (nI s) (nI (a + 1)) m2
    rw [e_X9_joinBy_2]
    have e2 : f_X9_joinBy_11 c (nI s) (nI a) (nI 0) m0 = f_X9_joinBy_11 c (nI s) (nI a) (nI 12) m2 := e2
    simp (disch := omega) only [↓reduceIte, ↓ns_m1, ns_let, ns_lef, ns_ltt, ns_ltf, ns_eqt, ns_eqf, ns_gd, nI_clamp, nI_add, pk_sub, pk_mul, ns_m1a, ns_m1b, ns_m1c, ns_m1d, ns_m1e, ns_m1f, ns_m1g, ns_un1, ns_un0, ns_day1, Option.bind_some, gi_si_self, gi_si_ne, gl_si, gi_sl, gl_sl_self, gl_sl_ne, if_true, if_false, ns_i0, ns_i1, ns_i2, ns_i3, ns_i4, ns_i5, ns_i6, ns_i7, ns_i8, ns_i9, ns_i10, ns_i11, ns_i12, ns_i13, ns_i20, ns_i23, ns_i24, ns_i31, ns_i50, ns_i60, ns_i99, ns_i100, ns_i144, ns_i200, ns_i255, ns_i700, ns_i880, ns_i899, ns_i900, ns_i901, ns_i999, ns_i1000, ns_i1440, ns_i4095, ns_i1000000, e2]
    rw [e_X9_joinBy_11]
    simp (disch := omega) only [↓reduceIte, ↓ns_m1, ns_let, ns_lef, ns_ltt, ns_ltf, ns_eqt, ns_eqf, ns_gd, nI_clamp, nI_add, pk_sub, pk_mul, ns_m1a, ns_m1b, ns_m1c, ns_m1d, ns_m1e, ns_m1f, ns_m1g, ns_un1, ns_un0, ns_day1, Option.bind_some, gi_si_self, gi_si_ne, gl_si, gi_sl, gl_sl_self, gl_sl_ne, if_true, if_false, ns_i0, ns_i1, ns_i2, ns_i3, ns_i4, ns_i5, ns_i6, ns_i7, ns_i8, ns_i9, ns_i10, ns_i11, ns_i12, ns_i13, ns_i20, ns_i23, ns_i24, ns_i31, ns_i50, ns_i60, ns_i99, ns_i100, ns_i144, ns_i200, ns_i255, ns_i700, ns_i880, ns_i899, ns_i900, ns_i901, ns_i999, ns_i1000, ns_i1440, ns_i4095, ns_i1000000]) (s := m) ⟨h, fun x y _ _ q => by omega⟩
  refine ⟨m1, ?_, h1, fun a b ha hb => h2 a b ha hb (by omega)⟩
  show f_X9_joinBy_2 c (nI s) (nI 0) m = _
  have e1 : f_X9_joinBy_2 c (nI s) (nI 0) m = f_X9_joinBy_2 c (nI s) (nI 12) m1 := e1
  rw [e1, e_X9_joinBy_2]
  simp (disch := omega) only [↓reduceIte, ↓ns_m1, ns_let, ns_lef, ns_ltt, ns_ltf, ns_eqt, ns_eqf, ns_gd, nI_clamp, nI_add, pk_sub, pk_mul, ns_m1a, ns_m1b, ns_m1c, ns_m1d, ns_m1e, ns_m1f, ns_m1g, ns_un1, ns_un0, ns_day1, Option.bind_some, gi_si_self, gi_si_ne, gl_si, gi_sl, gl_sl_self, gl_sl_ne, if_true, if_false, ns_i0, ns_i1, ns_i2, ns_i3, ns_i4, ns_i5, ns_i6, ns_i7, ns_i8, ns_i9, ns_i10, ns_i11, ns_i12, ns_i13, ns_i20, ns_i23, ns_i24, ns_i31, ns_i50, ns_i60, ns_i99, ns_i100, ns_i144, ns_i200, ns_i255, ns_i700, ns_i880, ns_i899, ns_i900, ns_i901, ns_i999, ns_i1000, ns_i1440, ns_i4095, ns_i1000000]
/-! sets -/
theorem cpl_ {z : Nat} (hz : z < 4096) : nI 4095 &&& (nI z ^^^ M1_) = nI (4095 - z) := by
  have key : ∀ u, u < 64 → ∀ v, v < 64 → nI 4095 &&& (nI (64 * u + v) ^^^ M1_) = nI (4095 - (64 * u + v)) := by decide +kernel
  have := key (z / 64) (by omega) (z % 64) (by omega)
  rw [show 64 * (z / 64) + z % 64 = z by omega] at this
  exact this
theorem bb_co {z p : Nat} (hz : z < 4096) (hp : p < 12) : bb_ (4095 - z) p = if (!(zb_ z p)) = true then 1 else 0 := by
  have h := Nat.testBit_two_pow_sub_succ (x := z) (n := 12) (by omega) p
  rw [show 2 ^ 12 - (z + 1) = 4095 - z by omega, decide_eq_true hp, Bool.true_and] at h
  rw [bb_tb, h]
  unfold zb_
  rw [bb_tb]
  cases z.testBit p <;> rfl
theorem bb_zb (z p : Nat) : bb_ z p = if zb_ z p = true then 1 else 0 := by
  have := bb_lt z p
  unfold zb_
  by_cases h : bb_ z p = 1
  · rw [decide_eq_true h, h]; rfl
  · rw [decide_eq_false h]; show bb_ z p = 0; omega
theorem bb_all {p : Nat} (hp : p < 12) : bb_ 4095 p = if (fun _ => true) p = true then 1 else 0 := by
  have : ∀ p, p < 12 → bb_ 4095 p = 1 := by decide +kernel
  exact this p hp
/-- the tables of the class -/
def tabc_ (W : List (Nat × Nat × Nat)) (z : Nat) (m : fm_) : Prop := ho_ (hp_ W W.length) m ∧ tb_ (ner_ W) 14 m ∧ tb_ (bes_ W z) 15 m ∧ tb_ (byz_ W z) 16 m ∧ tb_ (byo_ W z) 17 m
theorem ner_far {W : List (Nat × Nat × Nat)} (hW : wok_ W) : far_ (ner_ W) := fwd_far (st0_far hW _) 12
theorem bes_far {W : List (Nat × Nat × Nat)} (hW : wok_ W) (z : Nat) : far_ (bes_ W z) := fwd_far (st0_far hW _) 12
theorem ho_sa {H : Nat → Nat → Option Nat} {m m1 : fm_} (h : ho_ H m) {w : List (Nat × Nat × Nat)} (hs : sa_ w m m1) (hw : ∀ k, wi_ w 13 k = false) : ho_ H m1 := fun a b ha hb => (sa_gi hs (hw _)).trans (h a b ha hb)
theorem meas_c {W : List (Nat × Nat × Nat)} (hW : wok_ W) {z : Nat} (hz : z < 4096) {m : fm_} (hr : wc_ W m) (h6 : gi_ m 6 4 = nI z) : ∃ m', f_X9_measure m = some (0, m') ∧ tabc_ W z m' := by
  have hl := hW.1
  obtain ⟨m1, e1, f1⟩ := fill_ (a0 := 13) (L := 144) (x := -1) (by omega) m
  have r1 : wc_ W m1 := wc_ag hr (sa_ag (by rfl) (fr_J7_fill_53178 e1))
  have z1 : gi_ m1 6 4 = nI z := (sa_gi (fr_J7_fill_53178 e1) (by rfl)).trans h6
  obtain ⟨m2, e2, r2, h2, z2⟩ := me10_ hW r1 (fun a b ha hb => f1 _ (by omega)) z1
  obtain ⟨m3, e3, r3, t3⟩ := spread_ hW (s := 4095) (S := fun _ => true) (by omega) (fun p hp => bb_all hp) (c := 14) (by omega) (m := m2) ⟨r2, h2⟩
  have z3 : gi_ m3 6 4 = nI z := (sa_gi (fr_X9_spread e3) (by rfl)).trans z2
  obtain ⟨m4, e4, r4, t4⟩ := spread_ hW (s := 4095 - z) (S := fun p => !(zb_ z p)) (by omega) (fun p hp => bb_co hz hp) (c := 15) (by omega) (m := m3) r3
  have z4 : gi_ m4 6 4 = nI z := (sa_gi (fr_X9_spread e4) (by rfl)).trans z3
  have n4 : tb_ (ner_ W) 14 m4 := tb_sa t3 (fr_X9_spread e4) (fun k => by rfl)
  obtain ⟨m5, e5, n5, t5⟩ := join_ (ner_far hW) (s := z) (S := zb_ z) hz (fun p hp => bb_zb z p) (c := 16) (by omega) n4
  have z5 : gi_ m5 6 4 = nI z := (sa_gi (fr_X9_joinBy e5) (by rfl)).trans z4
  obtain ⟨m6, e6, n6, t6⟩ := join_ (ner_far hW) (s := 4095 - z) (S := fun p => !(zb_ z p)) (by omega) (fun p hp => bb_co hz hp) (c := 17) (by omega) n5
  have e0 : f_X9_measure m = f_X9_measure_10 (nI W.length) m2 := by
    unfold f_X9_measure
    rw [e1]
    simp only [Option.bind_some]
    exact e2
  refine ⟨m6, ?_, ?_, n6, ?_, ?_, t6⟩
  · rw [e0, e_X9_measure_10]
    simp (disch := omega) only [↓reduceIte, ↓ns_m1, ns_let, ns_lef, ns_ltt, ns_ltf, ns_eqt, ns_eqf, ns_gd, nI_clamp, nI_add, pk_sub, pk_mul, ns_m1a, ns_m1b, ns_m1c, ns_m1d, ns_m1e, ns_m1f, ns_m1g, ns_un1, ns_un0, ns_day1, Option.bind_some, gi_si_self, gi_si_ne, gl_si, gi_sl, gl_sl_self, gl_sl_ne, if_true, if_false, ns_i0, ns_i1, ns_i2, ns_i3, ns_i4, ns_i5, ns_i6, ns_i7, ns_i8, ns_i9, ns_i10, ns_i11, ns_i12, ns_i13, ns_i20, ns_i23, ns_i24, ns_i31, ns_i50, ns_i60, ns_i99, ns_i100, ns_i144, ns_i200, ns_i255, ns_i700, ns_i880, ns_i899, ns_i900, ns_i901, ns_i999, ns_i1000, ns_i1440, ns_i4095, ns_i1000000, r2.1, e3, z3, cpl_ hz, e4, z4, e5, z5, e6]
  · exact ho_sa (ho_sa r4.2 (fr_X9_joinBy e5) (fun k => by rfl)) (fr_X9_joinBy e6) (fun k => by rfl)
  · exact tb_sa (tb_sa t4 (fr_X9_joinBy e5) (fun k => by rfl)) (fr_X9_joinBy e6) (fun k => by rfl)
  · exact tb_sa t5 (fr_X9_joinBy e6) (fun k => by rfl)
/-! ===== the reference measures ===== -/
def wm_ (W : List (Nat × Nat × Nat)) (m : fm_) : Prop := gi_ m 106 29 = nI W.length ∧ ∀ j q, W[j]? = some q → gi_ m 114 j = nI q.1 ∧ gi_ m 115 j = nI q.2.1 ∧ gi_ m 116 j = nI q.2.2
def hmn_ (W : List (Nat × Nat × Nat)) (n : Nat) : t2_ := fun a b => mi_ W (hp_ W n a b)
theorem wm_si {W : List (Nat × Nat × Nat)} {m : fm_} (h : wm_ W m) {c : Nat} (hc : 120 ≤ c) {k : Nat} {x : Int32} : wm_ W (si_ m c k x) :=
  ⟨(gi_si_ne (by omega)).trans h.1, fun j q hq => by
    rw [gi_si_ne (by omega), gi_si_ne (by omega), gi_si_ne (by omega)]
    exact h.2 j q hq⟩
theorem tb_c {T : t2_} {c : Nat} {m : fm_} (h : tb_ T c m) {a b : Nat} (ha : a < 12) (hb : b < 12) : gi_ m c (12 * a + b) = nI (T a b) := by
  rw [Nat.mul_comm]
  exact h a b ha hb
theorem tb_sc {T : t2_} {c : Nat} {m : fm_} {a b v : Nat} (h : tb_ T c m) (ha : a < 12) (hb : b < 12) : tb_ (u2_ T a b v) c (si_ m c (12 * a + b) (nI v)) := by
  rw [Nat.mul_comm 12 a]
  exact tb_si h ha hb
theorem of_mi {W : List (Nat × Nat × Nat)} {o : Option Nat} {i : Nat} {q : Nat × Nat × Nat} (hq : W[i]? = some q) : mi_ W (of_ W o i q.2.2) = if q.2.2 < mi_ W o then q.2.2 else mi_ W o := by
  unfold of_
  by_cases c : q.2.2 < mi_ W o
  · rw [if_pos c, if_pos c, mi_some hq]
  · rw [if_neg c, if_neg c]
theorem hmn_two {W : List (Nat × Nat × Nat)} {n : Nat} {q : Nat × Nat × Nat} (hq : W[n]? = some q) {v : Nat} (hv : v = mi_ W (of_ W (hp_ W n q.1 q.2.1) n q.2.2)) : u2_ (u2_ (hmn_ W n) q.1 q.2.1 v) q.2.1 q.1 v = hmn_ W (n + 1) := by
  funext x y
  unfold u2_ hmn_
  rw [hp_s hq]
  by_cases c1 : x = q.2.1 ∧ y = q.1
  · rw [if_pos c1, if_pos (Or.inr c1), hv, c1.1, c1.2, hp_sym W n q.2.1 q.1]
  · rw [if_neg c1]
    by_cases c2 : x = q.1 ∧ y = q.2.1
    · rw [if_pos c2, if_pos (Or.inl c2), hv, c2.1, c2.2]
    · rw [if_neg c2, if_neg (by omega)]
theorem u2_id (T : t2_) (a b : Nat) : u2_ T a b (T a b) = T := by
  funext x y
  unfold u2_
  by_cases e : x = a ∧ y = b
  · rw [if_pos e, e.1, e.2]
  · rw [if_neg e]
theorem mm26_ {W : List (Nat × Nat × Nat)} (hW : wok_ W) {m : fm_} (hr : wm_ W m) (h : tb_ (hmn_ W 0) 121 m) : ∃ m', f_X12_measure_26 (nI 0) m = f_X12_measure_26 (nI W.length) m' ∧ wm_ W m' ∧ tb_ (hmn_ W W.length) 121 m' := by
  refine lp0_ (n := W.length) (F := fun i m => f_X12_measure_26 (nI i) m) (I := fun i m => wm_ W m ∧ tb_ (hmn_ W i) 121 m) ?_ ⟨hr, h⟩
  intro i s hi ⟨hr, h⟩
  have hl := hW.1
  have hq := List.getElem?_eq_getElem hi
  generalize W[i] = q at hq
  have hv := hW.2 q (List.mem_of_getElem? hq)
  obtain ⟨g7, g8, g9⟩ := hr.2 i q hq
  obtain ⟨h1, h2, h3, h4, h5⟩ := hv
  have t1 := tb_c h h1 h2
  have b1 : hmn_ W i q.1 q.2.1 ≤ 1000000 := mi_far hW _
  have om : mi_ W (of_ W (hp_ W i q.1 q.2.1) i q.2.2) = if q.2.2 < hmn_ W i q.1 q.2.1 then q.2.2 else hmn_ W i q.1 q.2.1 := of_mi hq
  show ∃ s', f_X12_measure_26 (nI i) s = f_X12_measure_26 (nI (i + 1)) s' ∧ _
  rw [e_X12_measure_26]
  by_cases c : q.2.2 < hmn_ W i q.1 q.2.1
  · rw [if_pos c] at om
    simp (disch := omega) only [↓reduceIte, ↓ns_m1, ns_let, ns_lef, ns_ltt, ns_ltf, ns_eqt, ns_eqf, ns_gd, nI_clamp, nI_add, pk_sub, pk_mul, ns_m1a, ns_m1b, ns_m1c, ns_m1d, ns_m1e, ns_m1f, ns_m1g, ns_un1, ns_un0, ns_day1, Option.bind_some, gi_si_self, gi_si_ne, gl_si, gi_sl, gl_sl_self, gl_sl_ne, if_true, if_false, ns_i0, ns_i1, ns_i2, ns_i3, ns_i4, ns_i5, ns_i6, ns_i7, ns_i8, ns_i9, ns_i10, ns_i11, ns_i12, ns_i13, ns_i20, ns_i23, ns_i24, ns_i31, ns_i50, ns_i60, ns_i99, ns_i100, ns_i144, ns_i200, ns_i255, ns_i700, ns_i880, ns_i899, ns_i900, ns_i901, ns_i999, ns_i1000, ns_i1440, ns_i4095, ns_i1000000, hr.1, g7, g8, g9, t1]
    refine ⟨_, rfl, wm_si (wm_si hr (by omega)) (by omega), ?_⟩
    rw [← hmn_two hq om.symm]
    exact tb_sc (tb_sc h h1 h2) h2 h1
  · rw [if_neg c] at om
    simp (disch := omega) only [↓reduceIte, ↓ns_m1, ns_let, ns_lef, ns_ltt, ns_ltf, ns_eqt, ns_eqf, ns_gd, nI_clamp, nI_add, pk_sub, pk_mul, ns_m1a, ns_m1b, ns_m1c, ns_m1d, ns_m1e, ns_m1f, ns_m1g, ns_un1, ns_un0, ns_day1, Option.bind_some, gi_si_self, gi_si_ne, gl_si, gi_sl, gl_sl_self, gl_sl_ne, if_true, if_false, ns_i0, ns_i1, ns_i2, ns_i3, ns_i4, ns_i5, ns_i6, ns_i7, ns_i8, ns_i9, ns_i10, ns_i11, ns_i12, ns_i13, ns_i20, ns_i23, ns_i24, ns_i31, ns_i50, ns_i60, ns_i99, ns_i100, ns_i144, ns_i200, ns_i255, ns_i700, ns_i880, ns_i899, ns_i900, ns_i901, ns_i999, ns_i1000, ns_i1440, ns_i4095, ns_i1000000, hr.1, g7, g8, g9, t1]
    refine ⟨_, rfl, wm_si hr (by omega), ?_⟩
    rw [← hmn_two hq om.symm, u2_id]
    exact tb_sc h h2 h1
theorem mm138_ {W : List (Nat × Nat × Nat)} (hW : wok_ W) {m : fm_} (h : tb_ (hm_ W) 121 m) : ∃ m', f_X12_measure_138 (nI 0) m = f_X12_measure_180 (nI 0) m' ∧ tb_ (hm_ W) 121 m' ∧ tb_ (st0_ W fun _ => true) 120 m' := by
  obtain ⟨m1, e1, h1, h2⟩ := lp0_ (n := 144) (F := fun i m => f_X12_measure_138 (nI i) m) (I := fun i m => tb_ (hm_ W) 121 m ∧ ∀ a b, a < 12 → b < 12 → a * 12 + b < i → gi_ m 120 (a * 12 + b) = nI (st0_ W (fun _ => true) a b)) (fun i s hi hI => by
    obtain ⟨k1, k2⟩ := hI
    have hab : (i / 12) * 12 + i % 12 = i := by omega
    have t1 := k1 (i / 12) (i % 12) (by omega) (by omega)
    rw [hab] at t1
    show ∃ s', f_X12_measure_138 (nI i) s = f_X12_measure_138 (nI (i + 1)) s' ∧ _
    rw [e_X12_measure_138]
    have fin : ∀ x : Int32, x = nI (st0_ W (fun _ => true) (i / 12) (i % 12)) → tb_ (hm_ W) 121 (si_ s 120 i x) ∧ ∀ a b, a < 12 → b < 12 → a * 12 + b < i + 1 → gi_ (si_ s 120 i x) 120 (a * 12 + b) = nI (st0_ W (fun _ => true) a b) := fun x hx => by
      refine ⟨fun a b ha hb => (gi_si_ne (by omega)).trans (k1 a b ha hb), fun a b ha hb hl => ?_⟩
      by_cases e : a * 12 + b = i
      · rw [e, gi_si_self, hx, show i / 12 = a by omega, show i % 12 = b by omega]
      · rw [gi_si_ne (by omega)]
        exact k2 a b ha hb (by omega)
    by_cases c : i / 12 = i % 12
    · have e0 : st0_ W (fun _ => true) (i / 12) (i % 12) = 0 := by unfold st0_; simp [c]
      simp (disch := omega) only [↓reduceIte, ↓ns_m1, ns_let, ns_lef, ns_ltt, ns_ltf, ns_eqt, ns_eqf, ns_gd, nI_clamp, nI_add, pk_sub, pk_mul, ns_m1a, ns_m1b, ns_m1c, ns_m1d, ns_m1e, ns_m1f, ns_m1g, ns_un1, ns_un0, ns_day1, Option.bind_some, gi_si_self, gi_si_ne, gl_si, gi_sl, gl_sl_self, gl_sl_ne, if_true, if_false, ns_i0, ns_i1, ns_i2, ns_i3, ns_i4, ns_i5, ns_i6, ns_i7, ns_i8, ns_i9, ns_i10, ns_i11, ns_i12, ns_i13, ns_i20, ns_i23, ns_i24, ns_i31, ns_i50, ns_i60, ns_i99, ns_i100, ns_i144, ns_i200, ns_i255, ns_i700, ns_i880, ns_i899, ns_i900, ns_i901, ns_i999, ns_i1000, ns_i1440, ns_i4095, ns_i1000000, pk_div]
      exact ⟨_, rfl, fin _ (by rw [e0])⟩
    · have e0 : st0_ W (fun _ => true) (i / 12) (i % 12) = hm_ W (i / 12) (i % 12) := by unfold st0_; simp [c]
      simp (disch := omega) only [↓reduceIte, ↓ns_m1, ns_let, ns_lef, ns_ltt, ns_ltf, ns_eqt, ns_eqf, ns_gd, nI_clamp, nI_add, pk_sub, pk_mul, ns_m1a, ns_m1b, ns_m1c, ns_m1d, ns_m1e, ns_m1f, ns_m1g, ns_un1, ns_un0, ns_day1, Option.bind_some, gi_si_self, gi_si_ne, gl_si, gi_sl, gl_sl_self, gl_sl_ne, if_true, if_false, ns_i0, ns_i1, ns_i2, ns_i3, ns_i4, ns_i5, ns_i6, ns_i7, ns_i8, ns_i9, ns_i10, ns_i11, ns_i12, ns_i13, ns_i20, ns_i23, ns_i24, ns_i31, ns_i50, ns_i60, ns_i99, ns_i100, ns_i144, ns_i200, ns_i255, ns_i700, ns_i880, ns_i899, ns_i900, ns_i901, ns_i999, ns_i1000, ns_i1440, ns_i4095, ns_i1000000, pk_div, t1]
      exact ⟨_, rfl, fin _ (by rw [e0])⟩) (s := m) ⟨h, fun a b _ _ q => by omega⟩
  have e1 : f_X12_measure_138 (nI 0) m = f_X12_measure_138 (nI 144) m1 := e1
  refine ⟨m1, ?_, h1, fun a b ha hb => h2 a b ha hb (by omega)⟩
  rw [e1, e_X12_measure_138]
  simp (disch := omega) only [↓reduceIte, ↓ns_m1, ns_let, ns_lef, ns_ltt, ns_ltf, ns_eqt, ns_eqf, ns_gd, nI_clamp, nI_add, pk_sub, pk_mul, ns_m1a, ns_m1b, ns_m1c, ns_m1d, ns_m1e, ns_m1f, ns_m1g, ns_un1, ns_un0, ns_day1, Option.bind_some, gi_si_self, gi_si_ne, gl_si, gi_sl, gl_sl_self, gl_sl_ne, if_true, if_false, ns_i0, ns_i1, ns_i2, ns_i3, ns_i4, ns_i5, ns_i6, ns_i7, ns_i8, ns_i9, ns_i10, ns_i11, ns_i12, ns_i13, ns_i20, ns_i23, ns_i24, ns_i31, ns_i50, ns_i60, ns_i99, ns_i100, ns_i144, ns_i200, ns_i255, ns_i700, ns_i880, ns_i899, ns_i900, ns_i901, ns_i999, ns_i1000, ns_i1440, ns_i4095, ns_i1000000]
theorem mm180_ {T U : t2_} (hT : far_ T) {m : fm_} (hu : tb_ U 121 m) (h : tb_ T 120 m) : ∃ m', f_X12_measure_180 (nI 0) m = some (0, m') ∧ tb_ U 121 m' ∧ tb_ (fwd_ T 12) 120 m' := by
  obtain ⟨m1, e1, u1, h1⟩ := lp0_ (n := 12) (F := fun k m => f_X12_measure_180 (nI k) m) (I := fun k m => tb_ U 121 m ∧ tb_ (fwd_ T k) 120 m) (fun k m0 hk hI => by
    have hI : tb_ U 121 m0 ∧ tb_ (fwd_ T k) 120 m0 := hI
    have hF := fwd_far hT k
    generalize hV : fwd_ T k = V at hI hF
    obtain ⟨m2, e2, u2, h2⟩ := lp0_ (n := 12) (F := fun a m => f_X12_measure_188 (nI k) (nI a) m) (I := fun a m => tb_ U 121 m ∧ tb_ (fwq_ V k a 0) 120 m) (fun a m3 ha hJ => by
      show ∃ s', f_X12_measure_188 (nI k) (nI a) m3 = f_X12_measure_188 (nI k) (nI (a + 1)) s' ∧ tb_ U 121 s' ∧ tb_ (fwq_ V k (a + 1) 0) 120 s'
      obtain ⟨m4, e4, u4, h4⟩ := lp0_ (n := 12) (F := fun b m => f_X12_measure_196 (nI k) (nI a) (nI b) m) (I := fun b m => tb_ U 121 m ∧ tb_ (fwq_ V k a b) 120 m) (fun b m5 hb hK => by
        obtain ⟨hK1, hK⟩ := hK
        have hK : tb_ (fwq_ V k a b) 120 m5 := hK
        show ∃ s', f_X12_measure_196 (nI k) (nI a) (nI b) m5 = f_X12_measure_196 (nI k) (nI a) (nI (b + 1)) s' ∧ tb_ U 121 s' ∧ tb_ (fwq_ V k a (b + 1)) 120 s'
        have g1 := tb_c hK ha hk
        have g2 := tb_c hK ha hb
        have g3 := tb_c hK hk hb
        rw [fwq_col] at g1
        rw [fwq_at] at g2
        rw [fwq_row] at g3
        have b0 := hF a k
        have b1 := hF a b
        have b2 := hF k b
        rw [e_X12_measure_196]
        rw [← fwq_step]
        by_cases c : V a b ≤ V a k + V k b
        · simp (disch := omega) only [↓reduceIte, ↓ns_m1, ns_let, ns_lef, ns_ltt, ns_ltf, ns_eqt, ns_eqf, ns_gd, nI_clamp, nI_add, pk_sub, pk_mul, ns_m1a, ns_m1b, ns_m1c, ns_m1d, ns_m1e, ns_m1f, ns_m1g, ns_un1, ns_un0, ns_day1, Option.bind_some, gi_si_self, gi_si_ne, gl_si, gi_sl, gl_sl_self, gl_sl_ne, if_true, if_false, ns_i0, ns_i1, ns_i2, ns_i3, ns_i4, ns_i5, ns_i6, ns_i7, ns_i8, ns_i9, ns_i10, ns_i11, ns_i12, ns_i13, ns_i20, ns_i23, ns_i24, ns_i31, ns_i50, ns_i60, ns_i99, ns_i100, ns_i144, ns_i200, ns_i255, ns_i700, ns_i880, ns_i899, ns_i900, ns_i901, ns_i999, ns_i1000, ns_i1440, ns_i4095, ns_i1000000, g1, g2, g3]
          refine ⟨_, rfl, hK1, ?_⟩
          rw [Nat.min_eq_left c, ← fwq_at V k a b, u2_id]
          exact hK
        · simp (disch := omega) only [↓reduceIte, ↓ns_m1, ns_let, ns_lef, ns_ltt, ns_ltf, ns_eqt, ns_eqf, ns_gd, nI_clamp, nI_add, pk_sub, pk_mul, ns_m1a, ns_m1b, ns_m1c, ns_m1d, ns_m1e, ns_m1f, ns_m1g, ns_un1, ns_un0, ns_day1, Option.bind_some, gi_si_self, gi_si_ne, gl_si, gi_sl, gl_sl_self, gl_sl_ne, if_true, if_false, ns_i0, ns_i1, ns_i2, ns_i3, ns_i4, ns_i5, ns_i6, ns_i7, ns_i8, ns_i9, ns_i10, ns_i11, ns_i12, ns_i13, ns_i20, ns_i23, ns_i24, ns_i31, ns_i50, ns_i60, ns_i99, ns_i100, ns_i144, ns_i200, ns_i255, ns_i700, ns_i880, ns_i899, ns_i900, ns_i901, ns_i999, ns_i1000, ns_i1440, ns_i4095, ns_i1000000, g1, g2, g3]
          refine ⟨_, rfl, fun x y hx hy => (gi_si_ne (by omega)).trans (hK1 x y hx hy), ?_⟩
          rw [Nat.min_eq_right (by omega)]
          exact tb_sc hK ha hb) (s := m3) hJ
      have e4 : f_X12_measure_196 (nI k) (nI a) (nI 0) m3 = f_X12_measure_196 (nI k) (nI a) (nI 12) m4 := e4
      rw [e_X12_measure_188]
      simp (disch := omega) only [↓reduceIte, ↓ns_m1, ns_let, ns_lef, ns_ltt, ns_ltf, ns_eqt, ns_eqf, ns_gd, nI_clamp, nI_add, pk_sub, pk_mul, ns_m1a, ns_m1b, ns_m1c, ns_m1d, ns_m1e, ns_m1f, ns_m1g, ns_un1, ns_un0, ns_day1, Option.bind_some, gi_si_self, gi_si_ne, gl_si, gi_sl, gl_sl_self, gl_sl_ne, if_true, if_false, ns_i0, ns_i1, ns_i2, ns_i3, ns_i4, ns_i5, ns_i6, ns_i7, ns_i8, ns_i9, ns_i10, ns_i11, ns_i12, ns_i13, ns_i20, ns_i23, ns_i24, ns_i31, ns_i50, ns_i60, ns_i99, ns_i100, ns_i144, ns_i200, ns_i255, ns_i700, ns_i880, ns_i899, ns_i900, ns_i901, ns_i999, ns_i1000, ns_i1440, ns_i4095, ns_i1000000, e4]
      rw [e_X12_measure_196]
      simp (disch := omega) only [↓reduceIte, ↓ns_m1, ns_let, ns_lef, ns_ltt, ns_ltf, ns_eqt, ns_eqf, ns_gd, nI_clamp, nI_add, pk_sub, pk_mul, ns_m1a, ns_m1b, ns_m1c, ns_m1d, ns_m1e, ns_m1f, ns_m1g, ns_un1, ns_un0, ns_day1, Option.bind_some, gi_si_self, gi_si_ne, gl_si, gi_sl, gl_sl_self, gl_sl_ne, if_true, if_false, ns_i0, ns_i1, ns_i2, ns_i3, ns_i4, ns_i5, ns_i6, ns_i7, ns_i8, ns_i9, ns_i10, ns_i11, ns_i12, ns_i13, ns_i20, ns_i23, ns_i24, ns_i31, ns_i50, ns_i60, ns_i99, ns_i100, ns_i144, ns_i200, ns_i255, ns_i700, ns_i880, ns_i899, ns_i900, ns_i901, ns_i999, ns_i1000, ns_i1440, ns_i4095, ns_i1000000]
      exact ⟨_, rfl, u4, tb_te h4 (fwq_r V k a)⟩) (s := m0) (by show tb_ U 121 m0 ∧ tb_ (fwq_ V k 0 0) 120 m0; rw [fwq_0]; exact hI)
    refine ⟨m2, ?_, u2, ?_⟩
    · show f_X12_measure_180 (nI k) m0 = f_X12_measure_180 (nI (k + 1)) m2
      have e2 : f_X12_measure_188 (nI k) (nI 0) m0 = f_X12_measure_188 (nI k) (nI 12) m2 := e2
      rw [e_X12_measure_180]
      simp (disch := omega) only [↓reduceIte, ↓ns_m1, ns_let, ns_lef, ns_ltt, ns_ltf, ns_eqt, ns_eqf, ns_gd, nI_clamp, nI_add, pk_sub, pk_mul, ns_m1a, ns_m1b, ns_m1c, ns_m1d, ns_m1e, ns_m1f, ns_m1g, ns_un1, ns_un0, ns_day1, Option.bind_some, gi_si_self, gi_si_ne, gl_si, gi_sl, gl_sl_self, gl_sl_ne, if_true, if_false, ns_i0, ns_i1, ns_i2, ns_i3, ns_i4, ns_i5, ns_i6, ns_i7, ns_i8, ns_i9, ns_i10, ns_i11, ns_i12, ns_i13, ns_i20, ns_i23, ns_i24, ns_i31, ns_i50, ns_i60, ns_i99, ns_i100, ns_i144, ns_i200, ns_i255, ns_i700, ns_i880, ns_i899, ns_i900, ns_i901, ns_i999, ns_i1000, ns_i1440, ns_i4095, ns_i1000000, e2]
      rw [e_X12_measure_188]
      simp (disch := omega) only [↓reduceIte, ↓ns_m1, ns_let, ns_lef, ns_ltt, ns_ltf, ns_eqt, ns_eqf, ns_gd, nI_clamp, nI_add, pk_sub, pk_mul, ns_m1a, ns_m1b, ns_m1c, ns_m1d, ns_m1e, ns_m1f, ns_m1g, ns_un1, ns_un0, ns_day1, Option.bind_some, gi_si_self, gi_si_ne, gl_si, gi_sl, gl_sl_self, gl_sl_ne, if_true, if_false, ns_i0, ns_i1, ns_i2, ns_i3, ns_i4, ns_i5, ns_i6, ns_i7, ns_i8, ns_i9, ns_i10, ns_i11, ns_i12, ns_i13, ns_i20, ns_i23, ns_i24, ns_i31, ns_i50, ns_i60, ns_i99, ns_i100, ns_i144, ns_i200, ns_i255, ns_i700, ns_i880, ns_i899, ns_i900, ns_i901, ns_i999, ns_i1000, ns_i1440, ns_i4095, ns_i1000000]
    · show tb_ (fwp_ (fwd_ T k) k) 120 m2
      rw [hV]
      exact tb_te h2 (fwq_e V k)) (s := m) ⟨hu, h⟩
  have e1 : f_X12_measure_180 (nI 0) m = f_X12_measure_180 (nI 12) m1 := e1
  refine ⟨m1, ?_, u1, h1⟩
  rw [e1, e_X12_measure_180]
  simp (disch := omega) only [↓reduceIte, ↓ns_m1, ns_let, ns_lef, ns_ltt, ns_ltf, ns_eqt, ns_eqf, ns_gd, nI_clamp, nI_add, pk_sub, pk_mul, ns_m1a, ns_m1b, ns_m1c, ns_m1d, ns_m1e, ns_m1f, ns_m1g, ns_un1, ns_un0, ns_day1, Option.bind_some, gi_si_self, gi_si_ne, gl_si, gi_sl, gl_sl_self, gl_sl_ne, if_true, if_false, ns_i0, ns_i1, ns_i2, ns_i3, ns_i4, ns_i5, ns_i6, ns_i7, ns_i8, ns_i9, ns_i10, ns_i11, ns_i12, ns_i13, ns_i20, ns_i23, ns_i24, ns_i31, ns_i50, ns_i60, ns_i99, ns_i100, ns_i144, ns_i200, ns_i255, ns_i700, ns_i880, ns_i899, ns_i900, ns_i901, ns_i999, ns_i1000, ns_i1440, ns_i4095, ns_i1000000]
/-- the tables of the reference -/
def tabm_ (W : List (Nat × Nat × Nat)) (m : fm_) : Prop := tb_ (ner_ W) 120 m ∧ tb_ (hm_ W) 121 m
theorem meas_m {W : List (Nat × Nat × Nat)} (hW : wok_ W) {m : fm_} (hr : wm_ W m) : ∃ m', f_X12_measure m = some (0, m') ∧ tabm_ W m' := by
  have hl := hW.1
  obtain ⟨m1, e1, r1, h1⟩ := lp0_ (n := 144) (F := fun i m => f_X12_measure_2 (nI i) m) (I := fun i m => wm_ W m ∧ ∀ k, k < i → gi_ m 121 k = nI 1000000) (fun i s hi hI => by
    show ∃ s', f_X12_measure_2 (nI i) s = f_X12_measure_2 (nI (i + 1)) s' ∧ _
    rw [e_X12_measure_2]
    simp (disch := omega) only [↓reduceIte, ↓ns_m1, ns_let, ns_lef, ns_ltt, ns_ltf, ns_eqt, ns_eqf, ns_gd, nI_clamp, nI_add, pk_sub, pk_mul, ns_m1a, ns_m1b, ns_m1c, ns_m1d, ns_m1e, ns_m1f, ns_m1g, ns_un1, ns_un0, ns_day1, Option.bind_some, gi_si_self, gi_si_ne, gl_si, gi_sl, gl_sl_self, gl_sl_ne, if_true, if_false, ns_i0, ns_i1, ns_i2, ns_i3, ns_i4, ns_i5, ns_i6, ns_i7, ns_i8, ns_i9, ns_i10, ns_i11, ns_i12, ns_i13, ns_i20, ns_i23, ns_i24, ns_i31, ns_i50, ns_i60, ns_i99, ns_i100, ns_i144, ns_i200, ns_i255, ns_i700, ns_i880, ns_i899, ns_i900, ns_i901, ns_i999, ns_i1000, ns_i1440, ns_i4095, ns_i1000000]
    refine ⟨_, rfl, wm_si hI.1 (by omega), fun k hk => ?_⟩
    rw [gi_si]
    by_cases e : k = i
    · rw [if_pos ⟨rfl, e⟩]
    · rw [if_neg fun q => e q.2]
      exact hI.2 k (by omega)) (s := m) ⟨hr, fun k hk => absurd hk (Nat.not_lt_zero _)⟩
  have e1 : f_X12_measure_2 (nI 0) m = f_X12_measure_2 (nI 144) m1 := e1
  obtain ⟨m2, e2, r2, h2⟩ := mm26_ hW r1 (fun a b ha hb => h1 _ (by omega))
  obtain ⟨m3, e3, h3, h4⟩ := mm138_ hW h2
  obtain ⟨m4, e4, h5, h6⟩ := mm180_ (st0_far hW _) h3 h4
  refine ⟨m4, ?_, h6, h5⟩
  show f_X12_measure_2 (nI 0) m = _
  rw [e1, e_X12_measure_2]
  simp (disch := omega) only [↓reduceIte, ↓ns_m1, ns_let, ns_lef, ns_ltt, ns_ltf, ns_eqt, ns_eqf, ns_gd, nI_clamp, nI_add, pk_sub, pk_mul, ns_m1a, ns_m1b, ns_m1c, ns_m1d, ns_m1e, ns_m1f, ns_m1g, ns_un1, ns_un0, ns_day1, Option.bind_some, gi_si_self, gi_si_ne, gl_si, gi_sl, gl_sl_self, gl_sl_ne, if_true, if_false, ns_i0, ns_i1, ns_i2, ns_i3, ns_i4, ns_i5, ns_i6, ns_i7, ns_i8, ns_i9, ns_i10, ns_i11, ns_i12, ns_i13, ns_i20, ns_i23, ns_i24, ns_i31, ns_i50, ns_i60, ns_i99, ns_i100, ns_i144, ns_i200, ns_i255, ns_i700, ns_i880, ns_i899, ns_i900, ns_i901, ns_i999, ns_i1000, ns_i1440, ns_i4095, ns_i1000000]
  rw [show f_X12_measure_26 (nI 0) m1 = f_X12_measure_26 (nI W.length) m2 from e2, e_X12_measure_26]
  simp (disch := omega) only [↓reduceIte, ↓ns_m1, ns_let, ns_lef, ns_ltt, ns_ltf, ns_eqt, ns_eqf, ns_gd, nI_clamp, nI_add, pk_sub, pk_mul, ns_m1a, ns_m1b, ns_m1c, ns_m1d, ns_m1e, ns_m1f, ns_m1g, ns_un1, ns_un0, ns_day1, Option.bind_some, gi_si_self, gi_si_ne, gl_si, gi_sl, gl_sl_self, gl_sl_ne, if_true, if_false, ns_i0, ns_i1, ns_i2, ns_i3, ns_i4, ns_i5, ns_i6, ns_i7, ns_i8, ns_i9, ns_i10, ns_i11, ns_i12, ns_i13, ns_i20, ns_i23, ns_i24, ns_i31, ns_i50, ns_i60, ns_i99, ns_i100, ns_i144, ns_i200, ns_i255, ns_i700, ns_i880, ns_i899, ns_i900, ns_i901, ns_i999, ns_i1000, ns_i1440, ns_i4095, ns_i1000000, r2.1]
  rw [e3, e4]
  rfl
