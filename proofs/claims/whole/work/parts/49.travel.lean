/-! ===== trips, the reference: what is left to pay, by going round until nothing changes ===== -/
theorem cl_kk0 {W : List (Nat × Nat × Nat)} {z v c g p : Nat} : kk_ W z v c g p 0 = cl_ W z v c g p 0 := rfl
theorem cl_kk1 {W : List (Nat × Nat × Nat)} {z v c g p : Nat} : kk_ W z v c g p 1 = cl_ W z v c g p 1 + c := rfl
theorem cl_fin {W : List (Nat × Nat × Nat)} {z v c g p t : Nat} (h : tk_ W z v c g) (ht : t = 0 ∨ t = 1) (hf : cl_ W z v c g p t < 1000000) : kk_ W z v c g p t < 1000000 := by
  rcases ht with ht | ht
  · subst ht
    exact hf
  · subst ht
    have hf : ner_ W p g * v < 1000000 := hf
    have hb : ner_ W p g < 1000000 := by
      by_cases q : ner_ W p g < 1000000
      · exact q
      · have := far_v (Nat.le_of_not_lt q) h.2.2.1; omega
    have b1 : ner_ W p g ≤ 1188 := ft_b h.1 (S := fun _ => true) hb
    have := small_v (x := ner_ W p g) (v := v) (by omega) h.2.2.2.1
    have := h.2.2.2.2.1
    rw [kk_1]
    omega
/-- the added charge of a step -/
def ad_ (z c t q : Nat) : Nat := if t = 0 ∧ nt_ z t q = 1 then c else 0
theorem cl_le {W : List (Nat × Nat × Nat)} {z v c g p q t : Nat} (h : tk_ W z v c g) (hs : stt_ z p t) (hq : q < 12) (hw : hm_ W p q < 1000000) : cl_ W z v c g p t ≤ hm_ W p q * v + ad_ z c t q + cl_ W z v c g q (nt_ z t q) := by
  have := kk_le h hs.1 hs.2.1 hs.2.2 hq hw
  unfold ad_
  rcases hs.1 with ht | ht
  · subst ht
    rw [nt_0] at this ⊢
    by_cases c1 : zb_ z q = true
    · rw [if_pos c1] at this ⊢
      rw [cl_kk0, cl_kk1] at this
      rw [if_pos ⟨rfl, rfl⟩]
      omega
    · rw [if_neg c1] at this ⊢
      rw [cl_kk0, cl_kk0] at this
      rw [if_neg (by omega)]
      omega
  · subst ht
    rw [nt_1] at this ⊢
    rw [cl_kk1, cl_kk1] at this
    rw [if_neg (by omega)]
    omega
theorem cl_at {W : List (Nat × Nat × Nat)} {z v c g p t : Nat} (h : tk_ W z v c g) (hs : stt_ z p t) (hpg : ¬ p = g) (hf : cl_ W z v c g p t < 1000000) : ∃ q, q < 12 ∧ hm_ W p q ≤ 99 ∧ hm_ W p q * v + ad_ z c t q + cl_ W z v c g q (nt_ z t q) = cl_ W z v c g p t := by
  obtain ⟨q, h1, h2, h3⟩ := kk_at h hs.1 hs.2.1 hs.2.2 hpg (cl_fin h hs.1 hf)
  exact ⟨q, h1, h2, (cl_kk hs.1).mp h3⟩
/-- a step on by q, as the reference counts it -/
def ob_ (W : List (Nat × Nat × Nat)) (z v c : Nat) (R : Nat → Nat) (p q t : Nat) : Nat := if hm_ W p q < 1000000 then (if R (2 * q + nt_ z t q) < 1000000 then v * hm_ W p q + ad_ z c t q + R (2 * q + nt_ z t q) else 1000000) else 1000000
def rs_ (R : Nat → Nat) (m : fm_) : Prop := ∀ s, s < 24 → gi_ m 165 s = nI (R s)
def lb_ (W : List (Nat × Nat × Nat)) (z v c g : Nat) (R : Nat → Nat) : Prop := ∀ p t, stt_ z p t → min 1000000 (cl_ W z v c g p t) ≤ R (2 * p + t)
theorem ob_lb {W : List (Nat × Nat × Nat)} {z v c g : Nat} {R : Nat → Nat} (h : tk_ W z v c g) (hR : lb_ W z v c g R) {p t q : Nat} (hs : stt_ z p t) (hq : q < 12) : min 1000000 (cl_ W z v c g p t) ≤ ob_ W z v c R p q t := by
  unfold ob_
  by_cases c1 : hm_ W p q < 1000000
  · rw [if_pos c1]
    by_cases c2 : R (2 * q + nt_ z t q) < 1000000
    · rw [if_pos c2]
      have h1 := hR q (nt_ z t q) (nt_ok hs.1 hq)
      have h2 := cl_le h hs hq c1
      rw [Nat.mul_comm v]
      omega
    · rw [if_neg c2]; omega
  · rw [if_neg c1]; omega
theorem isz_m {z q : Nat} {m : fm_} (hz : z < 4096) (h : gi_ m 106 31 = nI z) (hq : q < 12) : f_X12_isInZone (nI q) m = some (nI (bb_ z q), m) := by
  have hb := bb_lt z q
  unfold f_X12_isInZone
  by_cases c : bb_ z q = 1
  · simp (disch := omega) only [↓reduceIte, ↓ns_m1, ns_let, ns_lef, ns_ltt, ns_ltf, ns_eqt, ns_eqf, ns_gd, nI_clamp, nI_add, pk_sub, pk_mul, ns_m1a, ns_m1b, ns_m1c, ns_m1d, ns_m1e, ns_m1f, ns_m1g, ns_un1, ns_un0, ns_day1, Option.bind_some, gi_si_self, gi_si_ne, gl_si, gi_sl, gl_sl_self, gl_sl_ne, if_true, if_false, ns_i0, ns_i1, ns_i2, ns_i3, ns_i4, ns_i5, ns_i6, ns_i7, ns_i8, ns_i9, ns_i10, ns_i11, ns_i12, ns_i13, ns_i20, ns_i23, ns_i24, ns_i31, ns_i50, ns_i60, ns_i99, ns_i100, ns_i144, ns_i200, ns_i255, ns_i700, ns_i880, ns_i899, ns_i900, ns_i901, ns_i999, ns_i1000, ns_i1440, ns_i4095, ns_i1000000, h, ns_bb, c]
  · have c0 : bb_ z q = 0 := by omega
    simp (disch := omega) only [↓reduceIte, ↓ns_m1, ns_let, ns_lef, ns_ltt, ns_ltf, ns_eqt, ns_eqf, ns_gd, nI_clamp, nI_add, pk_sub, pk_mul, ns_m1a, ns_m1b, ns_m1c, ns_m1d, ns_m1e, ns_m1f, ns_m1g, ns_un1, ns_un0, ns_day1, Option.bind_some, gi_si_self, gi_si_ne, gl_si, gi_sl, gl_sl_self, gl_sl_ne, if_true, if_false, ns_i0, ns_i1, ns_i2, ns_i3, ns_i4, ns_i5, ns_i6, ns_i7, ns_i8, ns_i9, ns_i10, ns_i11, ns_i12, ns_i13, ns_i20, ns_i23, ns_i24, ns_i31, ns_i50, ns_i60, ns_i99, ns_i100, ns_i144, ns_i200, ns_i255, ns_i700, ns_i880, ns_i899, ns_i900, ns_i901, ns_i999, ns_i1000, ns_i1440, ns_i4095, ns_i1000000, h, ns_bb, c0]
/-- what the reference drives by -/
def twm_ (W : List (Nat × Nat × Nat)) (z v g p0 r : Nat) (m : fm_) : Prop := gi_ m 106 31 = nI z ∧ tb_ (hm_ W) 121 m ∧ gi_ m 160 r = nI p0 ∧ gi_ m 161 r = nI g ∧ gi_ m 163 r = nI v
theorem hm_far {W : List (Nat × Nat × Nat)} (hW : wok_ W) (a b : Nat) : hm_ W a b ≤ 1000000 := mi_far hW _
theorem ob_b {W : List (Nat × Nat × Nat)} {z v c g : Nat} {R : Nat → Nat} (h : tk_ W z v c g) (p q t : Nat) : ob_ W z v c R p q t ≤ 1010800 := by
  unfold ob_ ad_
  have hc := h.2.2.2.2.1
  by_cases c1 : hm_ W p q < 1000000
  · rw [if_pos c1]
    have b9 := (hm_99 h.1 c1).1
    have bm : v * hm_ W p q ≤ 99 * 99 := Nat.mul_le_mul h.2.2.2.1 b9
    by_cases c2 : R (2 * q + nt_ z t q) < 1000000
    · rw [if_pos c2]
      by_cases c3 : t = 0 ∧ nt_ z t q = 1
      · rw [if_pos c3]; omega
      · rw [if_neg c3]; omega
    · rw [if_neg c2]; omega
  · rw [if_neg c1]; omega
theorem onby_ {W : List (Nat × Nat × Nat)} {z v c g p0 r : Nat} (h : tk_ W z v c g) (hr : r < 20) {m : fm_} (hm : twm_ W z v g p0 r m) {R : Nat → Nat} (hR : rs_ R m) (hR6 : ∀ s, R s ≤ 1000000) {p q t : Nat} (hp : p < 12) (hq : q < 12) (ht : t = 0 ∨ t = 1) : f_X12_onBy (nI r) (nI p) (nI q) (nI t) (nI c) m = some (nI (ob_ W z v c R p q t), m) := by
  obtain ⟨m1, m2, m3, m4, m5⟩ := hm
  have hc := h.2.2.2.2.1
  have t1 := tb_c m2 hp hq
  have hf := hm_far h.1 p q
  have hb := bb_lt z q
  have ez := isz_m h.2.1 m1 hq
  have r0 := hR (2 * q + 0) (by omega)
  have r1 := hR (2 * q + 1) (by omega)
  have s0 := hR6 (2 * q + 0)
  have s1 := hR6 (2 * q + 1)
  unfold f_X12_onBy ob_
  by_cases c1 : hm_ W p q < 1000000
  · have b9 := (hm_99 h.1 c1).1
    have bm : v * hm_ W p q ≤ 99 * 99 := Nat.mul_le_mul h.2.2.2.1 b9
    rcases ht with ht | ht
    · subst ht
      by_cases cb : bb_ z q = 1
      · have ea : ad_ z c 0 q = c := by unfold ad_; rw [nt_bb, cb]; exact if_pos ⟨rfl, rfl⟩
        rw [nt_bb, ea]
        by_cases c2 : R (2 * q + 1) < 1000000
        · simp (disch := omega) only [↓reduceIte, ↓ns_m1, ns_let, ns_lef, ns_ltt, ns_ltf, ns_eqt, ns_eqf, ns_gd, nI_clamp, nI_add, pk_sub, pk_mul, ns_m1a, ns_m1b, ns_m1c, ns_m1d, ns_m1e, ns_m1f, ns_m1g, ns_un1, ns_un0, ns_day1, Option.bind_some, gi_si_self, gi_si_ne, gl_si, gi_sl, gl_sl_self, gl_sl_ne, if_true, if_false, ns_i0, ns_i1, ns_i2, ns_i3, ns_i4, ns_i5, ns_i6, ns_i7, ns_i8, ns_i9, ns_i10, ns_i11, ns_i12, ns_i13, ns_i20, ns_i23, ns_i24, ns_i31, ns_i50, ns_i60, ns_i99, ns_i100, ns_i144, ns_i200, ns_i255, ns_i700, ns_i880, ns_i899, ns_i900, ns_i901, ns_i999, ns_i1000, ns_i1440, ns_i4095, ns_i1000000, t1, c1, ez, cb, r1, c2, m5]
        · simp (disch := omega) only [↓reduceIte, ↓ns_m1, ns_let, ns_lef, ns_ltt, ns_ltf, ns_eqt, ns_eqf, ns_gd, nI_clamp, nI_add, pk_sub, pk_mul, ns_m1a, ns_m1b, ns_m1c, ns_m1d, ns_m1e, ns_m1f, ns_m1g, ns_un1, ns_un0, ns_day1, Option.bind_some, gi_si_self, gi_si_ne, gl_si, gi_sl, gl_sl_self, gl_sl_ne, if_true, if_false, ns_i0, ns_i1, ns_i2, ns_i3, ns_i4, ns_i5, ns_i6, ns_i7, ns_i8, ns_i9, ns_i10, ns_i11, ns_i12, ns_i13, ns_i20, ns_i23, ns_i24, ns_i31, ns_i50, ns_i60, ns_i99, ns_i100, ns_i144, ns_i200, ns_i255, ns_i700, ns_i880, ns_i899, ns_i900, ns_i901, ns_i999, ns_i1000, ns_i1440, ns_i4095, ns_i1000000, t1, c1, ez, cb, r1, c2, m5]
      · have cb0 : bb_ z q = 0 := by omega
        have ea : ad_ z c 0 q = 0 := by unfold ad_; rw [nt_bb, cb0]; exact if_neg (by omega)
        rw [nt_bb, ea]
        by_cases c2 : R (2 * q + 0) < 1000000
        · simp (disch := omega) only [↓reduceIte, ↓ns_m1, ns_let, ns_lef, ns_ltt, ns_ltf, ns_eqt, ns_eqf, ns_gd, nI_clamp, nI_add, pk_sub, pk_mul, ns_m1a, ns_m1b, ns_m1c, ns_m1d, ns_m1e, ns_m1f, ns_m1g, ns_un1, ns_un0, ns_day1, Option.bind_some, gi_si_self, gi_si_ne, gl_si, gi_sl, gl_sl_self, gl_sl_ne, if_true, if_false, ns_i0, ns_i1, ns_i2, ns_i3, ns_i4, ns_i5, ns_i6, ns_i7, ns_i8, ns_i9, ns_i10, ns_i11, ns_i12, ns_i13, ns_i20, ns_i23, ns_i24, ns_i31, ns_i50, ns_i60, ns_i99, ns_i100, ns_i144, ns_i200, ns_i255, ns_i700, ns_i880, ns_i899, ns_i900, ns_i901, ns_i999, ns_i1000, ns_i1440, ns_i4095, ns_i1000000, t1, c1, ez, cb0, r0, c2, m5]
        · simp (disch := omega) only [↓reduceIte, ↓ns_m1, ns_let, ns_lef, ns_ltt, ns_ltf, ns_eqt, ns_eqf, ns_gd, nI_clamp, nI_add, pk_sub, pk_mul, ns_m1a, ns_m1b, ns_m1c, ns_m1d, ns_m1e, ns_m1f, ns_m1g, ns_un1, ns_un0, ns_day1, Option.bind_some, gi_si_self, gi_si_ne, gl_si, gi_sl, gl_sl_self, gl_sl_ne, if_true, if_false, ns_i0, ns_i1, ns_i2, ns_i3, ns_i4, ns_i5, ns_i6, ns_i7, ns_i8, ns_i9, ns_i10, ns_i11, ns_i12, ns_i13, ns_i20, ns_i23, ns_i24, ns_i31, ns_i50, ns_i60, ns_i99, ns_i100, ns_i144, ns_i200, ns_i255, ns_i700, ns_i880, ns_i899, ns_i900, ns_i901, ns_i999, ns_i1000, ns_i1440, ns_i4095, ns_i1000000, t1, c1, ez, cb0, r0, c2, m5]
    · subst ht
      have ea : ad_ z c 1 q = 0 := if_neg (by omega)
      rw [nt_1, ea]
      by_cases c2 : R (2 * q + 1) < 1000000
      · simp (disch := omega) only [↓reduceIte, ↓ns_m1, ns_let, ns_lef, ns_ltt, ns_ltf, ns_eqt, ns_eqf, ns_gd, nI_clamp, nI_add, pk_sub, pk_mul, ns_m1a, ns_m1b, ns_m1c, ns_m1d, ns_m1e, ns_m1f, ns_m1g, ns_un1, ns_un0, ns_day1, Option.bind_some, gi_si_self, gi_si_ne, gl_si, gi_sl, gl_sl_self, gl_sl_ne, if_true, if_false, ns_i0, ns_i1, ns_i2, ns_i3, ns_i4, ns_i5, ns_i6, ns_i7, ns_i8, ns_i9, ns_i10, ns_i11, ns_i12, ns_i13, ns_i20, ns_i23, ns_i24, ns_i31, ns_i50, ns_i60, ns_i99, ns_i100, ns_i144, ns_i200, ns_i255, ns_i700, ns_i880, ns_i899, ns_i900, ns_i901, ns_i999, ns_i1000, ns_i1440, ns_i4095, ns_i1000000, t1, c1, r1, c2, m5]
      · simp (disch := omega) only [↓reduceIte, ↓ns_m1, ns_let, ns_lef, ns_ltt, ns_ltf, ns_eqt, ns_eqf, ns_gd, nI_clamp, nI_add, pk_sub, pk_mul, ns_m1a, ns_m1b, ns_m1c, ns_m1d, ns_m1e, ns_m1f, ns_m1g, ns_un1, ns_un0, ns_day1, Option.bind_some, gi_si_self, gi_si_ne, gl_si, gi_sl, gl_sl_self, gl_sl_ne, if_true, if_false, ns_i0, ns_i1, ns_i2, ns_i3, ns_i4, ns_i5, ns_i6, ns_i7, ns_i8, ns_i9, ns_i10, ns_i11, ns_i12, ns_i13, ns_i20, ns_i23, ns_i24, ns_i31, ns_i50, ns_i60, ns_i99, ns_i100, ns_i144, ns_i200, ns_i255, ns_i700, ns_i880, ns_i899, ns_i900, ns_i901, ns_i999, ns_i1000, ns_i1440, ns_i4095, ns_i1000000, t1, c1, r1, c2, m5]
  · simp (disch := omega) only [↓reduceIte, ↓ns_m1, ns_let, ns_lef, ns_ltt, ns_ltf, ns_eqt, ns_eqf, ns_gd, nI_clamp, nI_add, pk_sub, pk_mul, ns_m1a, ns_m1b, ns_m1c, ns_m1d, ns_m1e, ns_m1f, ns_m1g, ns_un1, ns_un0, ns_day1, Option.bind_some, gi_si_self, gi_si_ne, gl_si, gi_sl, gl_sl_self, gl_sl_ne, if_true, if_false, ns_i0, ns_i1, ns_i2, ns_i3, ns_i4, ns_i5, ns_i6, ns_i7, ns_i8, ns_i9, ns_i10, ns_i11, ns_i12, ns_i13, ns_i20, ns_i23, ns_i24, ns_i31, ns_i50, ns_i60, ns_i99, ns_i100, ns_i144, ns_i200, ns_i255, ns_i700, ns_i880, ns_i899, ns_i900, ns_i901, ns_i999, ns_i1000, ns_i1440, ns_i4095, ns_i1000000, t1, c1]
/-! sums -/
def sN_ (R : Nat → Nat) : Nat → Nat
  | 0 => 0
  | n + 1 => R n + sN_ R n
def ur_ (R : Nat → Nat) (s x : Nat) : Nat → Nat := fun y => if y = s then x else R y
theorem sN_ge {R : Nat → Nat} {s x : Nat} : ∀ n, n ≤ s → sN_ (ur_ R s x) n = sN_ R n
  | 0, _ => rfl
  | n + 1, h => by
    unfold sN_
    rw [sN_ge n (by omega)]
    unfold ur_
    rw [if_neg (by omega)]
theorem sN_ur {R : Nat → Nat} {s x : Nat} : ∀ n, s < n → sN_ (ur_ R s x) n + R s = sN_ R n + x
  | 0, h => by omega
  | n + 1, h => by
    unfold sN_
    by_cases e : s = n
    · subst e
      rw [sN_ge s (Nat.le_refl _)]
      unfold ur_
      rw [if_pos rfl]
      omega
    · have := sN_ur (R := R) (s := s) (x := x) n (by omega)
      have e2 : ur_ R s x n = R n := if_neg (by omega)
      omega
theorem rs_ur {R : Nat → Nat} {m : fm_} (h : rs_ R m) (s x : Nat) : rs_ (ur_ R s x) (si_ m 165 s (nI x)) := by
  intro y hy
  unfold ur_
  by_cases e : y = s
  · rw [if_pos e, e, gi_si_self]
  · rw [if_neg e, gi_si_ne (by omega)]
    exact h y hy
theorem twm_si {W : List (Nat × Nat × Nat)} {z v g p0 r : Nat} {m : fm_} (h : twm_ W z v g p0 r m) {a k : Nat} {x : Int32} (ha : 165 ≤ a ∨ (a = 106 ∧ k = 95)) : twm_ W z v g p0 r (si_ m a k x) :=
  ⟨(gi_si_ne (by omega)).trans h.1, fun u v hu hv => (gi_si_ne (by omega)).trans (h.2.1 u v hu hv), (gi_si_ne (by omega)).trans h.2.2.1, (gi_si_ne (by omega)).trans h.2.2.2.1, (gi_si_ne (by omega)).trans h.2.2.2.2⟩
/-- what holds all along -/
def gd1_ (W : List (Nat × Nat × Nat)) (z v c g : Nat) (R : Nat → Nat) : Prop := (∀ s, R s ≤ 1000000) ∧ lb_ W z v c g R ∧ R (2 * g + 0) = 0 ∧ R (2 * g + 1) = 0
theorem gd1_ur {W : List (Nat × Nat × Nat)} {z v c g : Nat} {R : Nat → Nat} (h : tk_ W z v c g) (hR : gd1_ W z v c g R) {s q : Nat} (hs : s < 24) (hq : q < 12) (hl : ob_ W z v c R (s / 2) q (s % 2) < R s) : gd1_ W z v c g (ur_ R s (ob_ W z v c R (s / 2) q (s % 2))) := by
  obtain ⟨h1, h2, h3, h4⟩ := hR
  refine ⟨fun y => ?_, fun p t hst => ?_, ?_, ?_⟩
  · unfold ur_
    by_cases e : y = s
    · rw [if_pos e]; have := h1 s; omega
    · rw [if_neg e]; exact h1 y
  · unfold ur_
    by_cases e : 2 * p + t = s
    · rw [if_pos e]
      have ht := hst.1
      have e1 : s / 2 = p := by omega
      have e2 : s % 2 = t := by omega
      rw [e1, e2]
      exact ob_lb h h2 hst hq
    · rw [if_neg e]; exact h2 p t hst
  · unfold ur_
    by_cases e : 2 * g + 0 = s
    · rw [← e, h3] at hl; omega
    · rw [if_neg e]; exact h3
  · unfold ur_
    by_cases e : 2 * g + 1 = s
    · rw [← e, h4] at hl; omega
    · rw [if_neg e]; exact h4
/-- one going round -/
def sw_ (W : List (Nat × Nat × Nat)) (z v c g p0 r : Nat) (R0 : Nat → Nat) (s q : Nat) (x : Int32) (m : fm_) : Prop := ∃ R, rs_ R m ∧ twm_ W z v g p0 r m ∧ gd1_ W z v c g R ∧ ((x = nI 0 ∧ R = R0 ∧ ∀ s' q', q' < 12 → (s' < s ∨ (s' = s ∧ q' < q)) → R0 s' ≤ ob_ W z v c R0 (s' / 2) q' (s' % 2)) ∨ (x = nI 1 ∧ sN_ R 24 < sN_ R0 24))
theorem sw1_ {W : List (Nat × Nat × Nat)} {z v c g p0 r : Nat} (h : tk_ W z v c g) (hr : r < 20) {R0 : Nat → Nat} {m : fm_} (hR0 : rs_ R0 m) (hm : twm_ W z v g p0 r m) (hg : gd1_ W z v c g R0) : ∃ x m', f_X12_travel_50 (nI r) (nI c) (nI 0) (nI 0) m = f_X12_travel_41 (nI r) (nI c) x m' ∧ sw_ W z v c g p0 r R0 24 0 x m' := by
  obtain ⟨s1, e1, h1⟩ := lp0_ (n := 24) (F := fun s (y : Int32 × fm_) => f_X12_travel_50 (nI r) (nI c) y.1 (nI s) y.2) (I := fun s y => sw_ W z v c g p0 r R0 s 0 y.1 y.2) (fun s y hs hI => by
    obtain ⟨s2, e2, h2⟩ := lp0_ (n := 12) (F := fun q (y : Int32 × fm_) => f_X12_travel_60 (nI r) (nI c) y.1 (nI s) (nI q) y.2) (I := fun q y => sw_ W z v c g p0 r R0 s q y.1 y.2) (fun q y hq hJ => by
      obtain ⟨x, m⟩ := y
      obtain ⟨R, j1, j2, j3, j4⟩ := hJ
      have j1 : rs_ R m := j1
      have j2 : twm_ W z v g p0 r m := j2
      have on := onby_ (t := s % 2) h hr j2 j1 j3.1 (show s / 2 < 12 by omega) hq (by omega)
      have bo := ob_b (R := R) h (s / 2) q (s % 2)
      have g1 := j1 s hs
      have b6 := j3.1 s
      have es : s - s / 2 * 2 = s % 2 := by omega
      show ∃ s' : Int32 × fm_, f_X12_travel_60 (nI r) (nI c) x (nI s) (nI q) m = f_X12_travel_60 (nI r) (nI c) s'.1 (nI s) (nI (q + 1)) s'.2 ∧ sw_ W z v c g p0 r R0 s (q + 1) s'.1 s'.2
      rw [e_X12_travel_60]
      by_cases cl : ob_ W z v c R (s / 2) q (s % 2) < R s
      · simp (disch := omega) only [↓reduceIte, ↓ns_m1, ns_let, ns_lef, ns_ltt, ns_ltf, ns_eqt, ns_eqf, ns_gd, nI_clamp, nI_add, pk_sub, pk_mul, ns_m1a, ns_m1b, ns_m1c, ns_m1d, ns_m1e, ns_m1f, ns_m1g, ns_un1, ns_un0, ns_day1, Option.bind_some, gi_si_self, gi_si_ne, gl_si, gi_sl, gl_sl_self, gl_sl_ne, if_true, if_false, ns_i0, ns_i1, ns_i2, ns_i3, ns_i4, ns_i5, ns_i6, ns_i7, ns_i8, ns_i9, ns_i10, ns_i11, ns_i12, ns_i13, ns_i20, ns_i23, ns_i24, ns_i31, ns_i50, ns_i60, ns_i99, ns_i100, ns_i144, ns_i200, ns_i255, ns_i700, ns_i880, ns_i899, ns_i900, ns_i901, ns_i999, ns_i1000, ns_i1440, ns_i4095, ns_i1000000, pk_div, es, on, g1]
        refine ⟨(nI 1, si_ m 165 s (nI (ob_ W z v c R (s / 2) q (s % 2)))), rfl, ur_ R s (ob_ W z v c R (s / 2) q (s % 2)), rs_ur j1 s _, twm_si j2 (Or.inl (by omega)), gd1_ur h j3 hs hq cl, Or.inr ⟨rfl, ?_⟩⟩
        have su := sN_ur (R := R) (s := s) (x := ob_ W z v c R (s / 2) q (s % 2)) 24 hs
        rcases j4 with ⟨_, j5, _⟩ | ⟨_, j5⟩
        · rw [← j5]; omega
        · omega
      · simp (disch := omega) only [↓reduceIte, ↓ns_m1, ns_let, ns_lef, ns_ltt, ns_ltf, ns_eqt, ns_eqf, ns_gd, nI_clamp, nI_add, pk_sub, pk_mul, ns_m1a, ns_m1b, ns_m1c, ns_m1d, ns_m1e, ns_m1f, ns_m1g, ns_un1, ns_un0, ns_day1, Option.bind_some, gi_si_self, gi_si_ne, gl_si, gi_sl, gl_sl_self, gl_sl_ne, if_true, if_false, ns_i0, ns_i1, ns_i2, ns_i3, ns_i4, ns_i5, ns_i6, ns_i7, ns_i8, ns_i9, ns_i10, ns_i11, ns_i12, ns_i13, ns_i20, ns_i23, ns_i24, ns_i31, ns_i50, ns_i60, ns_i99, ns_i100, ns_i144, ns_i200, ns_i255, ns_i700, ns_i880, ns_i899, ns_i900, ns_i901, ns_i999, ns_i1000, ns_i1440, ns_i4095, ns_i1000000, pk_div, es, on, g1]
        refine ⟨(x, m), rfl, R, j1, j2, j3, ?_⟩
        rcases j4 with ⟨j5, j6, j7⟩ | j5
        · refine Or.inl ⟨j5, j6, fun s' q' hq' hb => ?_⟩
          by_cases e : s' = s ∧ q' = q
          · rw [e.1, e.2, ← j6]; omega
          · exact j7 s' q' hq' (by omega)
        · exact Or.inr j5) (s := y) hI
    have e2 : f_X12_travel_60 (nI r) (nI c) y.1 (nI s) (nI 0) y.2 = f_X12_travel_60 (nI r) (nI c) s2.1 (nI s) (nI 12) s2.2 := e2
    refine ⟨s2, ?_, ?_⟩
    · show f_X12_travel_50 (nI r) (nI c) y.1 (nI s) y.2 = f_X12_travel_50 (nI r) (nI c) s2.1 (nI (s + 1)) s2.2
      rw [e_X12_travel_50]
      simp (disch := omega) only [↓reduceIte, ↓ns_m1, ns_let, ns_lef, ns_ltt, ns_ltf, ns_eqt, ns_eqf, ns_gd, nI_clamp, nI_add, pk_sub, pk_mul, ns_m1a, ns_m1b, ns_m1c, ns_m1d, ns_m1e, ns_m1f, ns_m1g, ns_un1, ns_un0, ns_day1, Option.bind_some, gi_si_self, gi_si_ne, gl_si, gi_sl, gl_sl_self, gl_sl_ne, if_true, if_false, ns_i0, ns_i1, ns_i2, ns_i3, ns_i4, ns_i5, ns_i6, ns_i7, ns_i8, ns_i9, ns_i10, ns_i11, ns_i12, ns_i13, ns_i20, ns_i23, ns_i24, ns_i31, ns_i50, ns_i60, ns_i99, ns_i100, ns_i144, ns_i200, ns_i255, ns_i700, ns_i880, ns_i899, ns_i900, ns_i901, ns_i999, ns_i1000, ns_i1440, ns_i4095, ns_i1000000, e2]
      rw [e_X12_travel_60]
      simp (disch := omega) only [↓reduceIte, ↓ns_m1, ns_let, ns_lef, ns_ltt, ns_ltf, ns_eqt, ns_eqf, ns_gd, nI_clamp, nI_add, pk_sub, pk_mul, ns_m1a, ns_m1b, ns_m1c, ns_m1d, ns_m1e, ns_m1f, ns_m1g, ns_un1, ns_un0, ns_day1, Option.bind_some, gi_si_self, gi_si_ne, gl_si, gi_sl, gl_sl_self, gl_sl_ne, if_true, if_false, ns_i0, ns_i1, ns_i2, ns_i3, ns_i4, ns_i5, ns_i6, ns_i7, ns_i8, ns_i9, ns_i10, ns_i11, ns_i12, ns_i13, ns_i20, ns_i23, ns_i24, ns_i31, ns_i50, ns_i60, ns_i99, ns_i100, ns_i144, ns_i200, ns_i255, ns_i700, ns_i880, ns_i899, ns_i900, ns_i901, ns_i999, ns_i1000, ns_i1440, ns_i4095, ns_i1000000]
    · obtain ⟨R, j1, j2, j3, j4⟩ := h2
      refine ⟨R, j1, j2, j3, ?_⟩
      rcases j4 with ⟨j5, j6, j7⟩ | j5
      · exact Or.inl ⟨j5, j6, fun s' q' hq' hb => j7 s' q' hq' (by omega)⟩
      · exact Or.inr j5) (s := (nI 0, m)) ⟨R0, hR0, hm, hg, Or.inl ⟨rfl, rfl, fun s' q' _ hb => by omega⟩⟩
  have e1 : f_X12_travel_50 (nI r) (nI c) (nI 0) (nI 0) m = f_X12_travel_50 (nI r) (nI c) s1.1 (nI 24) s1.2 := e1
  refine ⟨s1.1, s1.2, ?_, h1⟩
  rw [e1, e_X12_travel_50]
  simp (disch := omega) only [↓reduceIte, ↓ns_m1, ns_let, ns_lef, ns_ltt, ns_ltf, ns_eqt, ns_eqf, ns_gd, nI_clamp, nI_add, pk_sub, pk_mul, ns_m1a, ns_m1b, ns_m1c, ns_m1d, ns_m1e, ns_m1f, ns_m1g, ns_un1, ns_un0, ns_day1, Option.bind_some, gi_si_self, gi_si_ne, gl_si, gi_sl, gl_sl_self, gl_sl_ne, if_true, if_false, ns_i0, ns_i1, ns_i2, ns_i3, ns_i4, ns_i5, ns_i6, ns_i7, ns_i8, ns_i9, ns_i10, ns_i11, ns_i12, ns_i13, ns_i20, ns_i23, ns_i24, ns_i31, ns_i50, ns_i60, ns_i99, ns_i100, ns_i144, ns_i200, ns_i255, ns_i700, ns_i880, ns_i899, ns_i900, ns_i901, ns_i999, ns_i1000, ns_i1440, ns_i4095, ns_i1000000]
theorem rest_ {W : List (Nat × Nat × Nat)} {z v c g p0 r : Nat} (h : tk_ W z v c g) (hr : r < 20) : ∀ (N : Nat) (R : Nat → Nat) (m : fm_), sN_ R 24 ≤ N → rs_ R m → twm_ W z v g p0 r m → gd1_ W z v c g R → ∃ R' m', f_X12_travel_41 (nI r) (nI c) (nI 1) m = f_X12_travel_41 (nI r) (nI c) (nI 0) m' ∧ rs_ R' m' ∧ twm_ W z v g p0 r m' ∧ gd1_ W z v c g R' ∧ ∀ s q, s < 24 → q < 12 → R' s ≤ ob_ W z v c R' (s / 2) q (s % 2) := by
  intro N
  induction N with
  | zero =>
    intro R m hN hR hm hg
    obtain ⟨x, m1, e1, R1, j1, j2, j3, j4⟩ := sw1_ h hr hR hm hg
    rcases j4 with ⟨j5, j6, j7⟩ | ⟨_, j5⟩
    · refine ⟨R1, m1, ?_, j1, j2, j3, fun s q hs hq => by rw [j6]; exact j7 s q hq (by omega)⟩
      rw [e_X12_travel_41]
      simp (disch := omega) only [↓reduceIte, ↓ns_m1, ns_let, ns_lef, ns_ltt, ns_ltf, ns_eqt, ns_eqf, ns_gd, nI_clamp, nI_add, pk_sub, pk_mul, ns_m1a, ns_m1b, ns_m1c, ns_m1d, ns_m1e, ns_m1f, ns_m1g, ns_un1, ns_un0, ns_day1, Option.bind_some, gi_si_self, gi_si_ne, gl_si, gi_sl, gl_sl_self, gl_sl_ne, if_true, if_false, ns_i0, ns_i1, ns_i2, ns_i3, ns_i4, ns_i5, ns_i6, ns_i7, ns_i8, ns_i9, ns_i10, ns_i11, ns_i12, ns_i13, ns_i20, ns_i23, ns_i24, ns_i31, ns_i50, ns_i60, ns_i99, ns_i100, ns_i144, ns_i200, ns_i255, ns_i700, ns_i880, ns_i899, ns_i900, ns_i901, ns_i999, ns_i1000, ns_i1440, ns_i4095, ns_i1000000, e1, j5]
    · omega
  | succ N ih =>
    intro R m hN hR hm hg
    obtain ⟨x, m1, e1, R1, j1, j2, j3, j4⟩ := sw1_ h hr hR hm hg
    have e0 : f_X12_travel_41 (nI r) (nI c) (nI 1) m = f_X12_travel_41 (nI r) (nI c) x m1 := by
      rw [e_X12_travel_41]
      simp (disch := omega) only [↓reduceIte, ↓ns_m1, ns_let, ns_lef, ns_ltt, ns_ltf, ns_eqt, ns_eqf, ns_gd, nI_clamp, nI_add, pk_sub, pk_mul, ns_m1a, ns_m1b, ns_m1c, ns_m1d, ns_m1e, ns_m1f, ns_m1g, ns_un1, ns_un0, ns_day1, Option.bind_some, gi_si_self, gi_si_ne, gl_si, gi_sl, gl_sl_self, gl_sl_ne, if_true, if_false, ns_i0, ns_i1, ns_i2, ns_i3, ns_i4, ns_i5, ns_i6, ns_i7, ns_i8, ns_i9, ns_i10, ns_i11, ns_i12, ns_i13, ns_i20, ns_i23, ns_i24, ns_i31, ns_i50, ns_i60, ns_i99, ns_i100, ns_i144, ns_i200, ns_i255, ns_i700, ns_i880, ns_i899, ns_i900, ns_i901, ns_i999, ns_i1000, ns_i1440, ns_i4095, ns_i1000000, e1]
    rcases j4 with ⟨j5, j6, j7⟩ | ⟨j5, j6⟩
    · refine ⟨R1, m1, by rw [e0, j5], j1, j2, j3, fun s q hs hq => by rw [j6]; exact j7 s q hq (by omega)⟩
    · obtain ⟨R2, m2, e2, k1⟩ := ih R1 m1 (by omega) j1 j2 j3
      exact ⟨R2, m2, by rw [e0, j5, e2], k1⟩
/-- what stands in the end -/
theorem fix_ {W : List (Nat × Nat × Nat)} {z v c g : Nat} (h : tk_ W z v c g) {R : Nat → Nat} (hR : gd1_ W z v c g R) (hf : ∀ s q, s < 24 → q < 12 → R s ≤ ob_ W z v c R (s / 2) q (s % 2)) : ∀ p t, stt_ z p t → R (2 * p + t) = min 1000000 (cl_ W z v c g p t) := by
  have up : ∀ n p t, stt_ z p t → cl_ W z v c g p t ≤ n → cl_ W z v c g p t < 1000000 → R (2 * p + t) ≤ cl_ W z v c g p t := by
    intro n
    induction n with
    | zero =>
      intro p t hs hn hl
      by_cases e : p = g
      · subst e
        rcases hs.1 with ht | ht
        · subst ht; have := hR.2.2.1; omega
        · subst ht; have := hR.2.2.2; omega
      · obtain ⟨q, h1, h2, h3⟩ := cl_at h hs e hl
        have := pos_v (hm_pos h.1 p q) h.2.2.1
        omega
    | succ n ih =>
      intro p t hs hn hl
      by_cases e : p = g
      · subst e
        rcases hs.1 with ht | ht
        · subst ht; have := hR.2.2.1; omega
        · subst ht; have := hR.2.2.2; omega
      · obtain ⟨q, h1, h2, h3⟩ := cl_at h hs e hl
        have hp := pos_v (hm_pos h.1 p q) h.2.2.1
        have i1 := ih q (nt_ z t q) (nt_ok hs.1 h1) (by omega) (by omega)
        have ht := hs.1
        have hp12 := hs.2.2
        have f1 := hf (2 * p + t) q (by omega) h1
        rw [show (2 * p + t) / 2 = p by omega, show (2 * p + t) % 2 = t by omega] at f1
        unfold ob_ at f1
        rw [if_pos (by omega), if_pos (by omega), Nat.mul_comm v] at f1
        omega
  intro p t hs
  have l1 := hR.2.1 p t hs
  by_cases c1 : cl_ W z v c g p t < 1000000
  · have := up _ p t hs (Nat.le_refl _) c1
    omega
  · have := hR.1 (2 * p + t)
    omega
