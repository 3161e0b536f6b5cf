/-! ===== the way of a trip ===== -/
theorem fst_no {p : Nat → Bool} : ∀ (k s : Nat), fst_ p k s = none → ∀ d, s ≤ d → d < s + k → ¬ p d = true
  | 0, s, _, d, h1, h2 => by omega
  | k + 1, s, h, d, h1, h2 => by
    rw [fst_s] at h
    by_cases hp : p s = true
    · rw [if_pos hp] at h; cases h
    · rw [if_neg hp] at h
      by_cases e : d = s
      · rw [e]; exact hp
      · exact fst_no k (s + 1) h d (by omega) (by omega)
def nxp_ (W : List (Nat × Nat × Nat)) (z v c g p t : Nat) : Nat → Bool := fun q => decide (hm_ W p q < 1000000) && decide (hm_ W p q * v + kk_ W z v c g q (nt_ z t q) = kk_ W z v c g p t)
def nx_ (W : List (Nat × Nat × Nat)) (z v c g p t : Nat) : Option Nat := fst_ (nxp_ W z v c g p t) 12 0
/-- what comes behind p -/
def ptl_ (W : List (Nat × Nat × Nat)) (z v c g : Nat) : Nat → Nat → Nat → List Nat
  | 0, _, _ => []
  | n + 1, p, t => if p = g then [] else match nx_ W z v c g p t with
    | none => []
    | some q => q :: ptl_ W z v c g n q (nt_ z t q)
theorem ptl_g {W : List (Nat × Nat × Nat)} {z v c g n t : Nat} : ptl_ W z v c g n g t = [] := by
  cases n with
  | zero => rfl
  | succ n => exact if_pos rfl
theorem ptl_s {W : List (Nat × Nat × Nat)} {z v c g n p t q : Nat} (h : ¬ p = g) (hq : nx_ W z v c g p t = some q) : ptl_ W z v c g (n + 1) p t = q :: ptl_ W z v c g n q (nt_ z t q) := by
  show (if p = g then [] else match nx_ W z v c g p t with
    | none => []
    | some q => q :: ptl_ W z v c g n q (nt_ z t q)) = _
  rw [if_neg h, hq]
def stt_ (z p t : Nat) : Prop := (t = 0 ∨ t = 1) ∧ (t = 0 → ¬ zb_ z p = true) ∧ p < 12
theorem nt_bb {z q : Nat} : nt_ z 0 q = bb_ z q := (bb_zb z q).symm
theorem nt_ok {z t q : Nat} (ht : t = 0 ∨ t = 1) (hq : q < 12) : stt_ z q (nt_ z t q) := by
  rcases ht with ht | ht
  · subst ht
    rw [nt_0]
    by_cases c : zb_ z q = true
    · rw [if_pos c]; exact ⟨Or.inr rfl, fun e => by omega, hq⟩
    · rw [if_neg c]; exact ⟨Or.inl rfl, fun _ => c, hq⟩
  · subst ht
    exact ⟨Or.inr rfl, fun e => by rw [nt_1] at e; omega, hq⟩
theorem nxp_u {W : List (Nat × Nat × Nat)} {z v c g p t q : Nat} : nxp_ W z v c g p t q = true ↔ hm_ W p q < 1000000 ∧ hm_ W p q * v + kk_ W z v c g q (nt_ z t q) = kk_ W z v c g p t := by
  unfold nxp_
  rw [Bool.and_eq_true, decide_eq_true_eq, decide_eq_true_eq]
theorem nx_some {W : List (Nat × Nat × Nat)} {z v c g p t : Nat} (h : tk_ W z v c g) (hs : stt_ z p t) (hpg : ¬ p = g) (hf : kk_ W z v c g p t < 1000000) : ∃ q, nx_ W z v c g p t = some q ∧ q < 12 ∧ hm_ W p q < 1000000 ∧ hm_ W p q * v + kk_ W z v c g q (nt_ z t q) = kk_ W z v c g p t := by
  cases e : nx_ W z v c g p t with
  | some q =>
    have := fst_u _ _ _ e
    exact ⟨q, rfl, by omega, nxp_u.mp this.2.2⟩
  | none =>
    obtain ⟨q, h1, h2, h3⟩ := kk_at h hs.1 hs.2.1 hs.2.2 hpg hf
    exact absurd (nxp_u.mpr ⟨by omega, h3⟩) (fst_no _ _ e q (by omega) (by omega))
/-- how many points there are nearer to the end -/
def ms_ (W : List (Nat × Nat × Nat)) (z v c g p t : Nat) : Nat := cnt_ (fun x => decide (kk_ W z v c g x t < kk_ W z v c g p t)) 12
theorem kk_t {W : List (Nat × Nat × Nat)} {z v c g x t q : Nat} (h : tk_ W z v c g) (ht : t = 0 ∨ t = 1) (hx : x < 12) : kk_ W z v c g x t ≤ kk_ W z v c g x (nt_ z t q) := by
  rcases ht with ht | ht
  · subst ht
    rw [nt_0]
    by_cases c : zb_ z q = true
    · rw [if_pos c]; exact kk_01 h hx
    · rw [if_neg c]; exact Nat.le_refl _
  · subst ht
    exact Nat.le_refl _
theorem pos_v {a v : Nat} (ha : 1 ≤ a) (hv : 1 ≤ v) : 1 ≤ a * v := Nat.mul_le_mul ha hv
theorem ms_lt {W : List (Nat × Nat × Nat)} {z v c g p t q : Nat} (h : tk_ W z v c g) (ht : t = 0 ∨ t = 1) (hq : q < 12) (e : hm_ W p q * v + kk_ W z v c g q (nt_ z t q) = kk_ W z v c g p t) : ms_ W z v c g q (nt_ z t q) < ms_ W z v c g p t ∧ kk_ W z v c g q (nt_ z t q) < kk_ W z v c g p t := by
  have h1 := pos_v (hm_pos h.1 p q) h.2.2.1
  have h2 := kk_t (q := q) h ht hq
  refine ⟨cnt_lt 12 (fun x hx hxx => ?_) ⟨q, hq, ?_, ?_⟩, by omega⟩
  · rw [decide_eq_true_eq] at hxx ⊢
    have := kk_t (q := q) h ht hx
    omega
  · rw [decide_eq_true_eq]; omega
  · rw [decide_eq_true_eq]; omega
theorem ms_11 {W : List (Nat × Nat × Nat)} {z v c g p t : Nat} (hp : p < 12) : ms_ W z v c g p t ≤ 11 := by
  have : ms_ W z v c g p t < 12 := cnt_n hp (by rw [decide_eq_true_eq]; omega)
  omega
/-- minutes behind p -/
def lenl_ (W : List (Nat × Nat × Nat)) : Nat → List Nat → Nat
  | _, [] => 0
  | p, q :: r => hm_ W p q + lenl_ W q r
def msk_ (V : List Nat) : Nat := V.foldl (fun s p => s ||| 2 ^ p) 0
theorem msk_app (V : List Nat) (p : Nat) : msk_ (V ++ [p]) = msk_ V ||| 2 ^ p := by
  unfold msk_
  rw [List.foldl_append]
  rfl
theorem pow_12 {p : Nat} (hp : p < 12) : 2 ^ p < 2 ^ 12 := Nat.pow_lt_pow_right (by omega) hp
theorem msk_lt0 : ∀ (V : List Nat) (s : Nat), s < 2 ^ 12 → (∀ x ∈ V, x < 12) → V.foldl (fun s p => s ||| 2 ^ p) s < 2 ^ 12
  | [], s, hs, _ => hs
  | p :: r, s, hs, h => msk_lt0 r _ (Nat.or_lt_two_pow hs (pow_12 (h p (List.mem_cons_self ..)))) fun x hx => h x (List.mem_cons_of_mem _ hx)
theorem msk_lt {V : List Nat} (h : ∀ x ∈ V, x < 12) : msk_ V < 2 ^ 12 := msk_lt0 V 0 (by omega) h
/-- the route that the class holds -/
def rou_ (V : List Nat) (n : Nat) (m : fm_) : Prop := gi_ m 98 9 = nI V.length ∧ gi_ m 98 10 = nI (msk_ V) ∧ gi_ m 98 11 = nI n ∧ ∀ j x, V[j]? = some x → gi_ m 104 j = nI x
theorem vis_ {V : List Nat} {n q : Nat} {m : fm_} (h : rou_ V n m) (hV : ∀ x ∈ V, x < 12) (hl : V.length < 12) (hq : q < 12) {k : Nat} : ∃ m', f_X10_visit (nI q) (si_ m 98 11 (nI k)) = some (0, m') ∧ rou_ (V ++ [q]) k m' := by
  obtain ⟨h1, h2, h3, h4⟩ := h
  have e1 : nI (msk_ V) ||| nI (2 ^ q) = nI (msk_ V ||| 2 ^ q) := nI_or (k := 12) (msk_lt hV) (pow_12 hq) (by omega)
  unfold f_X10_visit
  simp (disch := omega) only [↓reduceIte, ↓ns_m1, ns_let, ns_lef, ns_ltt, ns_ltf, ns_eqt, ns_eqf, ns_gd, nI_clamp, nI_add, pk_sub, pk_mul, ns_m1a, ns_m1b, ns_m1c, ns_m1d, ns_m1e, ns_m1f, ns_m1g, ns_un1, ns_un0, ns_day1, Option.bind_some, gi_si_self, gi_si_ne, gl_si, gi_sl, gl_sl_self, gl_sl_ne, if_true, if_false, ns_i0, ns_i1, ns_i2, ns_i3, ns_i4, ns_i5, ns_i6, ns_i7, ns_i8, ns_i9, ns_i10, ns_i11, ns_i12, ns_i13, ns_i20, ns_i23, ns_i24, ns_i31, ns_i50, ns_i60, ns_i99, ns_i100, ns_i144, ns_i200, ns_i255, ns_i700, ns_i880, ns_i899, ns_i900, ns_i901, ns_i999, ns_i1000, ns_i1440, ns_i4095, ns_i1000000, h1, h2, ns_shl, e1]
  refine ⟨_, rfl, ?_, ?_, ?_, fun j x hj => ?_⟩
  · simp (disch := omega) only [↓reduceIte, ↓ns_m1, ns_let, ns_lef, ns_ltt, ns_ltf, ns_eqt, ns_eqf, ns_gd, nI_clamp, nI_add, pk_sub, pk_mul, ns_m1a, ns_m1b, ns_m1c, ns_m1d, ns_m1e, ns_m1f, ns_m1g, ns_un1, ns_un0, ns_day1, Option.bind_some, gi_si_self, gi_si_ne, gl_si, gi_sl, gl_sl_self, gl_sl_ne, if_true, if_false, ns_i0, ns_i1, ns_i2, ns_i3, ns_i4, ns_i5, ns_i6, ns_i7, ns_i8, ns_i9, ns_i10, ns_i11, ns_i12, ns_i13, ns_i20, ns_i23, ns_i24, ns_i31, ns_i50, ns_i60, ns_i99, ns_i100, ns_i144, ns_i200, ns_i255, ns_i700, ns_i880, ns_i899, ns_i900, ns_i901, ns_i999, ns_i1000, ns_i1440, ns_i4095, ns_i1000000]
    rw [List.length_append]
    rfl
  · simp (disch := omega) only [↓reduceIte, ↓ns_m1, ns_let, ns_lef, ns_ltt, ns_ltf, ns_eqt, ns_eqf, ns_gd, nI_clamp, nI_add, pk_sub, pk_mul, ns_m1a, ns_m1b, ns_m1c, ns_m1d, ns_m1e, ns_m1f, ns_m1g, ns_un1, ns_un0, ns_day1, Option.bind_some, gi_si_self, gi_si_ne, gl_si, gi_sl, gl_sl_self, gl_sl_ne, if_true, if_false, ns_i0, ns_i1, ns_i2, ns_i3, ns_i4, ns_i5, ns_i6, ns_i7, ns_i8, ns_i9, ns_i10, ns_i11, ns_i12, ns_i13, ns_i20, ns_i23, ns_i24, ns_i31, ns_i50, ns_i60, ns_i99, ns_i100, ns_i144, ns_i200, ns_i255, ns_i700, ns_i880, ns_i899, ns_i900, ns_i901, ns_i999, ns_i1000, ns_i1440, ns_i4095, ns_i1000000]
    rw [msk_app]
  · simp (disch := omega) only [↓reduceIte, ↓ns_m1, ns_let, ns_lef, ns_ltt, ns_ltf, ns_eqt, ns_eqf, ns_gd, nI_clamp, nI_add, pk_sub, pk_mul, ns_m1a, ns_m1b, ns_m1c, ns_m1d, ns_m1e, ns_m1f, ns_m1g, ns_un1, ns_un0, ns_day1, Option.bind_some, gi_si_self, gi_si_ne, gl_si, gi_sl, gl_sl_self, gl_sl_ne, if_true, if_false, ns_i0, ns_i1, ns_i2, ns_i3, ns_i4, ns_i5, ns_i6, ns_i7, ns_i8, ns_i9, ns_i10, ns_i11, ns_i12, ns_i13, ns_i20, ns_i23, ns_i24, ns_i31, ns_i50, ns_i60, ns_i99, ns_i100, ns_i144, ns_i200, ns_i255, ns_i700, ns_i880, ns_i899, ns_i900, ns_i901, ns_i999, ns_i1000, ns_i1440, ns_i4095, ns_i1000000]
  · rcases ap_get hj with ⟨q1, q2⟩ | ⟨q1, q2⟩
    · have := h4 j x q2
      simp (disch := omega) only [↓reduceIte, ↓ns_m1, ns_let, ns_lef, ns_ltt, ns_ltf, ns_eqt, ns_eqf, ns_gd, nI_clamp, nI_add, pk_sub, pk_mul, ns_m1a, ns_m1b, ns_m1c, ns_m1d, ns_m1e, ns_m1f, ns_m1g, ns_un1, ns_un0, ns_day1, Option.bind_some, gi_si_self, gi_si_ne, gl_si, gi_sl, gl_sl_self, gl_sl_ne, if_true, if_false, ns_i0, ns_i1, ns_i2, ns_i3, ns_i4, ns_i5, ns_i6, ns_i7, ns_i8, ns_i9, ns_i10, ns_i11, ns_i12, ns_i13, ns_i20, ns_i23, ns_i24, ns_i31, ns_i50, ns_i60, ns_i99, ns_i100, ns_i144, ns_i200, ns_i255, ns_i700, ns_i880, ns_i899, ns_i900, ns_i901, ns_i999, ns_i1000, ns_i1440, ns_i4095, ns_i1000000, this]
    · rw [q1, q2]
      simp (disch := omega) only [↓reduceIte, ↓ns_m1, ns_let, ns_lef, ns_ltt, ns_ltf, ns_eqt, ns_eqf, ns_gd, nI_clamp, nI_add, pk_sub, pk_mul, ns_m1a, ns_m1b, ns_m1c, ns_m1d, ns_m1e, ns_m1f, ns_m1g, ns_un1, ns_un0, ns_day1, Option.bind_some, gi_si_self, gi_si_ne, gl_si, gi_sl, gl_sl_self, gl_sl_ne, if_true, if_false, ns_i0, ns_i1, ns_i2, ns_i3, ns_i4, ns_i5, ns_i6, ns_i7, ns_i8, ns_i9, ns_i10, ns_i11, ns_i12, ns_i13, ns_i20, ns_i23, ns_i24, ns_i31, ns_i50, ns_i60, ns_i99, ns_i100, ns_i144, ns_i200, ns_i255, ns_i700, ns_i880, ns_i899, ns_i900, ns_i901, ns_i999, ns_i1000, ns_i1440, ns_i4095, ns_i1000000]
/-- what the class drives by -/
def tpc_ (W : List (Nat × Nat × Nat)) (z : Nat) (m : fm_) : Prop := hr_ W m ∧ gi_ m 6 4 = nI z ∧ tb_ (ner_ W) 14 m ∧ tb_ (bes_ W z) 15 m ∧ tb_ (byz_ W z) 16 m
def tpd_ : List (Nat × Nat × Nat) := [(6, 6, 4), (6, 6, 5), (7, 9, 0), (13, 16, 0)]
theorem tpc_ag {W : List (Nat × Nat × Nat)} {z : Nat} {m m1 : fm_} (h : tpc_ W z m) (ha : ag_ tpd_ m m1) : tpc_ W z m1 :=
  ⟨⟨⟨(ha 6 3 rfl).1.trans h.1.1.1, fun j q hq => by
    have := h.1.1.2 j q hq
    rw [(ha 7 j rfl).1, (ha 8 j rfl).1, (ha 9 j rfl).1]
    exact this⟩, fun a b ha1 hb => (ha 13 _ rfl).1.trans (h.1.2 a b ha1 hb)⟩, (ha 6 4 rfl).1.trans h.2.1, fun a b ha1 hb => (ha 14 _ rfl).1.trans (h.2.2.1 a b ha1 hb), fun a b ha1 hb => (ha 15 _ rfl).1.trans (h.2.2.2.1 a b ha1 hb), fun a b ha1 hb => (ha 16 _ rfl).1.trans (h.2.2.2.2 a b ha1 hb)⟩
theorem isz_c {z q : Nat} {m : fm_} (hz : z < 4096) (h : gi_ m 6 4 = nI z) (hq : q < 12) : f_X9_isZone (nI q) m = some (nI (bb_ z q), m) := by
  have hb := bb_lt z q
  unfold f_X9_isZone
  by_cases c : bb_ z q = 1
  · simp (disch := omega) only [↓reduceIte, ↓ns_m1, ns_let, ns_lef, ns_ltt, ns_ltf, ns_eqt, ns_eqf, ns_gd, nI_clamp, nI_add, pk_sub, pk_mul, ns_m1a, ns_m1b, ns_m1c, ns_m1d, ns_m1e, ns_m1f, ns_m1g, ns_un1, ns_un0, ns_day1, Option.bind_some, gi_si_self, gi_si_ne, gl_si, gi_sl, gl_sl_self, gl_sl_ne, if_true, if_false, ns_i0, ns_i1, ns_i2, ns_i3, ns_i4, ns_i5, ns_i6, ns_i7, ns_i8, ns_i9, ns_i10, ns_i11, ns_i12, ns_i13, ns_i20, ns_i23, ns_i24, ns_i31, ns_i50, ns_i60, ns_i99, ns_i100, ns_i144, ns_i200, ns_i255, ns_i700, ns_i880, ns_i899, ns_i900, ns_i901, ns_i999, ns_i1000, ns_i1440, ns_i4095, ns_i1000000, h, ns_bb, c]
  · have c0 : bb_ z q = 0 := by omega
    simp (disch := omega) only [↓reduceIte, ↓ns_m1, ns_let, ns_lef, ns_ltt, ns_ltf, ns_eqt, ns_eqf, ns_gd, nI_clamp, nI_add, pk_sub, pk_mul, ns_m1a, ns_m1b, ns_m1c, ns_m1d, ns_m1e, ns_m1f, ns_m1g, ns_un1, ns_un0, ns_day1, Option.bind_some, gi_si_self, gi_si_ne, gl_si, gi_sl, gl_sl_self, gl_sl_ne, if_true, if_false, ns_i0, ns_i1, ns_i2, ns_i3, ns_i4, ns_i5, ns_i6, ns_i7, ns_i8, ns_i9, ns_i10, ns_i11, ns_i12, ns_i13, ns_i20, ns_i23, ns_i24, ns_i31, ns_i50, ns_i60, ns_i99, ns_i100, ns_i144, ns_i200, ns_i255, ns_i700, ns_i880, ns_i899, ns_i900, ns_i901, ns_i999, ns_i1000, ns_i1440, ns_i4095, ns_i1000000, h, ns_bb, c0]
/-- what is left to pay, as the class counts it -/
def cl_ (W : List (Nat × Nat × Nat)) (z v c g p t : Nat) : Nat := if t = 0 then min (bes_ W z p g * v) (byz_ W z p g * v + c) else ner_ W p g * v
theorem cl_b {W : List (Nat × Nat × Nat)} {z v c g p t : Nat} (h : tk_ W z v c g) : cl_ W z v c g p t ≤ 99000999 ∧ bes_ W z p g * v ≤ 99000000 ∧ byz_ W z p g * v ≤ 99000000 ∧ ner_ W p g * v ≤ 99000000 := by
  obtain ⟨hW, hz, hv1, hv2, hc, hg⟩ := h
  have b1 : bes_ W z p g * v ≤ 1000000 * 99 := Nat.mul_le_mul (bes_far hW z p g) hv2
  have b2 : byz_ W z p g * v ≤ 1000000 * 99 := Nat.mul_le_mul (jb_far _ _ _ _ _) hv2
  have b3 : ner_ W p g * v ≤ 1000000 * 99 := Nat.mul_le_mul (ner_far hW p g) hv2
  unfold cl_
  by_cases e : t = 0
  · rw [if_pos e]; omega
  · rw [if_neg e]; omega
theorem cost_ {W : List (Nat × Nat × Nat)} {z v c g p t r : Nat} (h : tk_ W z v c g) (ht : t = 0 ∨ t = 1) (hp : p < 12) (hr : r < 20) {m : fm_} (hm : tpc_ W z m) (h1 : gi_ m 100 r = nI g) (h2 : gi_ m 102 r = nI v) : f_X10_costLeft (nI r) (nI p) (nI t) (nI c) m = some (nI (cl_ W z v c g p t), m) := by
  have hb := cl_b (p := p) (t := t) h
  obtain ⟨hW, hz, hv1, hv2, hc, hg⟩ := h
  have e1 := near_ hm.2.2.1 hp hg
  have e2 := beside_ hm.2.2.2.1 hp hg
  have e3 := byzone_ hm.2.2.2.2 hp hg
  unfold f_X10_costLeft
  rcases ht with ht | ht
  · subst ht
    simp (disch := omega) only [↓reduceIte, ↓ns_m1, ns_let, ns_lef, ns_ltt, ns_ltf, ns_eqt, ns_eqf, ns_gd, nI_clamp, nI_add, pk_sub, pk_mul, ns_m1a, ns_m1b, ns_m1c, ns_m1d, ns_m1e, ns_m1f, ns_m1g, ns_un1, ns_un0, ns_day1, Option.bind_some, gi_si_self, gi_si_ne, gl_si, gi_sl, gl_sl_self, gl_sl_ne, if_true, if_false, ns_i0, ns_i1, ns_i2, ns_i3, ns_i4, ns_i5, ns_i6, ns_i7, ns_i8, ns_i9, ns_i10, ns_i11, ns_i12, ns_i13, ns_i20, ns_i23, ns_i24, ns_i31, ns_i50, ns_i60, ns_i99, ns_i100, ns_i144, ns_i200, ns_i255, ns_i700, ns_i880, ns_i899, ns_i900, ns_i901, ns_i999, ns_i1000, ns_i1440, ns_i4095, ns_i1000000, h1, h2, e2, e3, ns_mn]
    rfl
  · subst ht
    simp (disch := omega) only [↓reduceIte, ↓ns_m1, ns_let, ns_lef, ns_ltt, ns_ltf, ns_eqt, ns_eqf, ns_gd, nI_clamp, nI_add, pk_sub, pk_mul, ns_m1a, ns_m1b, ns_m1c, ns_m1d, ns_m1e, ns_m1f, ns_m1g, ns_un1, ns_un0, ns_day1, Option.bind_some, gi_si_self, gi_si_ne, gl_si, gi_sl, gl_sl_self, gl_sl_ne, if_true, if_false, ns_i0, ns_i1, ns_i2, ns_i3, ns_i4, ns_i5, ns_i6, ns_i7, ns_i8, ns_i9, ns_i10, ns_i11, ns_i12, ns_i13, ns_i20, ns_i23, ns_i24, ns_i31, ns_i50, ns_i60, ns_i99, ns_i100, ns_i144, ns_i200, ns_i255, ns_i700, ns_i880, ns_i899, ns_i900, ns_i901, ns_i999, ns_i1000, ns_i1440, ns_i4095, ns_i1000000, h1, h2, e1]
    rfl
/-- both ways of counting what is left say the same of a step -/
theorem cl_kk {W : List (Nat × Nat × Nat)} {z v c g p t q : Nat} (ht : t = 0 ∨ t = 1) : (hm_ W p q * v + kk_ W z v c g q (nt_ z t q) = kk_ W z v c g p t) ↔ (hm_ W p q * v + (if t = 0 ∧ nt_ z t q = 1 then c else 0) + cl_ W z v c g q (nt_ z t q) = cl_ W z v c g p t) := by
  rcases ht with ht | ht
  · subst ht
    rw [nt_0]
    by_cases c1 : zb_ z q = true
    · rw [if_pos c1, if_pos ⟨rfl, rfl⟩]
      unfold kk_ cl_
      rw [if_neg (by omega), if_pos rfl, if_neg (by omega), if_pos rfl]
      omega
    · rw [if_neg c1, if_neg (by omega)]
      unfold kk_ cl_
      simp only [if_true]
      omega
  · subst ht
    rw [nt_1, if_neg (by omega)]
    unfold kk_ cl_
    simp only [show ¬ (1 : Nat) = 0 by omega, if_false]
    omega
theorem next_ {W : List (Nat × Nat × Nat)} {z v c g p t r : Nat} (h : tk_ W z v c g) (hs : stt_ z p t) (hr : r < 20) {m : fm_} (hm : tpc_ W z m) (h1 : gi_ m 100 r = nI g) (h2 : gi_ m 102 r = nI v) : ∀ k q, q + k = 12 → f_X10_nextPoint_14 (nI r) (nI p) (nI t) (nI c) (nI (cl_ W z v c g p t)) (nI q) m = some (en1_ (fst_ (nxp_ W z v c g p t) k q), m) := by
  obtain ⟨ht, _, hp⟩ := hs
  have bp := (cl_b (p := p) (t := t) h).1
  intro k
  induction k with
  | zero =>
    intro q e
    rw [e_X10_nextPoint_14]
    simp (disch := omega) only [↓reduceIte, ↓ns_m1, ns_let, ns_lef, ns_ltt, ns_ltf, ns_eqt, ns_eqf, ns_gd, nI_clamp, nI_add, pk_sub, pk_mul, ns_m1a, ns_m1b, ns_m1c, ns_m1d, ns_m1e, ns_m1f, ns_m1g, ns_un1, ns_un0, ns_day1, Option.bind_some, gi_si_self, gi_si_ne, gl_si, gi_sl, gl_sl_self, gl_sl_ne, if_true, if_false, ns_i0, ns_i1, ns_i2, ns_i3, ns_i4, ns_i5, ns_i6, ns_i7, ns_i8, ns_i9, ns_i10, ns_i11, ns_i12, ns_i13, ns_i20, ns_i23, ns_i24, ns_i31, ns_i50, ns_i60, ns_i99, ns_i100, ns_i144, ns_i200, ns_i255, ns_i700, ns_i880, ns_i899, ns_i900, ns_i901, ns_i999, ns_i1000, ns_i1440, ns_i4095, ns_i1000000]
    rfl
  | succ k ih =>
    intro q e
    have hq : q < 12 := by omega
    have hv := h.2.2.1
    have hv2 := h.2.2.2.1
    have hc := h.2.2.2.2.1
    have ih := ih (q + 1) (by omega)
    have hop := hop_ hm.1 hp hq
    have hpm := hopm_ h.1 hm.1 hp hq
    have hz := isz_c h.2.1 hm.2.1 hq
    have bq0 := (cl_b (p := q) (t := 0) h).1
    have bq1 := (cl_b (p := q) (t := 1) h).1
    have c0 := cost_ (t := 0) h (Or.inl rfl) hq hr hm h1 h2
    have c1 := cost_ (t := 1) h (Or.inr rfl) hq hr hm h1 h2
    rw [e_X10_nextPoint_14, fst_s]
    by_cases hf : hm_ W p q < 1000000
    · obtain ⟨i, hi⟩ := (hm_some h.1).mp hf
      have hil := (hp_u _ _ _ _ hi).1
      have hWl := h.1.1
      rw [hi] at hop
      have hop : f_X9_hop (nI p) (nI q) m = some (nI i, m) := hop
      have b9 := (hm_99 h.1 hf).1
      have bm : hm_ W p q * v ≤ 99 * 99 := Nat.mul_le_mul b9 hv2
      have key := cl_kk (W := W) (z := z) (v := v) (c := c) (g := g) (p := p) (q := q) ht
      have kn : nxp_ W z v c g p t q = true ↔ hm_ W p q * v + (if t = 0 ∧ nt_ z t q = 1 then c else 0) + cl_ W z v c g q (nt_ z t q) = cl_ W z v c g p t := by
        rw [nxp_u, ← key]
        exact ⟨fun x => x.2, fun x => ⟨hf, x⟩⟩
      rcases ht with ht | ht
      · subst ht
        rw [nt_bb] at kn
        by_cases cb : bb_ z q = 1
        · rw [cb, if_pos ⟨rfl, rfl⟩] at kn
          by_cases ce : nxp_ W z v c g p 0 q = true
          · have ce2 := kn.mp ce
            rw [if_pos ce]
            simp (disch := omega) only [↓reduceIte, ↓ns_m1, ns_let, ns_lef, ns_ltt, ns_ltf, ns_eqt, ns_eqf, ns_gd, nI_clamp, nI_add, pk_sub, pk_mul, ns_m1a, ns_m1b, ns_m1c, ns_m1d, ns_m1e, ns_m1f, ns_m1g, ns_un1, ns_un0, ns_day1, Option.bind_some, gi_si_self, gi_si_ne, gl_si, gi_sl, gl_sl_self, gl_sl_ne, if_true, if_false, ns_i0, ns_i1, ns_i2, ns_i3, ns_i4, ns_i5, ns_i6, ns_i7, ns_i8, ns_i9, ns_i10, ns_i11, ns_i12, ns_i13, ns_i20, ns_i23, ns_i24, ns_i31, ns_i50, ns_i60, ns_i99, ns_i100, ns_i144, ns_i200, ns_i255, ns_i700, ns_i880, ns_i899, ns_i900, ns_i901, ns_i999, ns_i1000, ns_i1440, ns_i4095, ns_i1000000, hop, hz, cb, hpm, h2, c1]
            rfl
          · have ce2 : ¬ _ := fun x => ce (kn.mpr x)
            rw [if_neg ce]
            simp (disch := omega) only [↓reduceIte, ↓ns_m1, ns_let, ns_lef, ns_ltt, ns_ltf, ns_eqt, ns_eqf, ns_gd, nI_clamp, nI_add, pk_sub, pk_mul, ns_m1a, ns_m1b, ns_m1c, ns_m1d, ns_m1e, ns_m1f, ns_m1g, ns_un1, ns_un0, ns_day1, Option.bind_some, gi_si_self, gi_si_ne, gl_si, gi_sl, gl_sl_self, gl_sl_ne, if_true, if_false, ns_i0, ns_i1, ns_i2, ns_i3, ns_i4, ns_i5, ns_i6, ns_i7, ns_i8, ns_i9, ns_i10, ns_i11, ns_i12, ns_i13, ns_i20, ns_i23, ns_i24, ns_i31, ns_i50, ns_i60, ns_i99, ns_i100, ns_i144, ns_i200, ns_i255, ns_i700, ns_i880, ns_i899, ns_i900, ns_i901, ns_i999, ns_i1000, ns_i1440, ns_i4095, ns_i1000000, hop, hz, cb, hpm, h2, c1]
            exact ih
        · have cb0 : bb_ z q = 0 := by have := bb_lt z q; omega
          rw [cb0, if_neg (by omega)] at kn
          by_cases ce : nxp_ W z v c g p 0 q = true
          · have ce2 := kn.mp ce
            rw [if_pos ce]
            simp (disch := omega) only [↓reduceIte, ↓ns_m1, ns_let, ns_lef, ns_ltt, ns_ltf, ns_eqt, ns_eqf, ns_gd, nI_clamp, nI_add, pk_sub, pk_mul, ns_m1a, ns_m1b, ns_m1c, ns_m1d, ns_m1e, ns_m1f, ns_m1g, ns_un1, ns_un0, ns_day1, Option.bind_some, gi_si_self, gi_si_ne, gl_si, gi_sl, gl_sl_self, gl_sl_ne, if_true, if_false, ns_i0, ns_i1, ns_i2, ns_i3, ns_i4, ns_i5, ns_i6, ns_i7, ns_i8, ns_i9, ns_i10, ns_i11, ns_i12, ns_i13, ns_i20, ns_i23, ns_i24, ns_i31, ns_i50, ns_i60, ns_i99, ns_i100, ns_i144, ns_i200, ns_i255, ns_i700, ns_i880, ns_i899, ns_i900, ns_i901, ns_i999, ns_i1000, ns_i1440, ns_i4095, ns_i1000000, hop, hz, cb0, hpm, h2, c0]
            rfl
          · have ce2 : ¬ _ := fun x => ce (kn.mpr x)
            rw [if_neg ce]
            simp (disch := omega) only [↓reduceIte, ↓ns_m1, ns_let, ns_lef, ns_ltt, ns_ltf, ns_eqt, ns_eqf, ns_gd, nI_clamp, nI_add, pk_sub, pk_mul, ns_m1a, ns_m1b, ns_m1c, ns_m1d, ns_m1e, ns_m1f, ns_m1g, ns_un1, ns_un0, ns_day1, Option.bind_some, gi_si_self, gi_si_ne, gl_si, gi_sl, gl_sl_self, gl_sl_ne, if_true, if_false, ns_i0, ns_i1, ns_i2, ns_i3, ns_i4, ns_i5, ns_i6, ns_i7, ns_i8, ns_i9, ns_i10, ns_i11, ns_i12, ns_i13, ns_i20, ns_i23, ns_i24, ns_i31, ns_i50, ns_i60, ns_i99, ns_i100, ns_i144, ns_i200, ns_i255, ns_i700, ns_i880, ns_i899, ns_i900, ns_i901, ns_i999, ns_i1000, ns_i1440, ns_i4095, ns_i1000000, hop, hz, cb0, hpm, h2, c0]
            exact ih
      · subst ht
        rw [nt_1, if_neg (by omega)] at kn
        by_cases ce : nxp_ W z v c g p 1 q = true
        · have ce2 := kn.mp ce
          rw [if_pos ce]
          simp (disch := omega) only [↓reduceIte, ↓ns_m1, ns_let, ns_lef, ns_ltt, ns_ltf, ns_eqt, ns_eqf, ns_gd, nI_clamp, nI_add, pk_sub, pk_mul, ns_m1a, ns_m1b, ns_m1c, ns_m1d, ns_m1e, ns_m1f, ns_m1g, ns_un1, ns_un0, ns_day1, Option.bind_some, gi_si_self, gi_si_ne, gl_si, gi_sl, gl_sl_self, gl_sl_ne, if_true, if_false, ns_i0, ns_i1, ns_i2, ns_i3, ns_i4, ns_i5, ns_i6, ns_i7, ns_i8, ns_i9, ns_i10, ns_i11, ns_i12, ns_i13, ns_i20, ns_i23, ns_i24, ns_i31, ns_i50, ns_i60, ns_i99, ns_i100, ns_i144, ns_i200, ns_i255, ns_i700, ns_i880, ns_i899, ns_i900, ns_i901, ns_i999, ns_i1000, ns_i1440, ns_i4095, ns_i1000000, hop, hpm, h2, c1]
          rfl
        · have ce2 : ¬ _ := fun x => ce (kn.mpr x)
          rw [if_neg ce]
          simp (disch := omega) only [↓reduceIte, ↓ns_m1, ns_let, ns_lef, ns_ltt, ns_ltf, ns_eqt, ns_eqf, ns_gd, nI_clamp, nI_add, pk_sub, pk_mul, ns_m1a, ns_m1b, ns_m1c, ns_m1d, ns_m1e, ns_m1f, ns_m1g, ns_un1, ns_un0, ns_day1, Option.bind_some, gi_si_self, gi_si_ne, gl_si, gi_sl, gl_sl_self, gl_sl_ne, if_true, if_false, ns_i0, ns_i1, ns_i2, ns_i3, ns_i4, ns_i5, ns_i6, ns_i7, ns_i8, ns_i9, ns_i10, ns_i11, ns_i12, ns_i13, ns_i20, ns_i23, ns_i24, ns_i31, ns_i50, ns_i60, ns_i99, ns_i100, ns_i144, ns_i200, ns_i255, ns_i700, ns_i880, ns_i899, ns_i900, ns_i901, ns_i999, ns_i1000, ns_i1440, ns_i4095, ns_i1000000, hop, hpm, h2, c1]
          exact ih
    · have hn : hp_ W W.length p q = none := by
        cases e : hp_ W W.length p q with
        | none => rfl
        | some i => exact absurd ((hm_some h.1).mpr ⟨i, e⟩) hf
      rw [hn] at hop
      have hop : f_X9_hop (nI p) (nI q) m = some (-1, m) := hop
      rw [if_neg (fun x => hf (nxp_u.mp x).1)]
      simp (disch := omega) only [↓reduceIte, ↓ns_m1, ns_let, ns_lef, ns_ltt, ns_ltf, ns_eqt, ns_eqf, ns_gd, nI_clamp, nI_add, pk_sub, pk_mul, ns_m1a, ns_m1b, ns_m1c, ns_m1d, ns_m1e, ns_m1f, ns_m1g, ns_un1, ns_un0, ns_day1, Option.bind_some, gi_si_self, gi_si_ne, gl_si, gi_sl, gl_sl_self, gl_sl_ne, if_true, if_false, ns_i0, ns_i1, ns_i2, ns_i3, ns_i4, ns_i5, ns_i6, ns_i7, ns_i8, ns_i9, ns_i10, ns_i11, ns_i12, ns_i13, ns_i20, ns_i23, ns_i24, ns_i31, ns_i50, ns_i60, ns_i99, ns_i100, ns_i144, ns_i200, ns_i255, ns_i700, ns_i880, ns_i899, ns_i900, ns_i901, ns_i999, ns_i1000, ns_i1440, ns_i4095, ns_i1000000, hop]
      exact ih
theorem next1_ {W : List (Nat × Nat × Nat)} {z v c g p t r : Nat} (h : tk_ W z v c g) (hs : stt_ z p t) (hr : r < 20) {m : fm_} (hm : tpc_ W z m) (h1 : gi_ m 100 r = nI g) (h2 : gi_ m 102 r = nI v) : f_X10_nextPoint (nI r) (nI p) (nI t) (nI c) m = some (en1_ (nx_ W z v c g p t), m) := by
  unfold f_X10_nextPoint
  rw [cost_ h hs.1 hs.2.2 hr hm h1 h2]
  exact next_ h hs hr hm h1 h2 12 0 rfl
theorem fol_ {W : List (Nat × Nat × Nat)} {z v c g r : Nat} (h : tk_ W z v c g) (hr : r < 20) {x2 x3 : Int32} : ∀ (k n : Nat) (V : List Nat) (mn p t : Nat) (m : fm_), n + k = 12 → V.length = n → (∀ x ∈ V, x < 12) → tpc_ W z m → gi_ m 100 r = nI g → gi_ m 102 r = nI v → rou_ V mn m → stt_ z p t → kk_ W z v c g p t < 1000000 → ms_ W z v c g p t ≤ k → mn ≤ 99 * n → ∃ m', f_X10_follow_79 (nI r) x2 x3 (nI p) (nI c) (nI t) (nI n) m = some (0, m') ∧ rou_ (V ++ ptl_ W z v c g k p t) (mn + lenl_ W p (ptl_ W z v c g k p t)) m' := by
  intro k
  induction k with
  | zero =>
    intro n V mn p t m hn hV hVx hm h1 h2 hro hs hf hms hmn
    rw [e_X10_follow_79]
    simp (disch := omega) only [↓reduceIte, ↓ns_m1, ns_let, ns_lef, ns_ltt, ns_ltf, ns_eqt, ns_eqf, ns_gd, nI_clamp, nI_add, pk_sub, pk_mul, ns_m1a, ns_m1b, ns_m1c, ns_m1d, ns_m1e, ns_m1f, ns_m1g, ns_un1, ns_un0, ns_day1, Option.bind_some, gi_si_self, gi_si_ne, gl_si, gi_sl, gl_sl_self, gl_sl_ne, if_true, if_false, ns_i0, ns_i1, ns_i2, ns_i3, ns_i4, ns_i5, ns_i6, ns_i7, ns_i8, ns_i9, ns_i10, ns_i11, ns_i12, ns_i13, ns_i20, ns_i23, ns_i24, ns_i31, ns_i50, ns_i60, ns_i99, ns_i100, ns_i144, ns_i200, ns_i255, ns_i700, ns_i880, ns_i899, ns_i900, ns_i901, ns_i999, ns_i1000, ns_i1440, ns_i4095, ns_i1000000]
    refine ⟨m, rfl, ?_⟩
    show rou_ (V ++ []) (mn + 0) m
    rw [List.append_nil]
    exact hro
  | succ k ih =>
    intro n V mn p t m hn hV hVx hm h1 h2 hro hs hf hms hmn
    have hg := h.2.2.2.2.2
    have hp := hs.2.2
    have hv := h.2.2.1
    rw [e_X10_follow_79]
    by_cases hpg : p = g
    · subst hpg
      simp (disch := omega) only [↓reduceIte, ↓ns_m1, ns_let, ns_lef, ns_ltt, ns_ltf, ns_eqt, ns_eqf, ns_gd, nI_clamp, nI_add, pk_sub, pk_mul, ns_m1a, ns_m1b, ns_m1c, ns_m1d, ns_m1e, ns_m1f, ns_m1g, ns_un1, ns_un0, ns_day1, Option.bind_some, gi_si_self, gi_si_ne, gl_si, gi_sl, gl_sl_self, gl_sl_ne, if_true, if_false, ns_i0, ns_i1, ns_i2, ns_i3, ns_i4, ns_i5, ns_i6, ns_i7, ns_i8, ns_i9, ns_i10, ns_i11, ns_i12, ns_i13, ns_i20, ns_i23, ns_i24, ns_i31, ns_i50, ns_i60, ns_i99, ns_i100, ns_i144, ns_i200, ns_i255, ns_i700, ns_i880, ns_i899, ns_i900, ns_i901, ns_i999, ns_i1000, ns_i1440, ns_i4095, ns_i1000000, h1]
      refine ⟨m, rfl, ?_⟩
      rw [ptl_g, List.append_nil]
      exact hro
    · obtain ⟨q, e1, hq, hh, hk⟩ := nx_some h hs hpg hf
      have hml := ms_lt h hs.1 hq hk
      have nx := next1_ h hs hr hm h1 h2
      rw [e1] at nx
      have nx : f_X10_nextPoint (nI r) (nI p) (nI t) (nI c) m = some (nI q, m) := nx
      have hpm := hopm_ h.1 hm.1 hp hq
      have b9 := (hm_99 h.1 hh).1
      obtain ⟨m1, e2, r2⟩ := vis_ (q := q) (k := mn + hm_ W p q) hro hVx (by omega) hq
      have hm1 : tpc_ W z m1 := tpc_ag (tpc_ag hm (sa_ag (w := [(98, 98, 12)]) (by rfl) (sa_si (by rfl) sa_rf))) (sa_ag (by rfl) (fr_X10_visit e2))
      have g1 : gi_ m1 100 r = nI g := ((sa_gi (fr_X10_visit e2) (by rfl)).trans (gi_si_ne (by omega))).trans h1
      have g2 : gi_ m1 102 r = nI v := ((sa_gi (fr_X10_visit e2) (by rfl)).trans (gi_si_ne (by omega))).trans h2
      have hz := isz_c h.2.1 hm1.2.1 hq
      obtain ⟨m2, e3, r3⟩ := ih (n + 1) (V ++ [q]) (mn + hm_ W p q) q (nt_ z t q) m1 (by omega) (by rw [List.length_append, hV]; rfl) (fun x hx => by
        rcases List.mem_append.mp hx with hx | hx
        · exact hVx x hx
        · rw [List.mem_singleton.mp hx]; exact hq) hm1 g1 g2 r2 (nt_ok hs.1 hq) (by omega) (by omega) (by omega)
      refine ⟨m2, ?_, ?_⟩
      · rcases hs.1 with ht | ht
        · subst ht
          rw [nt_bb] at e3
          have hb := bb_lt z q
          by_cases cb : bb_ z q = 1
          · rw [cb] at e3 hz
            simp (disch := omega) only [↓reduceIte, ↓ns_m1, ns_let, ns_lef, ns_ltt, ns_ltf, ns_eqt, ns_eqf, ns_gd, nI_clamp, nI_add, pk_sub, pk_mul, ns_m1a, ns_m1b, ns_m1c, ns_m1d, ns_m1e, ns_m1f, ns_m1g, ns_un1, ns_un0, ns_day1, Option.bind_some, gi_si_self, gi_si_ne, gl_si, gi_sl, gl_sl_self, gl_sl_ne, if_true, if_false, ns_i0, ns_i1, ns_i2, ns_i3, ns_i4, ns_i5, ns_i6, ns_i7, ns_i8, ns_i9, ns_i10, ns_i11, ns_i12, ns_i13, ns_i20, ns_i23, ns_i24, ns_i31, ns_i50, ns_i60, ns_i99, ns_i100, ns_i144, ns_i200, ns_i255, ns_i700, ns_i880, ns_i899, ns_i900, ns_i901, ns_i999, ns_i1000, ns_i1440, ns_i4095, ns_i1000000, h1, nx, hpm, hro.2.2.1, e2, hz, e3]
          · have cb0 : bb_ z q = 0 := by omega
            rw [cb0] at e3 hz
            simp (disch := omega) only [↓reduceIte, ↓ns_m1, ns_let, ns_lef, ns_ltt, ns_ltf, ns_eqt, ns_eqf, ns_gd, nI_clamp, nI_add, pk_sub, pk_mul, ns_m1a, ns_m1b, ns_m1c, ns_m1d, ns_m1e, ns_m1f, ns_m1g, ns_un1, ns_un0, ns_day1, Option.bind_some, gi_si_self, gi_si_ne, gl_si, gi_sl, gl_sl_self, gl_sl_ne, if_true, if_false, ns_i0, ns_i1, ns_i2, ns_i3, ns_i4, ns_i5, ns_i6, ns_i7, ns_i8, ns_i9, ns_i10, ns_i11, ns_i12, ns_i13, ns_i20, ns_i23, ns_i24, ns_i31, ns_i50, ns_i60, ns_i99, ns_i100, ns_i144, ns_i200, ns_i255, ns_i700, ns_i880, ns_i899, ns_i900, ns_i901, ns_i999, ns_i1000, ns_i1440, ns_i4095, ns_i1000000, h1, nx, hpm, hro.2.2.1, e2, hz, e3]
        · subst ht
          rw [nt_1] at e3
          simp (disch := omega) only [↓reduceIte, ↓ns_m1, ns_let, ns_lef, ns_ltt, ns_ltf, ns_eqt, ns_eqf, ns_gd, nI_clamp, nI_add, pk_sub, pk_mul, ns_m1a, ns_m1b, ns_m1c, ns_m1d, ns_m1e, ns_m1f, ns_m1g, ns_un1, ns_un0, ns_day1, Option.bind_some, gi_si_self, gi_si_ne, gl_si, gi_sl, gl_sl_self, gl_sl_ne, if_true, if_false, ns_i0, ns_i1, ns_i2, ns_i3, ns_i4, ns_i5, ns_i6, ns_i7, ns_i8, ns_i9, ns_i10, ns_i11, ns_i12, ns_i13, ns_i20, ns_i23, ns_i24, ns_i31, ns_i50, ns_i60, ns_i99, ns_i100, ns_i144, ns_i200, ns_i255, ns_i700, ns_i880, ns_i899, ns_i900, ns_i901, ns_i999, ns_i1000, ns_i1440, ns_i4095, ns_i1000000, h1, nx, hpm, hro.2.2.1, e2, e3]
      · rw [ptl_s hpg e1]
        rw [List.append_assoc] at r3
        show rou_ (V ++ q :: _) (mn + (hm_ W p q + _)) m2
        rw [← Nat.add_assoc]
        exact r3
