/-! ===== the class measures its town ===== -/
def wc_ (W : List (Nat × Nat × Nat)) (m : fm_) : Prop := gi_ m 6 3 = nI W.length ∧ ∀ j q, W[j]? = some q → gi_ m 7 j = nI q.1 ∧ gi_ m 8 j = nI q.2.1 ∧ gi_ m 9 j = nI q.2.2
def wcd_ : List (Nat × Nat × Nat) := [(6, 6, 4), (7, 7, 0), (8, 8, 0), (9, 9, 0)]
theorem wc_ag {W : List (Nat × Nat × Nat)} {m m1 : fm_} (h : wc_ W m) (ha : ag_ wcd_ m m1) : wc_ W m1 :=
  ⟨(ha 6 3 rfl).1.trans h.1, fun j q hq => by
    have := h.2 j q hq
    rw [(ha 7 j rfl).1, (ha 8 j rfl).1, (ha 9 j rfl).1]
    exact this⟩
def ho_ (H : Nat → Nat → Option Nat) (m : fm_) : Prop := ∀ a b, a < 12 → b < 12 → gi_ m 13 (a * 12 + b) = en1_ (H a b)
def uh_ (H : Nat → Nat → Option Nat) (a b : Nat) (o : Option Nat) : Nat → Nat → Option Nat := fun x y => if x = a ∧ y = b then o else H x y
theorem ho_si {H : Nat → Nat → Option Nat} {m : fm_} {a b : Nat} {o : Option Nat} (h : ho_ H m) (ha : a < 12) (hb : b < 12) : ho_ (uh_ H a b o) (si_ m 13 (a * 12 + b) (en1_ o)) := by
  intro x y hx hy
  unfold uh_
  by_cases e : x = a ∧ y = b
  · rw [if_pos e, e.1, e.2, gi_si_self]
  · rw [if_neg e, gi_si_ne (by omega)]
    exact h x y hx hy
theorem ho_id {H : Nat → Nat → Option Nat} {m : fm_} {a b : Nat} (h : ho_ H m) : ho_ (uh_ H a b (H a b)) m := by
  intro x y hx hy
  unfold uh_
  by_cases e : x = a ∧ y = b
  · rw [if_pos e, ← e.1, ← e.2]; exact h x y hx hy
  · rw [if_neg e]; exact h x y hx hy
theorem offer_ {W : List (Nat × Nat × Nat)} {H : Nat → Nat → Option Nat} {m : fm_} (hW : wok_ W) (hr : wc_ W m) (h : ho_ H m) (hH : ∀ a b j, H a b = some j → j < W.length) {a b i : Nat} {q : Nat × Nat × Nat} (ha : a < 12) (hb : b < 12) (hq : W[i]? = some q) : ∃ m', f_X9_offerHop (nI a) (nI b) (nI i) m = some (0, m') ∧ ho_ (uh_ H a b (of_ W (H a b) i q.2.2)) m' := by
  have hi : i < W.length := (List.getElem?_eq_some_iff.mp hq).1
  have hl := hW.1
  have hv := hW.2 q (List.mem_of_getElem? hq)
  have h9 := (hr.2 i q hq).2.2
  have hg := h a b ha hb
  unfold f_X9_offerHop of_
  cases e : H a b with
  | none =>
    rw [e] at hg
    have hg : gi_ m 13 (a * 12 + b) = -1 := hg
    have hlt : q.2.2 < mi_ W none := by show q.2.2 < 1000000; omega
    simp (disch := omega) only [↓reduceIte, ↓ns_m1, ns_let, ns_lef, ns_ltt, ns_ltf, ns_eqt, ns_eqf, ns_gd, nI_clamp, nI_add, pk_sub, pk_mul, ns_m1a, ns_m1b, ns_m1c, ns_m1d, ns_m1e, ns_m1f, ns_m1g, ns_un1, ns_un0, ns_day1, Option.bind_some, gi_si_self, gi_si_ne, gl_si, gi_sl, gl_sl_self, gl_sl_ne, if_true, if_false, ns_i0, ns_i1, ns_i2, ns_i3, ns_i4, ns_i5, ns_i6, ns_i7, ns_i8, ns_i9, ns_i10, ns_i11, ns_i12, ns_i13, ns_i20, ns_i23, ns_i24, ns_i31, ns_i50, ns_i60, ns_i99, ns_i100, ns_i144, ns_i200, ns_i255, ns_i700, ns_i880, ns_i899, ns_i900, ns_i901, ns_i999, ns_i1000, ns_i1440, ns_i4095, ns_i1000000, hg]
    rw [if_pos hlt]
    exact ⟨_, rfl, ho_si (o := some i) h ha hb⟩
  | some j =>
    rw [e] at hg
    have hg : gi_ m 13 (a * 12 + b) = nI j := hg
    have hj := hH a b j e
    obtain ⟨r, hr2⟩ : ∃ r, W[j]? = some r := ⟨W[j], List.getElem?_eq_getElem hj⟩
    have hv2 := hW.2 r (List.mem_of_getElem? hr2)
    have h92 := (hr.2 j r hr2).2.2
    rw [mi_some hr2]
    by_cases c : q.2.2 < r.2.2
    · simp (disch := omega) only [↓reduceIte, ↓ns_m1, ns_let, ns_lef, ns_ltt, ns_ltf, ns_eqt, ns_eqf, ns_gd, nI_clamp, nI_add, pk_sub, pk_mul, ns_m1a, ns_m1b, ns_m1c, ns_m1d, ns_m1e, ns_m1f, ns_m1g, ns_un1, ns_un0, ns_day1, Option.bind_some, gi_si_self, gi_si_ne, gl_si, gi_sl, gl_sl_self, gl_sl_ne, if_true, if_false, ns_i0, ns_i1, ns_i2, ns_i3, ns_i4, ns_i5, ns_i6, ns_i7, ns_i8, ns_i9, ns_i10, ns_i11, ns_i12, ns_i13, ns_i20, ns_i23, ns_i24, ns_i31, ns_i50, ns_i60, ns_i99, ns_i100, ns_i144, ns_i200, ns_i255, ns_i700, ns_i880, ns_i899, ns_i900, ns_i901, ns_i999, ns_i1000, ns_i1440, ns_i4095, ns_i1000000, hg, h9, h92]
      rw [if_pos c]
      exact ⟨_, rfl, ho_si (o := some i) h ha hb⟩
    · simp (disch := omega) only [↓reduceIte, ↓ns_m1, ns_let, ns_lef, ns_ltt, ns_ltf, ns_eqt, ns_eqf, ns_gd, nI_clamp, nI_add, pk_sub, pk_mul, ns_m1a, ns_m1b, ns_m1c, ns_m1d, ns_m1e, ns_m1f, ns_m1g, ns_un1, ns_un0, ns_day1, Option.bind_some, gi_si_self, gi_si_ne, gl_si, gi_sl, gl_sl_self, gl_sl_ne, if_true, if_false, ns_i0, ns_i1, ns_i2, ns_i3, ns_i4, ns_i5, ns_i6, ns_i7, ns_i8, ns_i9, ns_i10, ns_i11, ns_i12, ns_i13, ns_i20, ns_i23, ns_i24, ns_i31, ns_i50, ns_i60, ns_i99, ns_i100, ns_i144, ns_i200, ns_i255, ns_i700, ns_i880, ns_i899, ns_i900, ns_i901, ns_i999, ns_i1000, ns_i1440, ns_i4095, ns_i1000000, hg, h9, h92]
      rw [if_neg c, ← e]
      exact ⟨_, rfl, ho_id h⟩
theorem hp_two {W : List (Nat × Nat × Nat)} {n : Nat} {q : Nat × Nat × Nat} (h : W[n]? = some q) (hne : ¬ q.1 = q.2.1) : uh_ (uh_ (hp_ W n) q.1 q.2.1 (of_ W (hp_ W n q.1 q.2.1) n q.2.2)) q.2.1 q.1 (of_ W (uh_ (hp_ W n) q.1 q.2.1 (of_ W (hp_ W n q.1 q.2.1) n q.2.2) q.2.1 q.1) n q.2.2) = hp_ W (n + 1) := by
  funext x y
  rw [hp_s h]
  unfold uh_
  by_cases c1 : x = q.2.1 ∧ y = q.1
  · rw [if_pos c1, if_pos (Or.inr c1), if_neg (by omega), c1.1, c1.2]
  · rw [if_neg c1]
    by_cases c2 : x = q.1 ∧ y = q.2.1
    · rw [if_pos c2, if_pos (Or.inl c2), c2.1, c2.2]
    · rw [if_neg c2, if_neg (by omega)]
theorem uh_bd {W : List (Nat × Nat × Nat)} {H : Nat → Nat → Option Nat} {a b i : Nat} {v : Nat} (hH : ∀ a b j, H a b = some j → j < W.length) (hi : i < W.length) : ∀ x y j, uh_ H a b (of_ W (H a b) i v) x y = some j → j < W.length := by
  intro x y j h
  unfold uh_ of_ at h
  by_cases c : x = a ∧ y = b
  · rw [if_pos c] at h
    by_cases d : v < mi_ W (H a b)
    · rw [if_pos d] at h; cases h; exact hi
    · rw [if_neg d] at h; exact hH _ _ _ h
  · rw [if_neg c] at h; exact hH _ _ _ h
theorem me10_ {W : List (Nat × Nat × Nat)} (hW : wok_ W) {m : fm_} {x : Int32} (hr : wc_ W m) (h : ho_ (hp_ W 0) m) (hx : gi_ m 6 4 = x) : ∃ m', f_X9_measure_10 (nI 0) m = f_X9_measure_10 (nI W.length) m' ∧ wc_ W m' ∧ ho_ (hp_ W W.length) m' ∧ gi_ m' 6 4 = x := by
  refine lp0_ (n := W.length) (F := fun i m => f_X9_measure_10 (nI i) m) (I := fun i m => wc_ W m ∧ ho_ (hp_ W i) m ∧ gi_ m 6 4 = x) ?_ ⟨hr, h, hx⟩
  intro i s hi ⟨hr, h, hx⟩
  have hl := hW.1
  have hq := List.getElem?_eq_getElem hi
  generalize W[i] = q at hq
  have hv := hW.2 q (List.mem_of_getElem? hq)
  obtain ⟨g7, g8, g9⟩ := hr.2 i q hq
  have bd : ∀ a b j, hp_ W i a b = some j → j < W.length := fun a b j e => by have := (hp_u _ _ _ _ e).1; omega
  obtain ⟨m1, e1, h1⟩ := offer_ hW hr h bd hv.1 hv.2.1 hq
  have hr1 : wc_ W m1 := wc_ag hr (sa_ag (by rfl) (fr_X9_offerHop e1))
  obtain ⟨k7, k8, k9⟩ := hr1.2 i q hq
  obtain ⟨m2, e2, h2⟩ := offer_ hW hr1 h1 (uh_bd bd hi) hv.2.1 hv.1 hq
  have hr2 : wc_ W m2 := wc_ag hr1 (sa_ag (by rfl) (fr_X9_offerHop e2))
  rw [hp_two hq hv.2.2.1] at h2
  refine ⟨m2, ?_, hr2, h2, ((sa_gi (fr_X9_offerHop e2) (by rfl)).trans (sa_gi (fr_X9_offerHop e1) (by rfl))).trans hx⟩
  show f_X9_measure_10 (nI i) s = f_X9_measure_10 (nI (i + 1)) m2
  rw [e_X9_measure_10]
  simp (disch := omega) only [↓reduceIte, ↓ns_m1, ns_let, ns_lef, ns_ltt, ns_ltf, ns_eqt, ns_eqf, ns_gd, nI_clamp, nI_add, pk_sub, pk_mul, ns_m1a, ns_m1b, ns_m1c, ns_m1d, ns_m1e, ns_m1f, ns_m1g, ns_un1, ns_un0, ns_day1, Option.bind_some, gi_si_self, gi_si_ne, gl_si, gi_sl, gl_sl_self, gl_sl_ne, if_true, if_false, ns_i0, ns_i1, ns_i2, ns_i3, ns_i4, ns_i5, ns_i6, ns_i7, ns_i8, ns_i9, ns_i10, ns_i11, ns_i12, ns_i13, ns_i20, ns_i23, ns_i24, ns_i31, ns_i50, ns_i60, ns_i99, ns_i100, ns_i144, ns_i200, ns_i255, ns_i700, ns_i880, ns_i899, ns_i900, ns_i901, ns_i999, ns_i1000, ns_i1440, ns_i4095, ns_i1000000, hr.1, g7, g8, e1, k7, k8, e2]
/-- what hops and ways are read from -/
def hrd_ : List (Nat × Nat × Nat) := [(6, 6, 4), (7, 7, 0), (8, 8, 0), (9, 9, 0), (13, 13, 0)]
def hr_ (W : List (Nat × Nat × Nat)) (m : fm_) : Prop := wc_ W m ∧ ho_ (hp_ W W.length) m
theorem hr_ag {W : List (Nat × Nat × Nat)} {m m1 : fm_} (h : hr_ W m) (ha : ag_ hrd_ m m1) : hr_ W m1 :=
  ⟨⟨(ha 6 3 rfl).1.trans h.1.1, fun j q hq => by
    have := h.1.2 j q hq
    rw [(ha 7 j rfl).1, (ha 8 j rfl).1, (ha 9 j rfl).1]
    exact this⟩, fun a b ha1 hb => (ha 13 _ rfl).1.trans (h.2 a b ha1 hb)⟩
theorem hop_ {W : List (Nat × Nat × Nat)} {m : fm_} (h : hr_ W m) {a b : Nat} (ha : a < 12) (hb : b < 12) : f_X9_hop (nI a) (nI b) m = some (en1_ (hp_ W W.length a b), m) := by
  unfold f_X9_hop
  simp (disch := omega) only [↓reduceIte, ↓ns_m1, ns_let, ns_lef, ns_ltt, ns_ltf, ns_eqt, ns_eqf, ns_gd, nI_clamp, nI_add, pk_sub, pk_mul, ns_m1a, ns_m1b, ns_m1c, ns_m1d, ns_m1e, ns_m1f, ns_m1g, ns_un1, ns_un0, ns_day1, Option.bind_some, gi_si_self, gi_si_ne, gl_si, gi_sl, gl_sl_self, gl_sl_ne, if_true, if_false, ns_i0, ns_i1, ns_i2, ns_i3, ns_i4, ns_i5, ns_i6, ns_i7, ns_i8, ns_i9, ns_i10, ns_i11, ns_i12, ns_i13, ns_i20, ns_i23, ns_i24, ns_i31, ns_i50, ns_i60, ns_i99, ns_i100, ns_i144, ns_i200, ns_i255, ns_i700, ns_i880, ns_i899, ns_i900, ns_i901, ns_i999, ns_i1000, ns_i1440, ns_i4095, ns_i1000000, h.2 a b ha hb]
theorem hopm_ {W : List (Nat × Nat × Nat)} (hW : wok_ W) {m : fm_} (h : hr_ W m) {a b : Nat} (ha : a < 12) (hb : b < 12) : f_X9_hopMinutes (nI a) (nI b) m = some (nI (hm_ W a b), m) := by
  have hl := hW.1
  unfold f_X9_hopMinutes hm_
  rw [hop_ h ha hb]
  simp only [Option.bind_some]
  rw [h.1.1]
  cases e : hp_ W W.length a b with
  | none =>
    rw [und_, bu_0 (show nat_ (en1_ none) W.length = none from rfl)]
    rfl
  | some i =>
    obtain ⟨h1, q, h2, _⟩ := hp_u _ _ _ _ e
    rw [mi_some h2]
    show (Option.bind (f_X11_isUnder (nI i) _ m) _) = _
    have h9 := (h.1.2 i q h2).2.2
    have e1 : en1_ (some i) = nI i := rfl
    simp (disch := omega) only [↓reduceIte, ↓ns_m1, ns_let, ns_lef, ns_ltt, ns_ltf, ns_eqt, ns_eqf, ns_gd, nI_clamp, nI_add, pk_sub, pk_mul, ns_m1a, ns_m1b, ns_m1c, ns_m1d, ns_m1e, ns_m1f, ns_m1g, ns_un1, ns_un0, ns_day1, Option.bind_some, gi_si_self, gi_si_ne, gl_si, gi_sl, gl_sl_self, gl_sl_ne, if_true, if_false, ns_i0, ns_i1, ns_i2, ns_i3, ns_i4, ns_i5, ns_i6, ns_i7, ns_i8, ns_i9, ns_i10, ns_i11, ns_i12, ns_i13, ns_i20, ns_i23, ns_i24, ns_i31, ns_i50, ns_i60, ns_i99, ns_i100, ns_i144, ns_i200, ns_i255, ns_i700, ns_i880, ns_i899, ns_i900, ns_i901, ns_i999, ns_i1000, ns_i1440, ns_i4095, ns_i1000000, h9, e1]
theorem and2_ {s a b : Nat} (hs : s < 4096) (ha : a < 32) (hb : b < 32) : (((nI s >>> (nI a &&& nI 31)) &&& (nI s >>> (nI b &&& nI 31))) &&& nI 1 = nI 1) = (bb_ s a = 1 ∧ bb_ s b = 1) := by
  have l1 := Nat.div_le_self s (2 ^ a)
  have l2 := Nat.div_le_self s (2 ^ b)
  have e1 : nI s >>> (nI a &&& nI 31) = nI (s / 2 ^ a) := bb_shr (by omega) ha
  have e2 : nI s >>> (nI b &&& nI 31) = nI (s / 2 ^ b) := bb_shr (by omega) hb
  have l3 : s / 2 ^ a &&& s / 2 ^ b ≤ s / 2 ^ a := Nat.and_le_left
  have e3 : nI (s / 2 ^ a &&& s / 2 ^ b) &&& nI 1 = nI ((s / 2 ^ a &&& s / 2 ^ b) % 2) := bb_and1 (by omega)
  rw [e1, e2, nI_and (by omega) (by omega), e3]
  have t := Nat.testBit_and (s / 2 ^ a) (s / 2 ^ b) 0
  rw [Nat.testBit_zero, Nat.testBit_zero, Nat.testBit_zero] at t
  unfold bb_
  apply propext
  constructor
  · intro q
    have q1 := (nI_eq (by omega) (by omega)).mp q
    rw [decide_eq_true q1] at t
    have := t.symm
    rw [Bool.and_eq_true, decide_eq_true_eq, decide_eq_true_eq] at this
    exact this
  · intro q
    rw [decide_eq_true q.1, decide_eq_true q.2] at t
    rw [of_decide_eq_true t]
theorem hr_si {W : List (Nat × Nat × Nat)} {m : fm_} (h : hr_ W m) {c : Nat} (hc : 14 ≤ c) {k : Nat} {x : Int32} : hr_ W (si_ m c k x) :=
  ⟨⟨(gi_si_ne (by omega)).trans h.1.1, fun j q hq => by
    rw [gi_si_ne (by omega), gi_si_ne (by omega), gi_si_ne (by omega)]
    exact h.1.2 j q hq⟩, fun a b ha hb => (gi_si_ne (by omega)).trans (h.2 a b ha hb)⟩
/-- so far filled -/
def tf_ (T : t2_) (c a b : Nat) (m : fm_) : Prop := ∀ x y, x < 12 → y < 12 → (x < a ∨ (x = a ∧ y < b)) → gi_ m c (x * 12 + y) = nI (T x y)
theorem tf_si {T : t2_} {c a b : Nat} {m : fm_} (h : tf_ T c a b m) {x : Int32} (hx : x = nI (T a b)) (hb : b < 12) : tf_ T c a (b + 1) (si_ m c (a * 12 + b) x) := by
  intro u v hu hv q
  by_cases e : u = a ∧ v = b
  · rw [e.1, e.2, gi_si_self, hx]
  · rw [gi_si_ne (by omega)]
    exact h u v hu hv (by omega)
theorem tf_r {T : t2_} {c a : Nat} {m : fm_} (h : tf_ T c a 12 m) : tf_ T c (a + 1) 0 m := fun u v hu hv q => h u v hu hv (by omega)
theorem spi_ {W : List (Nat × Nat × Nat)} (hW : wok_ W) {s : Nat} {S : Nat → Bool} (hs4 : s < 4096) (hs : ∀ p, p < 12 → bb_ s p = if S p = true then 1 else 0) {c : Nat} (hc : 14 ≤ c) {m : fm_} (h : hr_ W m) : ∃ m', f_X9_spread_2 c (nI s) (nI 0) m = f_X9_spread_93 c (nI s) (nI 0) m' ∧ hr_ W m' ∧ tb_ (st0_ W S) c m' := by
  obtain ⟨m1, e1, h1, h2⟩ := lp0_ (n := 12) (F := fun a m => f_X9_spread_2 c (nI s) (nI a) m) (I := fun a m => hr_ W m ∧ tf_ (st0_ W S) c a 0 m) (fun a m0 ha hI => by
    obtain ⟨m2, e2, h3, h4⟩ := lp0_ (n := 12) (F := fun b m => f_X9_spread_11 c (nI s) (nI a) (nI b) m) (I := fun b m => hr_ W m ∧ tf_ (st0_ W S) c a b m) (fun b m3 hb hJ => by
      show ∃ s', f_X9_spread_11 c (nI s) (nI a) (nI b) m3 = f_X9_spread_11 c (nI s) (nI a) (nI (b + 1)) s' ∧ _
      have sa := hs a ha
      have sb := hs b hb
      have hT : st0_ W S a b = if (S a && S b) = true then (if a = b then 0 else hm_ W a b) else 1000000 := rfl
      have hm := hopm_ hW hJ.1 ha hb
      rw [e_X9_spread_11]
      by_cases e : a = b
      · by_cases c1 : S a = true
        · have c2 : S b = true := by rw [← e]; exact c1
          rw [c1, c2] at hT
          rw [if_pos c1] at sa
          rw [if_pos c2] at sb
          have hc3 : bb_ s a = 1 ∧ bb_ s b = 1 := ⟨sa, sb⟩
          simp only [Bool.and_self, if_true, if_pos e] at hT
          simp (disch := omega) only [↓reduceIte, ↓ns_m1, ns_let, ns_lef, ns_ltt, ns_ltf, ns_eqt, ns_eqf, ns_gd, nI_clamp, nI_add, pk_sub, pk_mul, ns_m1a, ns_m1b, ns_m1c, ns_m1d, ns_m1e, ns_m1f, ns_m1g, ns_un1, ns_un0, ns_day1, Option.bind_some, gi_si_self, gi_si_ne, gl_si, gi_sl, gl_sl_self, gl_sl_ne, if_true, if_false, ns_i0, ns_i1, ns_i2, ns_i3, ns_i4, ns_i5, ns_i6, ns_i7, ns_i8, ns_i9, ns_i10, ns_i11, ns_i12, ns_i13, ns_i20, ns_i23, ns_i24, ns_i31, ns_i50, ns_i60, ns_i99, ns_i100, ns_i144, ns_i200, ns_i255, ns_i700, ns_i880, ns_i899, ns_i900, ns_i901, ns_i999, ns_i1000, ns_i1440, ns_i4095, ns_i1000000, and2_, hc3]
          exact ⟨_, rfl, hr_si hJ.1 hc, tf_si hJ.2 (by rw [hT]) hb⟩
        · rw [if_neg c1] at sa
          have hc3 : ¬ (bb_ s a = 1 ∧ bb_ s b = 1) := by omega
          have c4 : ¬ (S a && S b) = true := by rw [Bool.and_eq_true]; exact fun q => c1 q.1
          rw [if_neg c4] at hT
          simp (disch := omega) only [↓reduceIte, ↓ns_m1, ns_let, ns_lef, ns_ltt, ns_ltf, ns_eqt, ns_eqf, ns_gd, nI_clamp, nI_add, pk_sub, pk_mul, ns_m1a, ns_m1b, ns_m1c, ns_m1d, ns_m1e, ns_m1f, ns_m1g, ns_un1, ns_un0, ns_day1, Option.bind_some, gi_si_self, gi_si_ne, gl_si, gi_sl, gl_sl_self, gl_sl_ne, if_true, if_false, ns_i0, ns_i1, ns_i2, ns_i3, ns_i4, ns_i5, ns_i6, ns_i7, ns_i8, ns_i9, ns_i10, ns_i11, ns_i12, ns_i13, ns_i20, ns_i23, ns_i24, ns_i31, ns_i50, ns_i60, ns_i99, ns_i100, ns_i144, ns_i200, ns_i255, ns_i700, ns_i880, ns_i899, ns_i900, ns_i901, ns_i999, ns_i1000, ns_i1440, ns_i4095, ns_i1000000, and2_, hc3]
          exact ⟨_, rfl, hr_si hJ.1 hc, tf_si hJ.2 (by rw [hT]) hb⟩
      · by_cases c1 : (S a && S b) = true
        · have c2 := Bool.and_eq_true _ _ ▸ c1
          rw [if_pos c2.1] at sa
          rw [if_pos c2.2] at sb
          have hc3 : bb_ s a = 1 ∧ bb_ s b = 1 := ⟨sa, sb⟩
          rw [if_pos c1, if_neg e] at hT
          simp (disch := omega) only [↓reduceIte, ↓ns_m1, ns_let, ns_lef, ns_ltt, ns_ltf, ns_eqt, ns_eqf, ns_gd, nI_clamp, nI_add, pk_sub, pk_mul, ns_m1a, ns_m1b, ns_m1c, ns_m1d, ns_m1e, ns_m1f, ns_m1g, ns_un1, ns_un0, ns_day1, Option.bind_some, gi_si_self, gi_si_ne, gl_si, gi_sl, gl_sl_self, gl_sl_ne, if_true, if_false, ns_i0, ns_i1, ns_i2, ns_i3, ns_i4, ns_i5, ns_i6, ns_i7, ns_i8, ns_i9, ns_i10, ns_i11, ns_i12, ns_i13, ns_i20, ns_i23, ns_i24, ns_i31, ns_i50, ns_i60, ns_i99, ns_i100, ns_i144, ns_i200, ns_i255, ns_i700, ns_i880, ns_i899, ns_i900, ns_i901, ns_i999, ns_i1000, ns_i1440, ns_i4095, ns_i1000000, and2_, hc3, hm]
          exact ⟨_, rfl, hr_si hJ.1 hc, tf_si hJ.2 (by rw [hT]) hb⟩
        · have hc3 : ¬ (bb_ s a = 1 ∧ bb_ s b = 1) := by
            intro q
            apply c1
            rw [Bool.and_eq_true]
            constructor
            · by_cases d : S a = true
              · exact d
              · rw [if_neg d] at sa; omega
            · by_cases d : S b = true
              · exact d
              · rw [if_neg d] at sb; omega
          rw [if_neg c1] at hT
          simp (disch := omega) only [↓reduceIte, ↓ns_m1, ns_let, ns_lef, ns_ltt, ns_ltf, ns_eqt, ns_eqf, ns_gd, nI_clamp, nI_add, pk_sub, pk_mul, ns_m1a, ns_m1b, ns_m1c, ns_m1d, ns_m1e, ns_m1f, ns_m1g, ns_un1, ns_un0, ns_day1, Option.bind_some, gi_si_self, gi_si_ne, gl_si, gi_sl, gl_sl_self, gl_sl_ne, if_true, if_false, ns_i0, ns_i1, ns_i2, ns_i3, ns_i4, ns_i5, ns_i6, ns_i7, ns_i8, ns_i9, ns_i10, ns_i11, ns_i12, ns_i13, ns_i20, ns_i23, ns_i24, ns_i31, ns_i50, ns_i60, ns_i99, ns_i100, ns_i144, ns_i200, ns_i255, ns_i700, ns_i880, ns_i899, ns_i900, ns_i901, ns_i999, ns_i1000, ns_i1440, ns_i4095, ns_i1000000, and2_, hc3, hm]
          exact ⟨_, rfl, hr_si hJ.1 hc, tf_si hJ.2 (by rw [hT]) hb⟩) (s := m0) hI
    refine ⟨m2, ?_, h3, tf_r h4⟩
    show f_X9_spread_2 c (nI s) (nI a) m0 = f_X9_spread_2 c (nI s) (nI (a + 1)) m2
    rw [e_X9_spread_2]
    have e2 : f_X9_spread_11 c (nI s) (nI a) (nI 0) m0 = f_X9_spread_11 c (nI s) (nI a) (nI 12) m2 := e2
    simp (disch := omega) only [↓reduceIte, ↓ns_m1, ns_let, ns_lef, ns_ltt, ns_ltf, ns_eqt, ns_eqf, ns_gd, nI_clamp, nI_add, pk_sub, pk_mul, ns_m1a, ns_m1b, ns_m1c, ns_m1d, ns_m1e, ns_m1f, ns_m1g, ns_un1, ns_un0, ns_day1, Option.bind_some, gi_si_self, gi_si_ne, gl_si, gi_sl, gl_sl_self, gl_sl_ne, if_true, if_false, ns_i0, ns_i1, ns_i2, ns_i3, ns_i4, ns_i5, ns_i6, ns_i7, ns_i8, ns_i9, ns_i10, ns_i11, ns_i12, ns_i13, ns_i20, ns_i23, ns_i24, ns_i31, ns_i50, ns_i60, ns_i99, ns_i100, ns_i144, ns_i200, ns_i255, ns_i700, ns_i880, ns_i899, ns_i900, ns_i901, ns_i999, ns_i1000, ns_i1440, ns_i4095, ns_i1000000, e2]
    rw [e_X9_spread_11]
    simp (disch := omega) only [↓reduceIte, ↓ns_m1, ns_let, ns_lef, ns_ltt, ns_ltf, ns_eqt, ns_eqf, ns_gd, nI_clamp, nI_add, pk_sub, pk_mul, ns_m1a, ns_m1b, ns_m1c, ns_m1d, ns_m1e, ns_m1f, ns_m1g, ns_un1, ns_un0, ns_day1, Option.bind_some, gi_si_self, gi_si_ne, gl_si, gi_sl, gl_sl_self, gl_sl_ne, if_true, if_false, ns_i0, ns_i1, ns_i2, ns_i3, ns_i4, ns_i5, ns_i6, ns_i7, ns_i8, ns_i9, ns_i10, ns_i11, ns_i12, ns_i13, ns_i20, ns_i23, ns_i24, ns_i31, ns_i50, ns_i60, ns_i99, ns_i100, ns_i144, ns_i200, ns_i255, ns_i700, ns_i880, ns_i899, ns_i900, ns_i901, ns_i999, ns_i1000, ns_i1440, ns_i4095, ns_i1000000]) (s := m) ⟨h, fun x y _ _ q => by omega⟩
  refine ⟨m1, ?_, h1, fun a b ha hb => h2 a b ha hb (by omega)⟩
  have e1 : f_X9_spread_2 c (nI s) (nI 0) m = f_X9_spread_2 c (nI s) (nI 12) m1 := e1
  rw [e1, e_X9_spread_2]
  simp (disch := omega) only [↓reduceIte, ↓ns_m1, ns_let, ns_lef, ns_ltt, ns_ltf, ns_eqt, ns_eqf, ns_gd, nI_clamp, nI_add, pk_sub, pk_mul, ns_m1a, ns_m1b, ns_m1c, ns_m1d, ns_m1e, ns_m1f, ns_m1g, ns_un1, ns_un0, ns_day1, Option.bind_some, gi_si_self, gi_si_ne, gl_si, gi_sl, gl_sl_self, gl_sl_ne, if_true, if_false, ns_i0, ns_i1, ns_i2, ns_i3, ns_i4, ns_i5, ns_i6, ns_i7, ns_i8, ns_i9, ns_i10, ns_i11, ns_i12, ns_i13, ns_i20, ns_i23, ns_i24, ns_i31, ns_i50, ns_i60, ns_i99, ns_i100, ns_i144, ns_i200, ns_i255, ns_i700, ns_i880, ns_i899, ns_i900, ns_i901, ns_i999, ns_i1000, ns_i1440, ns_i4095, ns_i1000000]
/-- one middle after another -/
theorem spf_ {T : t2_} (hT : far_ T) {x2 : Int32} {c : Nat} {m : fm_} (h : tb_ T c m) : ∃ m', f_X9_spread_93 c x2 (nI 0) m = some (0, m') ∧ tb_ (fwd_ T 12) c m' := by
  obtain ⟨m1, e1, h1⟩ := lp0_ (n := 12) (F := fun k m => f_X9_spread_93 c x2 (nI k) m) (I := fun k m => tb_ (fwd_ T k) c m) (fun k m0 hk hI => by
    have hI : tb_ (fwd_ T k) c m0 := hI
    have hF := fwd_far hT k
    generalize hU : fwd_ T k = U at hI hF
    obtain ⟨m2, e2, h2⟩ := lp0_ (n := 12) (F := fun a m => f_X9_spread_102 c x2 (nI k) (nI a) m) (I := fun a m => tb_ (fwq_ U k a 0) c m) (fun a m3 ha hJ => by
      have hJ : tb_ (fwq_ U k a 0) c m3 := hJ
      show ∃ s', f_X9_spread_102 c x2 (nI k) (nI a) m3 = f_X9_spread_102 c x2 (nI k) (nI (a + 1)) s' ∧ tb_ (fwq_ U k (a + 1) 0) c s'
      have g1 := hJ a k ha hk
      rw [fwq_col] at g1
      rw [e_X9_spread_102]
      simp (disch := omega) only [↓reduceIte, ↓ns_m1, ns_let, ns_lef, ns_ltt, ns_ltf, ns_eqt, ns_eqf, ns_gd, nI_clamp, nI_add, pk_sub, pk_mul, ns_m1a, ns_m1b, ns_m1c, ns_m1d, ns_m1e, ns_m1f, ns_m1g, ns_un1, ns_un0, ns_day1, Option.bind_some, gi_si_self, gi_si_ne, gl_si, gi_sl, gl_sl_self, gl_sl_ne, if_true, if_false, ns_i0, ns_i1, ns_i2, ns_i3, ns_i4, ns_i5, ns_i6, ns_i7, ns_i8, ns_i9, ns_i10, ns_i11, ns_i12, ns_i13, ns_i20, ns_i23, ns_i24, ns_i31, ns_i50, ns_i60, ns_i99, ns_i100, ns_i144, ns_i200, ns_i255, ns_i700, ns_i880, ns_i899, ns_i900, ns_i901, ns_i999, ns_i1000, ns_i1440, ns_i4095, ns_i1000000, g1]
      by_cases hf : 1000000 ≤ U a k
      · have b1 := hF a k
        rw [e_X9_spread_123]
        simp (disch := omega) only [↓reduceIte, ↓ns_m1, ns_let, ns_lef, ns_ltt, ns_ltf, ns_eqt, ns_eqf, ns_gd, nI_clamp, nI_add, pk_sub, pk_mul, ns_m1a, ns_m1b, ns_m1c, ns_m1d, ns_m1e, ns_m1f, ns_m1g, ns_un1, ns_un0, ns_day1, Option.bind_some, gi_si_self, gi_si_ne, gl_si, gi_sl, gl_sl_self, gl_sl_ne, if_true, if_false, ns_i0, ns_i1, ns_i2, ns_i3, ns_i4, ns_i5, ns_i6, ns_i7, ns_i8, ns_i9, ns_i10, ns_i11, ns_i12, ns_i13, ns_i20, ns_i23, ns_i24, ns_i31, ns_i50, ns_i60, ns_i99, ns_i100, ns_i144, ns_i200, ns_i255, ns_i700, ns_i880, ns_i899, ns_i900, ns_i901, ns_i999, ns_i1000, ns_i1440, ns_i4095, ns_i1000000]
        refine ⟨_, rfl, tb_te hJ fun x y hx hy => ?_⟩
        unfold fwq_
        have b2 := hF x y
        by_cases q1 : x < a
        · rw [if_pos (by omega), if_pos (by omega)]
        · rw [if_neg (by omega)]
          by_cases q2 : x = a
          · rw [if_pos (by omega)]
            unfold fwp_
            rw [q2] at b2 ⊢
            omega
          · rw [if_neg (by omega)]
      · obtain ⟨m4, e4, h4⟩ := lp0_ (n := 12) (F := fun b m => f_X9_spread_123 c x2 (nI k) (nI a) (nI (U a k)) (nI b) m) (I := fun b m => tb_ (fwq_ U k a b) c m) (fun b m5 hb hK => by
          have hK : tb_ (fwq_ U k a b) c m5 := hK
          show ∃ s', f_X9_spread_123 c x2 (nI k) (nI a) (nI (U a k)) (nI b) m5 = f_X9_spread_123 c x2 (nI k) (nI a) (nI (U a k)) (nI (b + 1)) s' ∧ tb_ (fwq_ U k a (b + 1)) c s'
          have g2 := hK a b ha hb
          have g3 := hK k b hk hb
          rw [fwq_at] at g2
          rw [fwq_row] at g3
          have b1 := hF a b
          have b2 := hF k b
          rw [e_X9_spread_123]
          simp (disch := omega) only [↓reduceIte, ↓ns_m1, ns_let, ns_lef, ns_ltt, ns_ltf, ns_eqt, ns_eqf, ns_gd, nI_clamp, nI_add, pk_sub, pk_mul, ns_m1a, ns_m1b, ns_m1c, ns_m1d, ns_m1e, ns_m1f, ns_m1g, ns_un1, ns_un0, ns_day1, Option.bind_some, gi_si_self, gi_si_ne, gl_si, gi_sl, gl_sl_self, gl_sl_ne, if_true, if_false, ns_i0, ns_i1, ns_i2, ns_i3, ns_i4, ns_i5, ns_i6, ns_i7, ns_i8, ns_i9, ns_i10, ns_i11, ns_i12, ns_i13, ns_i20, ns_i23, ns_i24, ns_i31, ns_i50, ns_i60, ns_i99, ns_i100, ns_i144, ns_i200, ns_i255, ns_i700, ns_i880, ns_i899, ns_i900, ns_i901, ns_i999, ns_i1000, ns_i1440, ns_i4095, ns_i1000000, g2, g3, ns_mn]
          refine ⟨_, rfl, ?_⟩
          rw [← fwq_step]
          exact tb_si hK ha hb) (s := m3) hJ
        have e4 : f_X9_spread_123 c x2 (nI k) (nI a) (nI (U a k)) (nI 0) m3 = f_X9_spread_123 c x2 (nI k) (nI a) (nI (U a k)) (nI 12) m4 := e4
        rw [e4, e_X9_spread_123]
        simp (disch := omega) only [↓reduceIte, ↓ns_m1, ns_let, ns_lef, ns_ltt, ns_ltf, ns_eqt, ns_eqf, ns_gd, nI_clamp, nI_add, pk_sub, pk_mul, ns_m1a, ns_m1b, ns_m1c, ns_m1d, ns_m1e, ns_m1f, ns_m1g, ns_un1, ns_un0, ns_day1, Option.bind_some, gi_si_self, gi_si_ne, gl_si, gi_sl, gl_sl_self, gl_sl_ne, if_true, if_false, ns_i0, ns_i1, ns_i2, ns_i3, ns_i4, ns_i5, ns_i6, ns_i7, ns_i8, ns_i9, ns_i10, ns_i11, ns_i12, ns_i13, ns_i20, ns_i23, ns_i24, ns_i31, ns_i50, ns_i60, ns_i99, ns_i100, ns_i144, ns_i200, ns_i255, ns_i700, ns_i880, ns_i899, ns_i900, ns_i901, ns_i999, ns_i1000, ns_i1440, ns_i4095, ns_i1000000]
        exact ⟨_, rfl, tb_te h4 (fwq_r U k a)⟩) (s := m0) (by show tb_ (fwq_ U k 0 0) c m0; rw [fwq_0]; exact hI)
    refine ⟨m2, ?_, ?_⟩
    · show f_X9_spread_93 c x2 (nI k) m0 = f_X9_spread_93 c x2 (nI (k + 1)) m2
      have e2 : f_X9_spread_102 c x2 (nI k) (nI 0) m0 = f_X9_spread_102 c x2 (nI k) (nI 12) m2 := e2
      rw [e_X9_spread_93]
      simp (disch := omega) only [↓reduceIte, ↓ns_m1, ns_let, ns_lef, ns_ltt, ns_ltf, ns_eqt, ns_eqf, ns_gd, nI_clamp, nI_add, pk_sub, pk_mul, ns_m1a, ns_m1b, ns_m1c, ns_m1d, ns_m1e, ns_m1f, ns_m1g, ns_un1, ns_un0, ns_day1, Option.bind_some, gi_si_self, gi_si_ne, gl_si, gi_sl, gl_sl_self, gl_sl_ne, if_true, if_false, ns_i0, ns_i1, ns_i2, ns_i3, ns_i4, ns_i5, ns_i6, ns_i7, ns_i8, ns_i9, ns_i10, ns_i11, ns_i12, ns_i13, ns_i20, ns_i23, ns_i24, ns_i31, ns_i50, ns_i60, ns_i99, ns_i100, ns_i144, ns_i200, ns_i255, ns_i700, ns_i880, ns_i899, ns_i900, ns_i901, ns_i999, ns_i1000, ns_i1440, ns_i4095, ns_i1000000, e2]
      rw [e_X9_spread_102]
      simp (disch := omega) only [↓reduceIte, ↓ns_m1, ns_let, ns_lef, ns_ltt, ns_ltf, ns_eqt, ns_eqf, ns_gd, nI_clamp, nI_add, pk_sub, pk_mul, ns_m1a, ns_m1b, ns_m1c, ns_m1d, ns_m1e, ns_m1f, ns_m1g, ns_un1, ns_un0, ns_day1, Option.bind_some, gi_si_self, gi_si_ne, gl_si, gi_sl, gl_sl_self, gl_sl_ne, if_true, if_false, ns_i0, ns_i1, ns_i2, ns_i3, ns_i4, ns_i5, ns_i6, ns_i7, ns_i8, ns_i9, ns_i10, ns_i11, ns_i12, ns_i13, ns_i20, ns_i23, ns_i24, ns_i31, ns_i50, ns_i60, ns_i99, ns_i100, ns_i144, ns_i200, ns_i255, ns_i700, ns_i880, ns_i899, ns_i900, ns_i901, ns_i999, ns_i1000, ns_i1440, ns_i4095, ns_i1000000]
    · show tb_ (fwp_ (fwd_ T k) k) c m2
      rw [hU]
      exact tb_te h2 (fwq_e U k)) (s := m) h
  have e1 : f_X9_spread_93 c x2 (nI 0) m = f_X9_spread_93 c x2 (nI 12) m1 := e1
  refine ⟨m1, ?_, h1⟩
  rw [e1, e_X9_spread_93]
  simp (disch := omega) only [↓reduceIte, ↓ns_m1, ns_let, ns_lef, ns_ltt, ns_ltf, ns_eqt, ns_eqf, ns_gd, nI_clamp, nI_add, pk_sub, pk_mul, ns_m1a, ns_m1b, ns_m1c, ns_m1d, ns_m1e, ns_m1f, ns_m1g, ns_un1, ns_un0, ns_day1, Option.bind_some, gi_si_self, gi_si_ne, gl_si, gi_sl, gl_sl_self, gl_sl_ne, if_true, if_false, ns_i0, ns_i1, ns_i2, ns_i3, ns_i4, ns_i5, ns_i6, ns_i7, ns_i8, ns_i9, ns_i10, ns_i11, ns_i12, ns_i13, ns_i20, ns_i23, ns_i24, ns_i31, ns_i50, ns_i60, ns_i99, ns_i100, ns_i144, ns_i200, ns_i255, ns_i700, ns_i880, ns_i899, ns_i900, ns_i901, ns_i999, ns_i1000, ns_i1440, ns_i4095, ns_i1000000]
theorem spread_ {W : List (Nat × Nat × Nat)} (hW : wok_ W) {s : Nat} {S : Nat → Bool} (hs4 : s < 4096) (hs : ∀ p, p < 12 → bb_ s p = if S p = true then 1 else 0) {c : Nat} (hc : 14 ≤ c) {m : fm_} (h : hr_ W m) : ∃ m', f_X9_spread c (nI s) m = some (0, m') ∧ hr_ W m' ∧ tb_ (fwd_ (st0_ W S) 12) c m' := by
  obtain ⟨m1, e1, h1, h2⟩ := spi_ hW hs4 hs hc h
  obtain ⟨m2, e2, h3⟩ := spf_ (st0_far hW S) h2 (x2 := nI s)
  have e : f_X9_spread c (nI s) m = some (0, m2) := by
    show f_X9_spread_2 c (nI s) (nI 0) m = _
    rw [e1, e2]
  refine ⟨m2, e, ?_, h3⟩
  refine hr_ag h (sa_ag ?_ (fr_X9_spread e))
  unfold dj_ hrd_ w_X9_spread
  simp only [List.all_cons, List.all_nil, Bool.and_true, Bool.and_eq_true, Bool.or_eq_true]
  have : ∀ x, x < 14 → Nat.blt x c = true := fun x hx => by
    show Nat.ble (x + 1) c = true
    exact Nat.ble_eq_true_of_le (by omega)
  exact ⟨Or.inl (this _ (by omega)), Or.inl (this _ (by omega)), Or.inl (this _ (by omega)), Or.inl (this _ (by omega)), Or.inl (this _ (by omega))⟩
