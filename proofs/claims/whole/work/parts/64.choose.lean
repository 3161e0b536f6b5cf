/-! ===== all plates; what was chosen ===== -/
def pro_ (tg : Nat → Nat → Bool) (N l : Nat) (Wt pw : Nat → Nat) (s v : Nat) : Prop := v ≤ Wt s ∧ (v = Wt s ∨ ∃ y, ¬ y = 0 ∧ y &&& (s &&& l) = y ∧ bop_ tg N y ∧ v = Wt (s ^^^ y) + pw y) ∧ ∀ y, ¬ y = 0 → y &&& (s &&& l) = y → bop_ tg N y → v ≤ Wt (s ^^^ y) + pw y
theorem o20_ {W : List (Nat × Nat × Nat)} {F : List fa_} {C : List (Nat × Nat × Nat)} {R : List Nat} (hl7 : R.length ≤ 7) {p l : Nat} {Wt pw : Nat → Nat} (hl : l < 2 ^ R.length) (bw : ∀ t, t < 2 ^ R.length → Wt t ≤ 565127959) (bp : ∀ t, t < 2 ^ R.length → t &&& l = t → pw t ≤ 565127959) :
    ∀ (s : Nat) (m : fm_) (Wn : Nat → Nat), s < 2 ^ R.length → bysets_ (tgg_ W F C R) R.length (2 ^ R.length) m → (∀ t, t < 2 ^ R.length → t &&& l = t → gi_ m 91 t = nI (pw t)) → (∀ t, t ≤ s → gi_ m 90 t = nI (Wt t)) → (∀ t, s < t → t < 2 ^ R.length → gi_ m 90 t = nI (Wn t) ∧ pro_ (tgg_ W F C R) R.length l Wt pw t (Wn t)) → ∃ (m' : fm_) (Wn' : Nat → Nat), f_X6_offer_20 (nI p) (nI l) (nI s) m = some (0, m') ∧ ∀ t, t < 2 ^ R.length → gi_ m' 90 t = nI (Wn' t) ∧ pro_ (tgg_ W F C R) R.length l Wt pw t (Wn' t) := by
  have h128 := pw7 hl7
  intro s
  induction s with
  | zero =>
    intro m Wn hs hb hp hw hn
    refine ⟨m, ur_ Wn 0 (Wt 0), ?_, fun t ht => ?_⟩
    · rw [e_X6_offer_20]
      simp (disch := omega) only [↓reduceIte, ↓ns_m1, ns_let, ns_lef, ns_ltt, ns_ltf, ns_eqt, ns_eqf, ns_gd, nI_clamp, nI_add, pk_sub, pk_mul, ns_m1a, ns_m1b, ns_m1c, ns_m1d, ns_m1e, ns_m1f, ns_m1g, ns_un1, ns_un0, ns_day1, Option.bind_some, gi_si_self, gi_si_ne, gl_si, gi_sl, gl_sl_self, gl_sl_ne, if_true, if_false, ns_i0, ns_i1, ns_i2, ns_i3, ns_i4, ns_i5, ns_i6, ns_i7, ns_i8, ns_i9, ns_i10, ns_i11, ns_i12, ns_i13, ns_i20, ns_i23, ns_i24, ns_i31, ns_i50, ns_i60, ns_i99, ns_i100, ns_i144, ns_i200, ns_i255, ns_i700, ns_i880, ns_i899, ns_i900, ns_i901, ns_i999, ns_i1000, ns_i1440, ns_i4095, ns_i1000000]
    · by_cases e : t = 0
      · subst e
        rw [ur_s]
        refine ⟨hw 0 (Nat.le_refl _), Nat.le_refl _, Or.inl rfl, fun y hy hys => ?_⟩
        rw [Nat.zero_and, Nat.and_zero] at hys
        exact absurd hys.symm hy
      · rw [show ur_ Wn 0 (Wt 0) t = Wn t from if_neg e]
        exact hn t (by omega) ht
  | succ s ih =>
    intro m Wn hs hb hp hw hn
    have sub : (s + 1 &&& l) &&& (s + 1 &&& l) = s + 1 &&& l := Nat.and_self _
    obtain ⟨v, r1, r2, r3, r4⟩ := o37_ (P := []) hl7 (p := p) hs hl hb hw hp bw bp (s + 1 &&& l) (s + 1 &&& l) (Wt (s + 1)) (Nat.le_refl _) sub (Nat.le_refl _) (Or.inl rfl) (fun y hy hys _ => by
      have := sub_le hys
      omega)
    have ex : s + 1 - 1 = s := by omega
    rw [ns_m1g (show 1 ≤ s + 1 by omega), ex] at r1
    obtain ⟨m', Wn', q1, q2⟩ := ih (si_ m 90 (s + 1) (nI v)) (ur_ Wn (s + 1) v) (by omega) (fun t ht => by
      obtain ⟨b, h1, h2⟩ := hb t ht
      exact ⟨b, (gi_si_ne (by omega)).trans h1, h2⟩) (fun t ht htl => (gi_si_ne (by omega)).trans (hp t ht htl)) (fun t ht => (gi_si_ne (by omega)).trans (hw t (by omega))) (fun t ht ht2 => by
      by_cases e : t = s + 1
      · subst e
        rw [ur_s, gi_si_self]
        exact ⟨rfl, r2, r3, r4⟩
      · rw [show ur_ Wn (s + 1) v t = Wn t from if_neg e, gi_si_ne (by omega)]
        exact hn t (by omega) ht2)
    refine ⟨m', Wn', ?_, q2⟩
    have g1 := hw (s + 1) (Nat.le_refl _)
    have na : nI (s + 1) &&& nI l = nI (s + 1 &&& l) := nI_and (by omega) (by omega)
    rw [e_X6_offer_20]
    simp (disch := omega) only [↓reduceIte, ↓ns_m1, ns_let, ns_lef, ns_ltt, ns_ltf, ns_eqt, ns_eqf, ns_gd, nI_clamp, nI_add, pk_sub, pk_mul, ns_m1a, ns_m1b, ns_m1c, ns_m1d, ns_m1e, ns_m1f, ns_m1g, ns_un1, ns_un0, ns_day1, Option.bind_some, gi_si_self, gi_si_ne, gl_si, gi_sl, gl_sl_self, gl_sl_ne, if_true, if_false, ns_i0, ns_i1, ns_i2, ns_i3, ns_i4, ns_i5, ns_i6, ns_i7, ns_i8, ns_i9, ns_i10, ns_i11, ns_i12, ns_i13, ns_i20, ns_i23, ns_i24, ns_i31, ns_i50, ns_i60, ns_i99, ns_i100, ns_i144, ns_i200, ns_i255, ns_i700, ns_i880, ns_i899, ns_i900, ns_i901, ns_i999, ns_i1000, ns_i1440, ns_i4095, ns_i1000000, g1, na, r1, q1]
/-- all that is kept while plates are offered -/
def off_ (W : List (Nat × Nat × Nat)) (P : pl_) (F : List fa_) (T : Nat) (C : List (Nat × Nat × Nat)) (R : List Nat) (p : Nat) (m : fm_) : Prop := kwc_ W P F T C m ∧ rowc_ R m ∧ bysets_ (tgg_ W F C R) R.length (2 ^ R.length) m ∧ ∃ Wt, wrt_ R.length Wt m ∧ dok_ P.length (prr_ F P R) (tgg_ W F C R) R.length p Wt
theorem offer1_ {W : List (Nat × Nat × Nat)} {P : pl_} {F : List fa_} {T : Nat} {C : List (Nat × Nat × Nat)} (hk : kok_ W P F T C) {R : List Nat} (hR : rds_ F R) {p : Nat} (hp : p < P.length) {m : fm_} (h : off_ W P F T C R p m) : ∃ m1, f_X6_offer (nI p) m = some (0, m1) ∧ off_ W P F T C R (p + 1) m1 := by
  obtain ⟨h1, h2, h3, Wt, h4, h5⟩ := h
  have hl7 := hR.1
  have hPl := hk.2.1
  have h128 := pw7 hl7
  have hpos := Nat.two_pow_pos R.length
  obtain ⟨l, m1, e1, l1, p1⟩ := sho_ hk h1 hR h2 hp
  have f1 := fr_X6_shareOut e1
  have k1 : kwc_ W P F T C m1 := kwc_ag h1 (sa_ag (by rfl) f1)
  have k2 : rowc_ R m1 := ⟨(sa_gi f1 (by rfl)).trans h2.1, fun j r hj => (sa_gi f1 (by rfl)).trans (h2.2 j r hj)⟩
  have k3 : bysets_ (tgg_ W F C R) R.length (2 ^ R.length) m1 := fun t ht => by
    obtain ⟨b, q1, q2⟩ := h3 t ht
    exact ⟨b, (sa_gi f1 (by rfl)).trans q1, q2⟩
  have k4 : wrt_ R.length Wt m1 := fun t ht => (sa_gi f1 (by rfl)).trans (h4 t ht)
  have bw : ∀ t, t < 2 ^ R.length → Wt t ≤ 565127959 := fun t ht => by
    have q1 := (h5 t ht).1 (fun _ => P.length) ⟨fun i _ _ => Or.inl rfl, fun i j _ _ _ _ _ q => absurd rfl q⟩
    exact Nat.le_trans q1 (nob_b hPl hl7 ht)
  have bits : ∀ s x, x &&& (s &&& l) = x ↔ ∀ i, tB_ x i → tB_ s i ∧ i < R.length ∧ ¬ prr_ F P R i p = 9 := fun s x => by
    rw [sub_and]
    constructor
    · intro q i hi
      have : (s &&& l).testBit i = true := q i hi
      rw [Nat.testBit_and, Bool.and_eq_true] at this
      exact ⟨this.1, (l1.2 i).mp this.2⟩
    · intro q i hi
      show (s &&& l).testBit i = true
      rw [Nat.testBit_and, Bool.and_eq_true]
      exact ⟨(q i hi).1, (l1.2 i).mpr (q i hi).2⟩
  have bp : ∀ t, t < 2 ^ R.length → t &&& l = t → ss_ (fun i => wp_ P.length (prr_ F P R) R.length i p) t R.length ≤ 565127959 := fun t ht htl => by
    refine Nat.le_trans (ss_mono (g := fun i => wp_ P.length (prr_ F P R) R.length i P.length) (t := t) R.length (fun i _ q => q) fun i hi q => ?_) (nob_b hPl hl7 ht)
    have n9 := ((l1.2 i).mp (sub_and.mp htl i q)).2
    have pb : prr_ F P R i p ≤ 2 ∨ prr_ F P R i p = 9 := lkn_b _ _
    exact wp_le hPl hp (by omega)
  by_cases l0 : l = 0
  · refine ⟨m1, ?_, k1, k2, k3, Wt, k4, ?_⟩
    · unfold f_X6_offer
      have e1 : f_X6_shareOut (nI p) m = some (nI 0, m1) := by rw [e1, l0]
      simp (disch := omega) only [↓reduceIte, ↓ns_m1, ns_let, ns_lef, ns_ltt, ns_ltf, ns_eqt, ns_eqf, ns_gd, nI_clamp, nI_add, pk_sub, pk_mul, ns_m1a, ns_m1b, ns_m1c, ns_m1d, ns_m1e, ns_m1f, ns_m1g, ns_un1, ns_un0, ns_day1, Option.bind_some, gi_si_self, gi_si_ne, gl_si, gi_sl, gl_sl_self, gl_sl_ne, if_true, if_false, ns_i0, ns_i1, ns_i2, ns_i3, ns_i4, ns_i5, ns_i6, ns_i7, ns_i8, ns_i9, ns_i10, ns_i11, ns_i12, ns_i13, ns_i20, ns_i23, ns_i24, ns_i31, ns_i50, ns_i60, ns_i99, ns_i100, ns_i144, ns_i200, ns_i255, ns_i700, ns_i880, ns_i899, ns_i900, ns_i901, ns_i999, ns_i1000, ns_i1440, ns_i4095, ns_i1000000, e1]
    · refine dok_s hp h5 (fun s hs => Nat.le_refl _) (fun s x hs hx hxs _ => ?_) (fun s hs => Or.inl rfl)
      exfalso
      obtain ⟨i, hi⟩ := Nat.exists_testBit_of_ne_zero hx
      have := (l1.2 i).mpr (hxs i hi).2
      rw [l0] at this
      have this : Nat.testBit 0 i = true := this
      rw [Nat.zero_testBit] at this
      cases this
  · obtain ⟨m2, Wn, q1, q2⟩ := o20_ (W := W) (F := F) (C := C) hl7 (p := p) l1.1 bw bp (2 ^ R.length - 1) m1 Wt (by omega) k3 p1 (fun t ht => k4 t (by omega)) (fun t ht ht2 => by omega)
    have e2 : f_X6_offer (nI p) m = some (0, m2) := by
      unfold f_X6_offer
      have sh : nI 1 <<< (nI R.length &&& nI 31) = nI (2 ^ R.length) := ns_shl (by omega)
      have ln := l1.1
      simp (disch := omega) only [↓reduceIte, ↓ns_m1, ns_let, ns_lef, ns_ltt, ns_ltf, ns_eqt, ns_eqf, ns_gd, nI_clamp, nI_add, pk_sub, pk_mul, ns_m1a, ns_m1b, ns_m1c, ns_m1d, ns_m1e, ns_m1f, ns_m1g, ns_un1, ns_un0, ns_day1, Option.bind_some, gi_si_self, gi_si_ne, gl_si, gi_sl, gl_sl_self, gl_sl_ne, if_true, if_false, ns_i0, ns_i1, ns_i2, ns_i3, ns_i4, ns_i5, ns_i6, ns_i7, ns_i8, ns_i9, ns_i10, ns_i11, ns_i12, ns_i13, ns_i20, ns_i23, ns_i24, ns_i31, ns_i50, ns_i60, ns_i99, ns_i100, ns_i144, ns_i200, ns_i255, ns_i700, ns_i880, ns_i899, ns_i900, ns_i901, ns_i999, ns_i1000, ns_i1440, ns_i4095, ns_i1000000, e1, k2.1, sh, q1]
    have f2 := fr_X6_offer e2
    refine ⟨m2, e2, kwc_ag h1 (sa_ag (by rfl) f2), ⟨(sa_gi f2 (by rfl)).trans h2.1, fun j r hj => (sa_gi f2 (by rfl)).trans (h2.2 j r hj)⟩, fun t ht => ?_, Wn, fun t ht => (q2 t ht).1, ?_⟩
    · obtain ⟨b, g1, g2⟩ := h3 t ht
      exact ⟨b, (sa_gi f2 (by rfl)).trans g1, g2⟩
    · refine dok_s hp h5 (fun s hs => (q2 s hs).2.1) (fun s x hs hx hxs hbx => (q2 s hs).2.2.2 x hx ((bits s x).mpr hxs) hbx) (fun s hs => ?_)
      rcases (q2 s hs).2.2.1 with e | ⟨y, _, y2, y3, y4⟩
      · exact Or.inl e
      · exact Or.inr ⟨y, (bits s y).mp y2, y3, y4⟩
/-! ===== what was chosen is written down ===== -/
theorem rdn_pw {F : List fa_} {d : Nat} : ∀ n, (rdn_ F d n).Pairwise (· < ·)
  | 0 => List.Pairwise.nil
  | n + 1 => by
    have ih := rdn_pw (F := F) (d := d) n
    show (if isrd_ F d n = true then rdn_ F d n ++ [n] else rdn_ F d n).Pairwise (· < ·)
    by_cases c : isrd_ F d n = true
    · rw [if_pos c]
      refine List.pairwise_append.mpr ⟨ih, List.pairwise_singleton _ _, fun a ha b hb => ?_⟩
      rw [List.mem_singleton.mp hb]
      exact (rdn_u n a ha).1
    · rw [if_neg c]; exact ih
theorem rdk_inj {F : List fa_} {d : Nat} {k : Int32} {n i j r : Nat} (hi : (rdk_ F d k n)[i]? = some r) (hj : (rdk_ F d k n)[j]? = some r) : i = j := by
  have pw : (rdk_ F d k n).Pairwise (· < ·) := List.Pairwise.filter _ (rdn_pw n)
  obtain ⟨hi1, hi2⟩ := List.getElem?_eq_some_iff.mp hi
  obtain ⟨hj1, hj2⟩ := List.getElem?_eq_some_iff.mp hj
  have key := List.pairwise_iff_getElem.mp pw
  by_cases c : i = j
  · exact c
  · by_cases c2 : i < j
    · have := key i j hi1 hj1 c2
      omega
    · have := key j i hj1 hi1 (by omega)
      omega
def idx_ (i : Nat) : Int32 := if i = 0 then M1_ else nI (i - 1)
theorem idx_a {i : Nat} (hi : i < 2 ^ 31) : nI i + M1_ = idx_ i := by
  unfold idx_
  by_cases c : i = 0
  · subst c
    rw [if_pos rfl]
    decide
  · rw [if_neg c, ns_m1g (by omega)]
theorem idx_s {i : Nat} (hi : i < 2 ^ 31) : nI i - nI 1 = idx_ i := by
  unfold idx_
  by_cases c : i = 0
  · subst c
    rw [if_pos rfl]
    decide
  · rw [if_neg c, pk_sub (by omega)]
/-- the owners are written down, from the last reading on -/
theorem set75_ {np : Nat} (hnp : np ≤ 10) {R : List Nat} (hl7 : R.length ≤ 7) (hR2 : ∀ r ∈ R, r < 200) (inj : ∀ (i j r : Nat), R[i]? = some r → R[j]? = some r → i = j) {a : Nat → Nat} (ha : ∀ j, j < R.length → a j ≤ np) {x1 x2 : Int32} : ∀ (i : Nat) (m : fm_), i ≤ R.length → rowc_ R m → ∃ m', f_X6_settle_75 x1 x2 (nI (nv_ np a i)) (idx_ i) m = some (0, m') ∧ (∀ (j r : Nat), j < i → R[j]? = some r → gi_ m' 86 r = ow_ np (a j)) ∧ (∀ r : Nat, (∀ j : Nat, j < i → ¬ R[j]? = some r) → gi_ m' 86 r = gi_ m 86 r) ∧ ∀ e, gi_ m' 85 e = gi_ m 85 e := by
  intro i
  induction i with
  | zero =>
    intro m hi hro
    refine ⟨m, ?_, fun j r hj => by omega, fun r _ => rfl, fun _ => rfl⟩
    rw [e_X6_settle_75]
    have e0 : idx_ 0 = M1_ := rfl
    simp (disch := omega) only [↓reduceIte, ↓ns_m1, ns_let, ns_lef, ns_ltt, ns_ltf, ns_eqt, ns_eqf, ns_gd, nI_clamp, nI_add, pk_sub, pk_mul, ns_m1a, ns_m1b, ns_m1c, ns_m1d, ns_m1e, ns_m1f, ns_m1g, ns_un1, ns_un0, ns_day1, Option.bind_some, gi_si_self, gi_si_ne, gl_si, gi_sl, gl_sl_self, gl_sl_ne, if_true, if_false, ns_i0, ns_i1, ns_i2, ns_i3, ns_i4, ns_i5, ns_i6, ns_i7, ns_i8, ns_i9, ns_i10, ns_i11, ns_i12, ns_i13, ns_i20, ns_i23, ns_i24, ns_i31, ns_i50, ns_i60, ns_i99, ns_i100, ns_i144, ns_i200, ns_i255, ns_i700, ns_i880, ns_i899, ns_i900, ns_i901, ns_i999, ns_i1000, ns_i1440, ns_i4095, ns_i1000000, e0]
  | succ i ih =>
    intro m hi hro
    have hiR : i < R.length := by omega
    have er := List.getElem?_eq_getElem hiR
    generalize R[i] = r at er
    have r2 := hR2 r (List.mem_of_getElem? er)
    have gr := hro.2 i r er
    have ex : idx_ (i + 1) = nI i := by unfold idx_; rw [if_neg (by omega)]; rfl
    have ai := ha i hiR
    have d10 := dv_10 hnp ai
    have nb : nv_ np a (i + 1) < 19487171 := nv_7 hnp (by omega) fun j hj => ha j (by omega)
    have en : nv_ np a (i + 1) = nv_ np a i * 11 + dv_ np (a i) := rfl
    have q1 : nv_ np a (i + 1) / 11 = nv_ np a i := by omega
    have q2 : nv_ np a (i + 1) - nv_ np a i * 11 = dv_ np (a i) := by omega
    have ia := idx_a (i := i) (by omega)
    generalize nv_ np a (i + 1) = n1 at nb en q1 q2
    have step : ∀ x : Int32, x = ow_ np (a i) → f_X6_settle_75 x1 x2 (nI n1) (idx_ (i + 1)) m = f_X6_settle_75 x1 x2 (nI (nv_ np a i)) (idx_ i) (si_ m 86 r x) → ∃ m', f_X6_settle_75 x1 x2 (nI n1) (idx_ (i + 1)) m = some (0, m') ∧ (∀ (j r : Nat), j < i + 1 → R[j]? = some r → gi_ m' 86 r = ow_ np (a j)) ∧ (∀ r : Nat, (∀ j : Nat, j < i + 1 → ¬ R[j]? = some r) → gi_ m' 86 r = gi_ m 86 r) ∧ ∀ e, gi_ m' 85 e = gi_ m 85 e := fun x hx es => by
      obtain ⟨m', e1, h1, h2, h85⟩ := ih (si_ m 86 r x) (by omega) ⟨(gi_si_ne (by omega)).trans hro.1, fun j r hj => (gi_si_ne (by omega)).trans (hro.2 j r hj)⟩
      refine ⟨m', by rw [es, e1], fun j u hj hu => ?_, fun u hu => ?_, fun e => (h85 e).trans (gi_si_ne (by omega))⟩
      · by_cases c : j = i
        · subst c
          rw [er] at hu
          cases hu
          rw [h2 r fun l hl q => by have := inj l j r q er; omega, gi_si_self, hx]
        · exact h1 j u (by omega) hu
      · rw [h2 u fun j hj => hu j (by omega), gi_si_ne]
        intro q
        exact hu i (by omega) (by rw [q.2]; exact er)
    by_cases c : a i = np
    · have dv : dv_ np (a i) = 10 := if_pos c
      rw [dv] at q2
      refine step M1_ (by unfold ow_; rw [if_pos c]; rfl) ?_
      rw [e_X6_settle_75, ex]
      simp (disch := omega) only [↓reduceIte, ↓ns_m1, ns_let, ns_lef, ns_ltt, ns_ltf, ns_eqt, ns_eqf, ns_gd, nI_clamp, nI_add, pk_sub, pk_mul, ns_m1a, ns_m1b, ns_m1c, ns_m1d, ns_m1e, ns_m1f, ns_m1g, ns_un1, ns_un0, ns_day1, Option.bind_some, gi_si_self, gi_si_ne, gl_si, gi_sl, gl_sl_self, gl_sl_ne, if_true, if_false, ns_i0, ns_i1, ns_i2, ns_i3, ns_i4, ns_i5, ns_i6, ns_i7, ns_i8, ns_i9, ns_i10, ns_i11, ns_i12, ns_i13, ns_i20, ns_i23, ns_i24, ns_i31, ns_i50, ns_i60, ns_i99, ns_i100, ns_i144, ns_i200, ns_i255, ns_i700, ns_i880, ns_i899, ns_i900, ns_i901, ns_i999, ns_i1000, ns_i1440, ns_i4095, ns_i1000000, show (11 : Int32) = nI 11 from rfl, pk_div, q1, q2, gr, ia]
    · have dv : dv_ np (a i) = a i := if_neg c
      rw [dv] at q2
      refine step (nI (a i)) (by unfold ow_; rw [if_neg c]) ?_
      rw [e_X6_settle_75, ex]
      simp (disch := omega) only [↓reduceIte, ↓ns_m1, ns_let, ns_lef, ns_ltt, ns_ltf, ns_eqt, ns_eqf, ns_gd, nI_clamp, nI_add, pk_sub, pk_mul, ns_m1a, ns_m1b, ns_m1c, ns_m1d, ns_m1e, ns_m1f, ns_m1g, ns_un1, ns_un0, ns_day1, Option.bind_some, gi_si_self, gi_si_ne, gl_si, gi_sl, gl_sl_self, gl_sl_ne, if_true, if_false, ns_i0, ns_i1, ns_i2, ns_i3, ns_i4, ns_i5, ns_i6, ns_i7, ns_i8, ns_i9, ns_i10, ns_i11, ns_i12, ns_i13, ns_i20, ns_i23, ns_i24, ns_i31, ns_i50, ns_i60, ns_i99, ns_i100, ns_i144, ns_i200, ns_i255, ns_i700, ns_i880, ns_i899, ns_i900, ns_i901, ns_i999, ns_i1000, ns_i1440, ns_i4095, ns_i1000000, show (11 : Int32) = nI 11 from rfl, pk_div, q1, q2, gr, ia]
