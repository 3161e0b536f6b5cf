/-! ===== sets of readings, the class ===== -/
theorem ns_iPW : (19487171 : Int32) = nI 19487171 := rfl
theorem pw7 {N : Nat} (h : N ≤ 7) : 2 ^ N ≤ 128 := Nat.pow_le_pow_right (by omega) h
theorem low_ {s N : Nat} (hN : N ≤ 7) (hs : s < 2 ^ N) (h0 : ¬ s = 0) : tz_ s < N ∧ tB_ s (tz_ s) ∧ (s &&& (s - 1)) < s ∧ (∀ i, i < N → (tB_ (s &&& (s - 1)) i ↔ tB_ s i ∧ ¬ i = tz_ s)) ∧ ∀ i, i < tz_ s → ¬ tB_ s i := by
  have h128 := pw7 hN
  obtain ⟨h1, h2, h3, h4⟩ := low_all s (by omega) h0
  have hlt : tz_ s < N := Nat.lt_of_not_le fun q => tB_lt hs q h2
  refine ⟨hlt, h2, h3, fun i hi => ?_, fun i hi => ?_⟩
  · show (s &&& (s - 1)).testBit i = true ↔ _
    rw [(h4 i (by omega)).1, Bool.and_eq_true, Bool.not_eq_true', decide_eq_false_iff_not]
  · show ¬ s.testBit i = true
    rw [(h4 i (by omega)).2 hi]
    decide
theorem ss_low {f : Nat → Nat} {s N : Nat} (hN : N ≤ 7) (hs : s < 2 ^ N) (h0 : ¬ s = 0) : ss_ f s N = ss_ f (s &&& (s - 1)) N + f (tz_ s) := by
  obtain ⟨h1, h2, h3, h4, h5⟩ := low_ hN hs h0
  obtain ⟨x, hx1, hx2⟩ := tB_mk (fun i => i = tz_ s) N
  rw [ss_two (f := f) (s := s) (x := x) (t := s &&& (s - 1)) N (fun i hi => by
    rw [h4 i hi, hx2 i]
    constructor
    · intro q
      by_cases e : i = tz_ s
      · exact Or.inl ⟨hi, e⟩
      · exact Or.inr ⟨q, e⟩
    · rintro (q | q)
      · rw [q.2]; exact h2
      · exact q.1) (fun i hi q => by
    rw [h4 i hi, hx2 i] at q
    exact q.2.2 q.1.2)]
  have key : ∀ n, n ≤ N → ss_ f x n = if tz_ s < n then f (tz_ s) else 0 := by
    intro n
    induction n with
    | zero => intro _; rw [if_neg (by omega)]; rfl
    | succ n ih =>
      intro hn
      unfold ss_
      rw [ih (by omega)]
      by_cases e : n = tz_ s
      · rw [if_neg (by omega), if_pos ((hx2 n).mpr ⟨by omega, e⟩), if_pos (by omega), e, Nat.zero_add]
      · rw [if_neg (fun q => e ((hx2 n).mp q).2), Nat.add_zero]
        by_cases c : tz_ s < n
        · rw [if_pos c, if_pos (by omega)]
        · rw [if_neg c, if_neg (by omega)]
  rw [key N (Nat.le_refl _), if_pos h1]
/-- which sets can be by one -/
def bysets_ (tg : Nat → Nat → Bool) (N n : Nat) (m : fm_) : Prop := ∀ s, s < n → ∃ b : Bool, gi_ m 89 s = b01_ b ∧ (b = true ↔ bop_ tg N s)
theorem m43_ {W : List (Nat × Nat × Nat)} {P : pl_} {F : List fa_} {T : Nat} {C : List (Nat × Nat × Nat)} (hk : kok_ W P F T C) {m : fm_} (hm : kwc_ W P F T C m) {R : List Nat} (hR : rds_ F R) (hro : rowc_ R m) {s f rest : Nat} (hs : s < 128) (hf : f < R.length) (hrs : rest < 128) : ∀ (c j : Nat) (b : Bool), j + c = R.length → ∃ b' : Bool, f_X6_markSetsByOne_43 (nI s) (nI f) (nI rest) (b01_ b) (nI j) m = f_X6_markSetsByOne_9 (nI (s + 1)) (si_ m 89 s (b01_ b')) ∧ (b' = true ↔ b = true ∧ ∀ i, j ≤ i → i < R.length → tB_ rest i → tgg_ W F C R f i = true) := by
  have hl7 := hR.1
  have er := List.getElem?_eq_getElem hf
  generalize R[f] = r at er
  obtain ⟨q, hq, hq1⟩ := hR.2 r (List.mem_of_getElem? er)
  have g1 := hro.2 f r er
  have e1 : b01_ true = nI 1 := rfl
  have e0 : b01_ false = nI 0 := rfl
  have bl0 : bl_ (nI 0) = true := rfl
  have bl1 : bl_ (nI 1) = true := rfl
  intro c
  induction c with
  | zero =>
    intro j b hj
    rw [e_X6_markSetsByOne_43]
    cases b with
    | false =>
      simp (disch := omega) only [↓reduceIte, ↓ns_m1, ns_let, ns_lef, ns_ltt, ns_ltf, ns_eqt, ns_eqf, ns_gd, nI_clamp, nI_add, pk_sub, pk_mul, ns_m1a, ns_m1b, ns_m1c, ns_m1d, ns_m1e, ns_m1f, ns_m1g, ns_un1, ns_un0, ns_day1, Option.bind_some, gi_si_self, gi_si_ne, gl_si, gi_sl, gl_sl_self, gl_sl_ne, if_true, if_false, ns_i0, ns_i1, ns_i2, ns_i3, ns_i4, ns_i5, ns_i6, ns_i7, ns_i8, ns_i9, ns_i10, ns_i11, ns_i12, ns_i13, ns_i20, ns_i23, ns_i24, ns_i31, ns_i50, ns_i60, ns_i99, ns_i100, ns_i144, ns_i200, ns_i255, ns_i700, ns_i880, ns_i899, ns_i900, ns_i901, ns_i999, ns_i1000, ns_i1440, ns_i4095, ns_i1000000, e0, gd_t bl0]
      exact ⟨false, rfl, by simp⟩
    | true =>
      simp (disch := omega) only [↓reduceIte, ↓ns_m1, ns_let, ns_lef, ns_ltt, ns_ltf, ns_eqt, ns_eqf, ns_gd, nI_clamp, nI_add, pk_sub, pk_mul, ns_m1a, ns_m1b, ns_m1c, ns_m1d, ns_m1e, ns_m1f, ns_m1g, ns_un1, ns_un0, ns_day1, Option.bind_some, gi_si_self, gi_si_ne, gl_si, gi_sl, gl_sl_self, gl_sl_ne, if_true, if_false, ns_i0, ns_i1, ns_i2, ns_i3, ns_i4, ns_i5, ns_i6, ns_i7, ns_i8, ns_i9, ns_i10, ns_i11, ns_i12, ns_i13, ns_i20, ns_i23, ns_i24, ns_i31, ns_i50, ns_i60, ns_i99, ns_i100, ns_i144, ns_i200, ns_i255, ns_i700, ns_i880, ns_i899, ns_i900, ns_i901, ns_i999, ns_i1000, ns_i1440, ns_i4095, ns_i1000000, e1, gd_t bl1, hro.1]
      exact ⟨true, rfl, by simp only [true_and, true_iff]; intro i h1 h2; omega⟩
  | succ c ih =>
    intro j b hj
    rw [e_X6_markSetsByOne_43]
    cases b with
    | false =>
      simp (disch := omega) only [↓reduceIte, ↓ns_m1, ns_let, ns_lef, ns_ltt, ns_ltf, ns_eqt, ns_eqf, ns_gd, nI_clamp, nI_add, pk_sub, pk_mul, ns_m1a, ns_m1b, ns_m1c, ns_m1d, ns_m1e, ns_m1f, ns_m1g, ns_un1, ns_un0, ns_day1, Option.bind_some, gi_si_self, gi_si_ne, gl_si, gi_sl, gl_sl_self, gl_sl_ne, if_true, if_false, ns_i0, ns_i1, ns_i2, ns_i3, ns_i4, ns_i5, ns_i6, ns_i7, ns_i8, ns_i9, ns_i10, ns_i11, ns_i12, ns_i13, ns_i20, ns_i23, ns_i24, ns_i31, ns_i50, ns_i60, ns_i99, ns_i100, ns_i144, ns_i200, ns_i255, ns_i700, ns_i880, ns_i899, ns_i900, ns_i901, ns_i999, ns_i1000, ns_i1440, ns_i4095, ns_i1000000, e0, gd_t bl0]
      exact ⟨false, rfl, by simp⟩
    | true =>
      have hjN : j < R.length := by omega
      have ej := List.getElem?_eq_getElem hjN
      generalize R[j] = rj at ej
      obtain ⟨qj, hqj, hqj1⟩ := hR.2 rj (List.mem_of_getElem? ej)
      have gj := hro.2 j rj ej
      have tg := tog_c hk hm hq hq1 hqj hqj1
      have et : tgg_ W F C R f j = tgr_ W F C r rj := by unfold tgg_; rw [rg_s er, rg_s ej]
      have hbb := bb_tb rest j
      by_cases cb : rest.testBit j = true
      · rw [if_pos cb] at hbb
        cases ct : tgr_ W F C r rj with
        | true =>
          rw [ct] at tg et
          obtain ⟨b', h1, h2⟩ := ih (j + 1) true (by omega)
          rw [e1] at h1
          refine ⟨b', ?_, ?_⟩
          · simp (disch := omega) only [↓reduceIte, ↓ns_m1, ns_let, ns_lef, ns_ltt, ns_ltf, ns_eqt, ns_eqf, ns_gd, nI_clamp, nI_add, pk_sub, pk_mul, ns_m1a, ns_m1b, ns_m1c, ns_m1d, ns_m1e, ns_m1f, ns_m1g, ns_un1, ns_un0, ns_day1, Option.bind_some, gi_si_self, gi_si_ne, gl_si, gi_sl, gl_sl_self, gl_sl_ne, if_true, if_false, ns_i0, ns_i1, ns_i2, ns_i3, ns_i4, ns_i5, ns_i6, ns_i7, ns_i8, ns_i9, ns_i10, ns_i11, ns_i12, ns_i13, ns_i20, ns_i23, ns_i24, ns_i31, ns_i50, ns_i60, ns_i99, ns_i100, ns_i144, ns_i200, ns_i255, ns_i700, ns_i880, ns_i899, ns_i900, ns_i901, ns_i999, ns_i1000, ns_i1440, ns_i4095, ns_i1000000, e1, hro.1, ns_bb, g1, gj, tg, h1]
          · rw [h2]
            constructor
            · rintro ⟨_, h⟩
              refine ⟨rfl, fun i h3 h4 h5 => ?_⟩
              by_cases e : i = j
              · rw [e]; exact et
              · exact h i (by omega) h4 h5
            · rintro ⟨_, h⟩
              exact ⟨rfl, fun i h3 h4 h5 => h i (by omega) h4 h5⟩
        | false =>
          rw [ct] at tg et
          obtain ⟨b', h1, h2⟩ := ih (j + 1) false (by omega)
          rw [e0] at h1
          refine ⟨b', ?_, ?_⟩
          · simp (disch := omega) only [↓reduceIte, ↓ns_m1, ns_let, ns_lef, ns_ltt, ns_ltf, ns_eqt, ns_eqf, ns_gd, nI_clamp, nI_add, pk_sub, pk_mul, ns_m1a, ns_m1b, ns_m1c, ns_m1d, ns_m1e, ns_m1f, ns_m1g, ns_un1, ns_un0, ns_day1, Option.bind_some, gi_si_self, gi_si_ne, gl_si, gi_sl, gl_sl_self, gl_sl_ne, if_true, if_false, ns_i0, ns_i1, ns_i2, ns_i3, ns_i4, ns_i5, ns_i6, ns_i7, ns_i8, ns_i9, ns_i10, ns_i11, ns_i12, ns_i13, ns_i20, ns_i23, ns_i24, ns_i31, ns_i50, ns_i60, ns_i99, ns_i100, ns_i144, ns_i200, ns_i255, ns_i700, ns_i880, ns_i899, ns_i900, ns_i901, ns_i999, ns_i1000, ns_i1440, ns_i4095, ns_i1000000, e0, e1, hro.1, ns_bb, g1, gj, tg, h1]
          · rw [h2]
            constructor
            · rintro ⟨h, _⟩; cases h
            · rintro ⟨_, h⟩
              have := h j (Nat.le_refl _) hjN cb
              rw [et] at this
              cases this
      · rw [if_neg cb] at hbb
        obtain ⟨b', h1, h2⟩ := ih (j + 1) true (by omega)
        rw [e1] at h1
        refine ⟨b', ?_, ?_⟩
        · simp (disch := omega) only [↓reduceIte, ↓ns_m1, ns_let, ns_lef, ns_ltt, ns_ltf, ns_eqt, ns_eqf, ns_gd, nI_clamp, nI_add, pk_sub, pk_mul, ns_m1a, ns_m1b, ns_m1c, ns_m1d, ns_m1e, ns_m1f, ns_m1g, ns_un1, ns_un0, ns_day1, Option.bind_some, gi_si_self, gi_si_ne, gl_si, gi_sl, gl_sl_self, gl_sl_ne, if_true, if_false, ns_i0, ns_i1, ns_i2, ns_i3, ns_i4, ns_i5, ns_i6, ns_i7, ns_i8, ns_i9, ns_i10, ns_i11, ns_i12, ns_i13, ns_i20, ns_i23, ns_i24, ns_i31, ns_i50, ns_i60, ns_i99, ns_i100, ns_i144, ns_i200, ns_i255, ns_i700, ns_i880, ns_i899, ns_i900, ns_i901, ns_i999, ns_i1000, ns_i1440, ns_i4095, ns_i1000000, e1, hro.1, ns_bb, h1]
        · rw [h2]
          constructor
          · rintro ⟨_, h⟩
            refine ⟨rfl, fun i h3 h4 h5 => ?_⟩
            by_cases e : i = j
            · rw [e] at h5; exact absurd h5 cb
            · exact h i (by omega) h4 h5
          · rintro ⟨_, h⟩
            exact ⟨rfl, fun i h3 h4 h5 => h i (by omega) h4 h5⟩
theorem mark_ {W : List (Nat × Nat × Nat)} {P : pl_} {F : List fa_} {T : Nat} {C : List (Nat × Nat × Nat)} (hk : kok_ W P F T C) {m : fm_} (hm : kwc_ W P F T C m) {R : List Nat} (hR : rds_ F R) (hro : rowc_ R m) : ∃ m1, f_X6_markSetsByOne m = some (0, m1) ∧ bysets_ (tgg_ W F C R) R.length (2 ^ R.length) m1 := by
  have hl7 := hR.1
  have h128 := pw7 hl7
  have hpos := Nat.two_pow_pos R.length
  have sh : nI 1 <<< (nI R.length &&& nI 31) = nI (2 ^ R.length) := ns_shl (by omega)
  obtain ⟨m1, e1, _, w1, r1, b1⟩ := lp_ (n := 2 ^ R.length) (F := fun s m => f_X6_markSetsByOne_9 (nI s) m) (I := fun s m => 1 ≤ s ∧ kwc_ W P F T C m ∧ rowc_ R m ∧ bysets_ (tgg_ W F C R) R.length s m) (fun s m0 hs hI => by
    obtain ⟨i0, i1, i2, i3⟩ := hI
    show ∃ s', f_X6_markSetsByOne_9 (nI s) m0 = f_X6_markSetsByOne_9 (nI (s + 1)) s' ∧ 1 ≤ s + 1 ∧ kwc_ W P F T C s' ∧ rowc_ R s' ∧ bysets_ (tgg_ W F C R) R.length (s + 1) s'
    obtain ⟨l1, l2, l3, l4, l5⟩ := low_ hl7 hs (by omega)
    obtain ⟨b0, g0, hb0⟩ := i3 (s &&& (s - 1)) (by omega)
    obtain ⟨b', h1, h2⟩ := m43_ hk i1 hR i2 (s := s) (f := tz_ s) (rest := s &&& (s - 1)) (by omega) l1 (by omega) (R.length - (tz_ s + 1)) (tz_ s + 1) b0 (by omega)
    have hb' : b' = true ↔ bop_ (tgg_ W F C R) R.length s := by
      rw [h2, hb0]
      constructor
      · rintro ⟨h3, h4⟩ i j hij hj bi bj
        by_cases e : i = tz_ s
        · rw [e]
          exact h4 j (by omega) hj ((l4 j hj).mpr ⟨bj, by omega⟩)
        · by_cases e2 : j = tz_ s
          · rw [e2] at hij; exact absurd bi (l5 i hij)
          · exact h3 i j hij hj ((l4 i (by omega)).mpr ⟨bi, e⟩) ((l4 j hj).mpr ⟨bj, e2⟩)
      · intro h
        refine ⟨fun i j hij hj bi bj => h i j hij hj ((l4 i (by omega)).mp bi).1 ((l4 j hj).mp bj).1, fun i hi1 hi2 bi => h (tz_ s) i (by omega) hi2 l2 ((l4 i hi2).mp bi).1⟩
    have na : nI s &&& nI (s - 1) = nI (s &&& (s - 1)) := nI_and (by omega) (by omega)
    refine ⟨si_ m0 89 s (b01_ b'), ?_, by omega, kwc_ag i1 (sa_ag (w := [(89, 89, 0)]) (by rfl) (sa_si (by rfl) sa_rf)), ⟨(gi_si_ne (by omega)).trans i2.1, fun j r hj => (gi_si_ne (by omega)).trans (i2.2 j r hj)⟩, fun t ht => ?_⟩
    · rw [e_X6_markSetsByOne_9]
      simp (disch := omega) only [↓reduceIte, ↓ns_m1, ns_let, ns_lef, ns_ltt, ns_ltf, ns_eqt, ns_eqf, ns_gd, nI_clamp, nI_add, pk_sub, pk_mul, ns_m1a, ns_m1b, ns_m1c, ns_m1d, ns_m1e, ns_m1f, ns_m1g, ns_un1, ns_un0, ns_day1, Option.bind_some, gi_si_self, gi_si_ne, gl_si, gi_sl, gl_sl_self, gl_sl_ne, if_true, if_false, ns_i0, ns_i1, ns_i2, ns_i3, ns_i4, ns_i5, ns_i6, ns_i7, ns_i8, ns_i9, ns_i10, ns_i11, ns_i12, ns_i13, ns_i20, ns_i23, ns_i24, ns_i31, ns_i50, ns_i60, ns_i99, ns_i100, ns_i144, ns_i200, ns_i255, ns_i700, ns_i880, ns_i899, ns_i900, ns_i901, ns_i999, ns_i1000, ns_i1440, ns_i4095, ns_i1000000, i2.1, sh, tz_e (s := s) (by omega) (by omega) m0, na, g0]
      exact h1
    · by_cases e : t = s
      · exact ⟨b', by rw [e, gi_si_self], by rw [e]; exact hb'⟩
      · obtain ⟨b2, h3, h4⟩ := i3 t (by omega)
        exact ⟨b2, (gi_si_ne (by omega)).trans h3, h4⟩) (2 ^ R.length - 1) 1 (si_ m 89 0 (nI 1)) (by omega) ⟨Nat.le_refl _, kwc_ag hm (sa_ag (w := [(89, 89, 0)]) (by rfl) (sa_si (by rfl) sa_rf)), ⟨(gi_si_ne (by omega)).trans hro.1, fun j r hj => (gi_si_ne (by omega)).trans (hro.2 j r hj)⟩, fun t ht => by
      have t0 : t = 0 := by omega
      subst t0
      refine ⟨true, by rw [gi_si_self]; rfl, ⟨fun _ i j _ _ h => ?_, fun _ => rfl⟩⟩
      have h : Nat.testBit 0 i = true := h
      rw [Nat.zero_testBit] at h
      cases h⟩
  have e1 : f_X6_markSetsByOne_9 (nI 1) (si_ m 89 0 (nI 1)) = f_X6_markSetsByOne_9 (nI (2 ^ R.length)) m1 := e1
  refine ⟨m1, ?_, b1⟩
  unfold f_X6_markSetsByOne
  simp (disch := omega) only [↓reduceIte, ↓ns_m1, ns_let, ns_lef, ns_ltt, ns_ltf, ns_eqt, ns_eqf, ns_gd, nI_clamp, nI_add, pk_sub, pk_mul, ns_m1a, ns_m1b, ns_m1c, ns_m1d, ns_m1e, ns_m1f, ns_m1g, ns_un1, ns_un0, ns_day1, Option.bind_some, gi_si_self, gi_si_ne, gl_si, gi_sl, gl_sl_self, gl_sl_ne, if_true, if_false, ns_i0, ns_i1, ns_i2, ns_i3, ns_i4, ns_i5, ns_i6, ns_i7, ns_i8, ns_i9, ns_i10, ns_i11, ns_i12, ns_i13, ns_i20, ns_i23, ns_i24, ns_i31, ns_i50, ns_i60, ns_i99, ns_i100, ns_i144, ns_i200, ns_i255, ns_i700, ns_i880, ns_i899, ns_i900, ns_i901, ns_i999, ns_i1000, ns_i1440, ns_i4095, ns_i1000000, e1]
  rw [e_X6_markSetsByOne_9]
  simp (disch := omega) only [↓reduceIte, ↓ns_m1, ns_let, ns_lef, ns_ltt, ns_ltf, ns_eqt, ns_eqf, ns_gd, nI_clamp, nI_add, pk_sub, pk_mul, ns_m1a, ns_m1b, ns_m1c, ns_m1d, ns_m1e, ns_m1f, ns_m1g, ns_un1, ns_un0, ns_day1, Option.bind_some, gi_si_self, gi_si_ne, gl_si, gi_sl, gl_sl_self, gl_sl_ne, if_true, if_false, ns_i0, ns_i1, ns_i2, ns_i3, ns_i4, ns_i5, ns_i6, ns_i7, ns_i8, ns_i9, ns_i10, ns_i11, ns_i12, ns_i13, ns_i20, ns_i23, ns_i24, ns_i31, ns_i50, ns_i60, ns_i99, ns_i100, ns_i144, ns_i200, ns_i255, ns_i700, ns_i880, ns_i899, ns_i900, ns_i901, ns_i999, ns_i1000, ns_i1440, ns_i4095, ns_i1000000, r1.1, sh]
/-! what a reading is worth with an owner -/
theorem dwf_ {k : Nat} (hk : k < 7) : fx_dwf k = nI (11 ^ k) := by
  have : ∀ k, k < 7 → fx_dwf k = nI (11 ^ k) := by decide +kernel
  exact this k hk
theorem share_ {N i o p : Nat} {m : fm_} (hN : N ≤ 7) (hi : i < N) (h : gi_ m 82 9 = nI N) : f_X6_share (nI i) (nI o) (nI p) m = some (nI (p * 19487171 + o * 11 ^ (N - 1 - i)), m) := by
  unfold f_X6_share
  have := dwf_ (k := N - 1 - i) (by omega)
  simp (disch := omega) only [↓reduceIte, ↓ns_m1, ns_let, ns_lef, ns_ltt, ns_ltf, ns_eqt, ns_eqf, ns_gd, nI_clamp, nI_add, pk_sub, pk_mul, ns_m1a, ns_m1b, ns_m1c, ns_m1d, ns_m1e, ns_m1f, ns_m1g, ns_un1, ns_un0, ns_day1, Option.bind_some, gi_si_self, gi_si_ne, gl_si, gi_sl, gl_sl_self, gl_sl_ne, if_true, if_false, ns_i0, ns_i1, ns_i2, ns_i3, ns_i4, ns_i5, ns_i6, ns_i7, ns_i8, ns_i9, ns_i10, ns_i11, ns_i12, ns_i13, ns_i20, ns_i23, ns_i24, ns_i31, ns_i50, ns_i60, ns_i99, ns_i100, ns_i144, ns_i200, ns_i255, ns_i700, ns_i880, ns_i899, ns_i900, ns_i901, ns_i999, ns_i1000, ns_i1440, ns_i4095, ns_i1000000, h, this, ns_iPW]
/-- no more than nobody -/
theorem ss_mono {f g : Nat → Nat} {s t : Nat} : ∀ n, (∀ i, i < n → tB_ s i → tB_ t i) → (∀ i, i < n → tB_ s i → f i ≤ g i) → ss_ f s n ≤ ss_ g t n
  | 0, _, _ => Nat.le_refl _
  | n + 1, h1, h2 => by
    have ih := ss_mono (f := f) (g := g) (s := s) (t := t) n (fun i hi => h1 i (by omega)) fun i hi => h2 i (by omega)
    unfold ss_
    by_cases c : s.testBit n = true
    · have := h2 n (by omega) c
      rw [if_pos c, if_pos (h1 n (by omega) c)]
      omega
    · rw [if_neg c]
      omega
theorem cst_np {np : Nat} {pr : Nat → Nat → Nat} : ∀ n, cst_ np pr (fun _ => np) n = 4 * n
  | 0 => rfl
  | n + 1 => by
    show cst_ np pr (fun _ => np) n + co2_ np pr n np = _
    rw [cst_np n]
    unfold co2_
    rw [if_pos rfl]
    omega
theorem nob_b {np : Nat} (hnp : np ≤ 10) {pr : Nat → Nat → Nat} {N s : Nat} (hN : N ≤ 7) (hs : s < 2 ^ N) : ss_ (fun i => wp_ np pr N i np) s N ≤ 565127959 := by
  have h1 : ss_ (fun i => wp_ np pr N i np) s N ≤ ss_ (fun i => wp_ np pr N i np) (2 ^ N - 1) N := ss_mono N (fun i hi _ => full_.mpr hi) fun _ _ _ => Nat.le_refl _
  have h2 : ss_ (fun i => wp_ np pr N i ((fun _ => np) i)) (2 ^ N - 1) N = _ := nv_sum (np := np) (pr := pr) (a := fun _ => np) N (Nat.le_refl _)
  have h3 := nv_7 hnp (o := fun _ => np) (n := N) hN fun _ _ => Nat.le_refl _
  rw [cst_np, Nat.sub_self, Nat.pow_zero, Nat.mul_one] at h2
  have h2 : ss_ (fun i => wp_ np pr N i np) (2 ^ N - 1) N = 4 * N * 19487171 + nv_ np (fun _ => np) N := h2
  omega
theorem wp_le {np : Nat} (hnp : np ≤ 10) {pr : Nat → Nat → Nat} {N i p : Nat} (hp : p < np) (h : pr i p ≤ 2) : wp_ np pr N i p ≤ wp_ np pr N i np := by
  unfold wp_
  have h1 : co2_ np pr i p ≤ co2_ np pr i np := by
    unfold co2_
    rw [if_neg (by omega), if_pos rfl]
    omega
  have h2 : dv_ np p ≤ dv_ np np := by
    unfold dv_
    rw [if_neg (by omega), if_pos rfl]
    omega
  exact Nat.add_le_add (Nat.mul_le_mul_right _ h1) (Nat.mul_le_mul_right _ h2)
def wrt_ (N : Nat) (Wt : Nat → Nat) (m : fm_) : Prop := ∀ s, s < 2 ^ N → gi_ m 90 s = nI (Wt s)
/-- all to nobody -/
theorem nob_ {np : Nat} (hnp : np ≤ 10) {pr : Nat → Nat → Nat} {N : Nat} (hN : N ≤ 7) {m : fm_} (h : gi_ m 82 9 = nI N) : ∃ m1, f_X6_giveAllToNobody m = some (0, m1) ∧ wrt_ N (fun s => ss_ (fun i => wp_ np pr N i np) s N) m1 := by
  have h128 := pw7 hN
  have hpos := Nat.two_pow_pos N
  have sh : nI 1 <<< (nI N &&& nI 31) = nI (2 ^ N) := ns_shl (by omega)
  obtain ⟨m1, e1, _, c1, w1⟩ := lp_ (n := 2 ^ N) (F := fun s m => f_X6_giveAllToNobody_9 (nI s) m) (I := fun s m => 1 ≤ s ∧ gi_ m 82 9 = nI N ∧ ∀ t, t < s → gi_ m 90 t = nI (ss_ (fun i => wp_ np pr N i np) t N)) (fun s m0 hs hI => by
    obtain ⟨i0, i1, i2⟩ := hI
    obtain ⟨l1, l2, l3, l4, l5⟩ := low_ hN hs (by omega)
    have g0 := i2 (s &&& (s - 1)) (by omega)
    have sw := share_ (o := 10) (p := 4) hN l1 i1
    have na : nI s &&& nI (s - 1) = nI (s &&& (s - 1)) := nI_and (by omega) (by omega)
    have es := ss_low (f := fun i => wp_ np pr N i np) hN hs (by omega)
    have ew : wp_ np pr N (tz_ s) np = 4 * 19487171 + 10 * 11 ^ (N - 1 - tz_ s) := by
      unfold wp_ co2_ dv_
      rw [if_pos rfl, if_pos rfl]
    show ∃ s', f_X6_giveAllToNobody_9 (nI s) m0 = f_X6_giveAllToNobody_9 (nI (s + 1)) s' ∧ _
    rw [e_X6_giveAllToNobody_9]
    simp (disch := omega) only [↓reduceIte, ↓ns_m1, ns_let, ns_lef, ns_ltt, ns_ltf, ns_eqt, ns_eqf, ns_gd, nI_clamp, nI_add, pk_sub, pk_mul, ns_m1a, ns_m1b, ns_m1c, ns_m1d, ns_m1e, ns_m1f, ns_m1g, ns_un1, ns_un0, ns_day1, Option.bind_some, gi_si_self, gi_si_ne, gl_si, gi_sl, gl_sl_self, gl_sl_ne, if_true, if_false, ns_i0, ns_i1, ns_i2, ns_i3, ns_i4, ns_i5, ns_i6, ns_i7, ns_i8, ns_i9, ns_i10, ns_i11, ns_i12, ns_i13, ns_i20, ns_i23, ns_i24, ns_i31, ns_i50, ns_i60, ns_i99, ns_i100, ns_i144, ns_i200, ns_i255, ns_i700, ns_i880, ns_i899, ns_i900, ns_i901, ns_i999, ns_i1000, ns_i1440, ns_i4095, ns_i1000000, i1, sh, tz_e (s := s) (by omega) (by omega) m0, na, g0, sw]
    refine ⟨_, rfl, by omega, (gi_si_ne (by omega)).trans i1, fun t ht => ?_⟩
    by_cases e : t = s
    · rw [e, gi_si_self, es, ew]
    · rw [gi_si_ne (by omega)]
      exact i2 t (by omega)) (2 ^ N - 1) 1 (si_ m 90 0 (nI 0)) (by omega) ⟨Nat.le_refl _, (gi_si_ne (by omega)).trans h, fun t ht => by
      have t0 : t = 0 := by omega
      subst t0
      rw [gi_si_self]
      have : ∀ n, ss_ (fun i => wp_ np pr N i np) 0 n = 0 := by
        intro n
        induction n with
        | zero => rfl
        | succ n ih =>
          unfold ss_
          rw [ih, Nat.zero_testBit, if_neg (by decide)]
      rw [this]⟩
  have e1 : f_X6_giveAllToNobody_9 (nI 1) (si_ m 90 0 (nI 0)) = f_X6_giveAllToNobody_9 (nI (2 ^ N)) m1 := e1
  refine ⟨m1, ?_, w1⟩
  unfold f_X6_giveAllToNobody
  simp (disch := omega) only [↓reduceIte, ↓ns_m1, ns_let, ns_lef, ns_ltt, ns_ltf, ns_eqt, ns_eqf, ns_gd, nI_clamp, nI_add, pk_sub, pk_mul, ns_m1a, ns_m1b, ns_m1c, ns_m1d, ns_m1e, ns_m1f, ns_m1g, ns_un1, ns_un0, ns_day1, Option.bind_some, gi_si_self, gi_si_ne, gl_si, gi_sl, gl_sl_self, gl_sl_ne, if_true, if_false, ns_i0, ns_i1, ns_i2, ns_i3, ns_i4, ns_i5, ns_i6, ns_i7, ns_i8, ns_i9, ns_i10, ns_i11, ns_i12, ns_i13, ns_i20, ns_i23, ns_i24, ns_i31, ns_i50, ns_i60, ns_i99, ns_i100, ns_i144, ns_i200, ns_i255, ns_i700, ns_i880, ns_i899, ns_i900, ns_i901, ns_i999, ns_i1000, ns_i1440, ns_i4095, ns_i1000000, e1]
  rw [e_X6_giveAllToNobody_9]
  simp (disch := omega) only [↓reduceIte, ↓ns_m1, ns_let, ns_lef, ns_ltt, ns_ltf, ns_eqt, ns_eqf, ns_gd, nI_clamp, nI_add, pk_sub, pk_mul, ns_m1a, ns_m1b, ns_m1c, ns_m1d, ns_m1e, ns_m1f, ns_m1g, ns_un1, ns_un0, ns_day1, Option.bind_some, gi_si_self, gi_si_ne, gl_si, gi_sl, gl_sl_self, gl_sl_ne, if_true, if_false, ns_i0, ns_i1, ns_i2, ns_i3, ns_i4, ns_i5, ns_i6, ns_i7, ns_i8, ns_i9, ns_i10, ns_i11, ns_i12, ns_i13, ns_i20, ns_i23, ns_i24, ns_i31, ns_i50, ns_i60, ns_i99, ns_i100, ns_i144, ns_i200, ns_i255, ns_i700, ns_i880, ns_i899, ns_i900, ns_i901, ns_i999, ns_i1000, ns_i1440, ns_i4095, ns_i1000000, c1, sh]
