/-! ===== a plate is offered ===== -/
theorem sub_and {x u : Nat} : x &&& u = x ↔ ∀ i, tB_ x i → tB_ u i := by
  constructor
  · intro h i hi
    have hi : x.testBit i = true := hi
    rw [← h, Nat.testBit_and, Bool.and_eq_true] at hi
    exact hi.2
  · intro h
    refine tB_ext fun i => ?_
    show (x &&& u).testBit i = true ↔ x.testBit i = true
    rw [Nat.testBit_and, Bool.and_eq_true]
    exact ⟨fun q => q.1, fun q => ⟨q, h i q⟩⟩
theorem sub_le {x u : Nat} (h : x &&& u = x) : x ≤ u := by
  rw [← h]
  exact Nat.and_le_right
/-- the next smaller part of u leaves out nothing -/
theorem subm_ : ∀ (n x u y : Nat), x ≤ n → x &&& u = x → y &&& u = y → y < x → y ≤ (x - 1) &&& u
  | 0, x, u, y, hn, _, _, h => by omega
  | n + 1, x, u, y, hn, hx, hy, h => by
    have dx : x / 2 &&& u / 2 = x / 2 := by rw [← Nat.and_div_two, hx]
    have dy : y / 2 &&& u / 2 = y / 2 := by rw [← Nat.and_div_two, hy]
    have mx : x % 2 = 1 → u % 2 = 1 := fun e => by
      rw [← hx] at e
      exact (Nat.and_mod_two_eq_one.mp e).2
    have my : y % 2 = 1 → u % 2 = 1 := fun e => by
      rw [← hy] at e
      exact (Nat.and_mod_two_eq_one.mp e).2
    have d1 : ((x - 1) &&& u) / 2 = (x - 1) / 2 &&& u / 2 := Nat.and_div_two
    have m1 : (x - 1) % 2 = 1 → u % 2 = 1 → ((x - 1) &&& u) % 2 = 1 := fun a b => Nat.and_mod_two_eq_one.mpr ⟨a, b⟩
    by_cases c : x % 2 = 1
    · have e1 : (x - 1) / 2 = x / 2 := by omega
      rw [e1, dx] at d1
      omega
    · have e1 : (x - 1) / 2 = x / 2 - 1 := by omega
      have ih := subm_ n (x / 2) (u / 2) (y / 2) (by omega) dx dy (by omega)
      rw [e1] at d1
      have hlast : y % 2 ≤ ((x - 1) &&& u) % 2 := by
        by_cases cy : y % 2 = 1
        · rw [m1 (by omega) (my cy)]; omega
        · omega
      omega
set_option maxRecDepth 100000 in
theorem out_all : ∀ l, l < 128 → ∀ s, s < 128 → (decide (nI s &&& (nI l ^^^ M1_) = nI 0)) = decide (s &&& l = s) := by decide +kernel
theorem out_ok {l s : Nat} (hl : l < 128) (hs : s < 128) : (nI s &&& (nI l ^^^ M1_) = nI 0) = (s &&& l = s) := propext ⟨fun h => by
  have := out_all l hl s hs
  rw [decide_eq_true h] at this
  exact of_decide_eq_true this.symm, fun h => by
  have := out_all l hl s hs
  rw [decide_eq_true h] at this
  exact of_decide_eq_true this⟩
theorem psg_c {P : pl_} {m : fm_} (h : pc_ P m) {p : Nat} (hp : p < P.length) : gl_ m 70 p = psg_ P p := by
  have e := List.getElem?_eq_getElem hp
  rw [(h.2.2.2 p _ e).1]
  unfold psg_
  rw [e]
/-- which readings are like the plate, and what each is worth -/
def lkd_ (N : Nat) (pr : Nat → Nat → Nat) (p n x : Nat) : Prop := x < 2 ^ N ∧ ∀ i, tB_ x i ↔ i < n ∧ ¬ pr i p = 9
theorem sho_ {W : List (Nat × Nat × Nat)} {P : pl_} {F : List fa_} {T : Nat} {C : List (Nat × Nat × Nat)} (hk : kok_ W P F T C) {m : fm_} (hm : kwc_ W P F T C m) {R : List Nat} (hR : rds_ F R) (hro : rowc_ R m) {p : Nat} (hp : p < P.length) : ∃ l m1, f_X6_shareOut (nI p) m = some (nI l, m1) ∧ lkd_ R.length (prr_ F P R) p R.length l ∧ ∀ t, t < 2 ^ R.length → t &&& l = t → gi_ m1 91 t = nI (ss_ (fun i => wp_ P.length (prr_ F P R) R.length i p) t R.length) := by
  have hl7 := hR.1
  have hPl := hk.2.1
  have hFl := hk.2.2.1.1
  have h128 := pw7 hl7
  have hpos := Nat.two_pow_pos R.length
  have sh : nI 1 <<< (nI R.length &&& nI 31) = nI (2 ^ R.length) := ns_shl (by omega)
  have wpe : ∀ i, wp_ P.length (prr_ F P R) R.length i p = prr_ F P R i p * 19487171 + p * 11 ^ (R.length - 1 - i) := fun i => by
    unfold wp_ co2_ dv_
    rw [if_neg (by omega), if_neg (by omega)]
  obtain ⟨st, e1, w1, r1, l1, s1⟩ := lp0_ (n := R.length) (F := fun i (y : Nat × fm_) => f_X6_shareOut_4 (nI p) (nI y.1) (nI i) y.2) (I := fun i y => kwc_ W P F T C y.2 ∧ rowc_ R y.2 ∧ lkd_ R.length (prr_ F P R) p i y.1 ∧ ∀ j, j < i → ¬ prr_ F P R j p = 9 → gi_ y.2 88 j = nI (wp_ P.length (prr_ F P R) R.length j p)) (fun i y hi hI => by
    obtain ⟨x, m0⟩ := y
    obtain ⟨i1, i2, i3, i4⟩ := hI
    have i1 : kwc_ W P F T C m0 := i1
    have i2 : rowc_ R m0 := i2
    have i3 : lkd_ R.length (prr_ F P R) p i x := i3
    have er := List.getElem?_eq_getElem hi
    generalize R[i] = r at er
    obtain ⟨q, hq, hq1⟩ := hR.2 r (List.mem_of_getElem? er)
    have hrl := (List.getElem?_eq_some_iff.mp hq).1
    have gr := i2.2 i r er
    have gs := (i1.2.1.2.2 r q hq).2.2.2.2.2.2 hq1
    have ep : prr_ F P R i p = lkn_ q.2.2.2.2.2.2 (psg_ P p) := by unfold prr_; rw [rg_s er, fq_s hq]
    have lk : f_X7_likeness (gl_ m0 79 r) (gl_ m0 70 p) m0 = some (nI (prr_ F P R i p), m0) := by
      rw [gs, psg_c i1.1 hp, lk_all, lkn_e, ep]
    have pb : prr_ F P R i p ≤ 2 ∨ prr_ F P R i p = 9 := lkn_b _ _
    show ∃ s' : Nat × fm_, f_X6_shareOut_4 (nI p) (nI x) (nI i) m0 = f_X6_shareOut_4 (nI p) (nI s'.1) (nI (i + 1)) s'.2 ∧ kwc_ W P F T C s'.2 ∧ rowc_ R s'.2 ∧ lkd_ R.length (prr_ F P R) p (i + 1) s'.1 ∧ ∀ j, j < i + 1 → ¬ prr_ F P R j p = 9 → gi_ s'.2 88 j = nI (wp_ P.length (prr_ F P R) R.length j p)
    rw [e_X6_shareOut_4]
    by_cases c : prr_ F P R i p = 9
    · simp (disch := omega) only [↓reduceIte, ↓ns_m1, ns_let, ns_lef, ns_ltt, ns_ltf, ns_eqt, ns_eqf, ns_gd, nI_clamp, nI_add, pk_sub, pk_mul, ns_m1a, ns_m1b, ns_m1c, ns_m1d, ns_m1e, ns_m1f, ns_m1g, ns_un1, ns_un0, ns_day1, Option.bind_some, gi_si_self, gi_si_ne, gl_si, gi_sl, gl_sl_self, gl_sl_ne, if_true, if_false, ns_i0, ns_i1, ns_i2, ns_i3, ns_i4, ns_i5, ns_i6, ns_i7, ns_i8, ns_i9, ns_i10, ns_i11, ns_i12, ns_i13, ns_i20, ns_i23, ns_i24, ns_i31, ns_i50, ns_i60, ns_i99, ns_i100, ns_i144, ns_i200, ns_i255, ns_i700, ns_i880, ns_i899, ns_i900, ns_i901, ns_i999, ns_i1000, ns_i1440, ns_i4095, ns_i1000000, i2.1, gr, lk]
      refine ⟨(x, m0), rfl, i1, i2, ⟨i3.1, fun j => ?_⟩, fun j hj hn => ?_⟩
      · rw [i3.2 j]
        constructor
        · rintro ⟨q1, q2⟩; exact ⟨by omega, q2⟩
        · rintro ⟨q1, q2⟩
          by_cases e : j = i
          · rw [e] at q2; exact absurd c q2
          · exact ⟨by omega, q2⟩
      · by_cases e : j = i
        · rw [e] at hn; exact absurd c hn
        · exact i4 j (by omega) hn
    · have sw := share_ (o := p) (p := prr_ F P R i p) hl7 hi i2.1
      have p2 : 2 ^ i < 2 ^ R.length := Nat.pow_lt_pow_right (by omega) hi
      have nor : nI x ||| nI (2 ^ i) = nI (x ||| 2 ^ i) := nI_or (k := R.length) i3.1 p2 (by omega)
      simp (disch := omega) only [↓reduceIte, ↓ns_m1, ns_let, ns_lef, ns_ltt, ns_ltf, ns_eqt, ns_eqf, ns_gd, nI_clamp, nI_add, pk_sub, pk_mul, ns_m1a, ns_m1b, ns_m1c, ns_m1d, ns_m1e, ns_m1f, ns_m1g, ns_un1, ns_un0, ns_day1, Option.bind_some, gi_si_self, gi_si_ne, gl_si, gi_sl, gl_sl_self, gl_sl_ne, if_true, if_false, ns_i0, ns_i1, ns_i2, ns_i3, ns_i4, ns_i5, ns_i6, ns_i7, ns_i8, ns_i9, ns_i10, ns_i11, ns_i12, ns_i13, ns_i20, ns_i23, ns_i24, ns_i31, ns_i50, ns_i60, ns_i99, ns_i100, ns_i144, ns_i200, ns_i255, ns_i700, ns_i880, ns_i899, ns_i900, ns_i901, ns_i999, ns_i1000, ns_i1440, ns_i4095, ns_i1000000, i2.1, gr, lk, sw, ns_shl, nor]
      refine ⟨(x ||| 2 ^ i, si_ m0 88 i (nI (prr_ F P R i p * 19487171 + p * 11 ^ (R.length - 1 - i)))), rfl, kwc_ag i1 (sa_ag (w := [(88, 88, 0)]) (by rfl) (sa_si (by rfl) sa_rf)), ⟨(gi_si_ne (by omega)).trans i2.1, fun j r hj => (gi_si_ne (by omega)).trans (i2.2 j r hj)⟩, ⟨Nat.or_lt_two_pow i3.1 p2, fun j => ?_⟩, fun j hj hn => ?_⟩
      · show (x ||| 2 ^ i).testBit j = true ↔ _
        rw [Nat.testBit_or, Bool.or_eq_true, Nat.testBit_two_pow, decide_eq_true_eq]
        constructor
        · rintro (q1 | q1)
          · have := (i3.2 j).mp q1
            exact ⟨by omega, this.2⟩
          · rw [← q1]; exact ⟨by omega, c⟩
        · rintro ⟨q1, q2⟩
          by_cases e : i = j
          · exact Or.inr e
          · exact Or.inl ((i3.2 j).mpr ⟨by omega, q2⟩)
      · show gi_ (si_ m0 88 i (nI (prr_ F P R i p * 19487171 + p * 11 ^ (R.length - 1 - i)))) 88 j = _
        by_cases e : j = i
        · rw [e, gi_si_self, wpe]
        · rw [gi_si_ne (by omega)]
          exact i4 j (by omega) hn) (s := (0, m)) ⟨hm, hro, ⟨hpos, fun j => ⟨fun h => (by have h : Nat.testBit 0 j = true := h; rw [Nat.zero_testBit] at h; cases h), fun h => absurd h.1 (Nat.not_lt_zero _)⟩⟩, fun j hj => absurd hj (Nat.not_lt_zero _)⟩
  obtain ⟨l, m1⟩ := st
  have w1 : kwc_ W P F T C m1 := w1
  have r1 : rowc_ R m1 := r1
  have l1 : lkd_ R.length (prr_ F P R) p R.length l := l1
  have s1 : ∀ j, j < R.length → ¬ prr_ F P R j p = 9 → gi_ m1 88 j = nI (wp_ P.length (prr_ F P R) R.length j p) := s1
  have e1 : f_X6_shareOut (nI p) m = f_X6_shareOut_4 (nI p) (nI l) (nI R.length) m1 := e1
  have l128 : l < 128 := by have := l1.1; omega
  obtain ⟨m2, e2, _, c2, s2, p2⟩ := lp_ (n := 2 ^ R.length) (F := fun s m => f_X6_shareOut_82 (nI p) (nI l) (nI s) m) (I := fun s m => 1 ≤ s ∧ gi_ m 82 9 = nI R.length ∧ (∀ j, j < R.length → ¬ prr_ F P R j p = 9 → gi_ m 88 j = nI (wp_ P.length (prr_ F P R) R.length j p)) ∧ ∀ t, t < s → t &&& l = t → gi_ m 91 t = nI (ss_ (fun i => wp_ P.length (prr_ F P R) R.length i p) t R.length)) (fun s m0 hs hI => by
    obtain ⟨i0, i1, i2, i3⟩ := hI
    obtain ⟨q1, q2, q3, q4, q5⟩ := low_ hl7 hs (by omega)
    show ∃ s', f_X6_shareOut_82 (nI p) (nI l) (nI s) m0 = f_X6_shareOut_82 (nI p) (nI l) (nI (s + 1)) s' ∧ _
    have oo := out_ok (l := l) (s := s) l128 (by omega)
    rw [e_X6_shareOut_82]
    by_cases c : s &&& l = s
    · have sb := sub_and.mp c
      have c1 : s &&& (s - 1) &&& l = s &&& (s - 1) := sub_and.mpr fun i hi => by
        by_cases hiN : i < R.length
        · exact sb i ((q4 i hiN).mp hi).1
        · exact absurd hi (tB_lt (n := R.length) (by omega) (by omega))
      have g0 := i3 (s &&& (s - 1)) (by omega) c1
      have gz := i2 (tz_ s) q1 ((l1.2 _).mp (sb _ q2)).2
      have na : nI s &&& nI (s - 1) = nI (s &&& (s - 1)) := nI_and (by omega) (by omega)
      have es := ss_low (f := fun i => wp_ P.length (prr_ F P R) R.length i p) hl7 hs (by omega)
      rw [eq_true c] at oo
      simp (disch := omega) only [↓reduceIte, ↓ns_m1, ns_let, ns_lef, ns_ltt, ns_ltf, ns_eqt, ns_eqf, ns_gd, nI_clamp, nI_add, pk_sub, pk_mul, ns_m1a, ns_m1b, ns_m1c, ns_m1d, ns_m1e, ns_m1f, ns_m1g, ns_un1, ns_un0, ns_day1, Option.bind_some, gi_si_self, gi_si_ne, gl_si, gi_sl, gl_sl_self, gl_sl_ne, if_true, if_false, ns_i0, ns_i1, ns_i2, ns_i3, ns_i4, ns_i5, ns_i6, ns_i7, ns_i8, ns_i9, ns_i10, ns_i11, ns_i12, ns_i13, ns_i20, ns_i23, ns_i24, ns_i31, ns_i50, ns_i60, ns_i99, ns_i100, ns_i144, ns_i200, ns_i255, ns_i700, ns_i880, ns_i899, ns_i900, ns_i901, ns_i999, ns_i1000, ns_i1440, ns_i4095, ns_i1000000, i1, sh, oo, tz_e (s := s) (by omega) (by omega) m0, na, g0, gz]
      refine ⟨_, rfl, by omega, (gi_si_ne (by omega)).trans i1, fun j hj hn => (gi_si_ne (by omega)).trans (i2 j hj hn), fun t ht htl => ?_⟩
      by_cases e : t = s
      · rw [e, gi_si_self, es]
      · rw [gi_si_ne (by omega)]
        exact i3 t (by omega) htl
    · rw [eq_false c] at oo
      simp (disch := omega) only [↓reduceIte, ↓ns_m1, ns_let, ns_lef, ns_ltt, ns_ltf, ns_eqt, ns_eqf, ns_gd, nI_clamp, nI_add, pk_sub, pk_mul, ns_m1a, ns_m1b, ns_m1c, ns_m1d, ns_m1e, ns_m1f, ns_m1g, ns_un1, ns_un0, ns_day1, Option.bind_some, gi_si_self, gi_si_ne, gl_si, gi_sl, gl_sl_self, gl_sl_ne, if_true, if_false, ns_i0, ns_i1, ns_i2, ns_i3, ns_i4, ns_i5, ns_i6, ns_i7, ns_i8, ns_i9, ns_i10, ns_i11, ns_i12, ns_i13, ns_i20, ns_i23, ns_i24, ns_i31, ns_i50, ns_i60, ns_i99, ns_i100, ns_i144, ns_i200, ns_i255, ns_i700, ns_i880, ns_i899, ns_i900, ns_i901, ns_i999, ns_i1000, ns_i1440, ns_i4095, ns_i1000000, i1, sh, oo]
      refine ⟨_, rfl, by omega, i1, i2, fun t ht htl => ?_⟩
      by_cases e : t = s
      · rw [e] at htl; exact absurd htl c
      · exact i3 t (by omega) htl) (2 ^ R.length - 1) 1 (si_ m1 91 0 (nI 0)) (by omega) ⟨Nat.le_refl _, (gi_si_ne (by omega)).trans r1.1, fun j hj hn => (gi_si_ne (by omega)).trans (s1 j hj hn), fun t ht _ => by
      have t0 : t = 0 := by omega
      subst t0
      rw [gi_si_self]
      have : ∀ n, ss_ (fun i => wp_ P.length (prr_ F P R) R.length i p) 0 n = 0 := by
        intro n
        induction n with
        | zero => rfl
        | succ n ih =>
          unfold ss_
          rw [ih, Nat.zero_testBit, if_neg (by decide)]
      rw [this]⟩
  have e2 : f_X6_shareOut_82 (nI p) (nI l) (nI 1) (si_ m1 91 0 (nI 0)) = f_X6_shareOut_82 (nI p) (nI l) (nI (2 ^ R.length)) m2 := e2
  refine ⟨l, m2, ?_, l1, p2⟩
  rw [e1, e_X6_shareOut_4]
  simp (disch := omega) only [↓reduceIte, ↓ns_m1, ns_let, ns_lef, ns_ltt, ns_ltf, ns_eqt, ns_eqf, ns_gd, nI_clamp, nI_add, pk_sub, pk_mul, ns_m1a, ns_m1b, ns_m1c, ns_m1d, ns_m1e, ns_m1f, ns_m1g, ns_un1, ns_un0, ns_day1, Option.bind_some, gi_si_self, gi_si_ne, gl_si, gi_sl, gl_sl_self, gl_sl_ne, if_true, if_false, ns_i0, ns_i1, ns_i2, ns_i3, ns_i4, ns_i5, ns_i6, ns_i7, ns_i8, ns_i9, ns_i10, ns_i11, ns_i12, ns_i13, ns_i20, ns_i23, ns_i24, ns_i31, ns_i50, ns_i60, ns_i99, ns_i100, ns_i144, ns_i200, ns_i255, ns_i700, ns_i880, ns_i899, ns_i900, ns_i901, ns_i999, ns_i1000, ns_i1440, ns_i4095, ns_i1000000, r1.1, e2]
  rw [e_X6_shareOut_82]
  simp (disch := omega) only [↓reduceIte, ↓ns_m1, ns_let, ns_lef, ns_ltt, ns_ltf, ns_eqt, ns_eqf, ns_gd, nI_clamp, nI_add, pk_sub, pk_mul, ns_m1a, ns_m1b, ns_m1c, ns_m1d, ns_m1e, ns_m1f, ns_m1g, ns_un1, ns_un0, ns_day1, Option.bind_some, gi_si_self, gi_si_ne, gl_si, gi_sl, gl_sl_self, gl_sl_ne, if_true, if_false, ns_i0, ns_i1, ns_i2, ns_i3, ns_i4, ns_i5, ns_i6, ns_i7, ns_i8, ns_i9, ns_i10, ns_i11, ns_i12, ns_i13, ns_i20, ns_i23, ns_i24, ns_i31, ns_i50, ns_i60, ns_i99, ns_i100, ns_i144, ns_i200, ns_i255, ns_i700, ns_i880, ns_i899, ns_i900, ns_i901, ns_i999, ns_i1000, ns_i1440, ns_i4095, ns_i1000000, c2, sh]
/-- one set: the best that this plate can take of it -/
theorem o37_ {W : List (Nat × Nat × Nat)} {P : pl_} {F : List fa_} {C : List (Nat × Nat × Nat)} {R : List Nat} (hl7 : R.length ≤ 7) {p l s : Nat} {Wt pw : Nat → Nat} {m : fm_} (hs : s < 2 ^ R.length) (hl : l < 2 ^ R.length) (hb : bysets_ (tgg_ W F C R) R.length (2 ^ R.length) m) (hw : ∀ t, t ≤ s → gi_ m 90 t = nI (Wt t)) (hp : ∀ t, t < 2 ^ R.length → t &&& l = t → gi_ m 91 t = nI (pw t)) (bw : ∀ t, t < 2 ^ R.length → Wt t ≤ 565127959) (bp : ∀ t, t < 2 ^ R.length → t &&& l = t → pw t ≤ 565127959) :
    ∀ (n x best : Nat), x ≤ n → x &&& (s &&& l) = x → best ≤ Wt s → (best = Wt s ∨ ∃ y, ¬ y = 0 ∧ y &&& (s &&& l) = y ∧ bop_ (tgg_ W F C R) R.length y ∧ best = Wt (s ^^^ y) + pw y) → (∀ y, x < y → y &&& (s &&& l) = y → bop_ (tgg_ W F C R) R.length y → best ≤ Wt (s ^^^ y) + pw y) →
    ∃ v, f_X6_offer_37 (nI p) (nI l) (nI s) (nI best) (nI x) m = f_X6_offer_20 (nI p) (nI l) (nI s + M1_) (si_ m 90 s (nI v)) ∧ v ≤ Wt s ∧ (v = Wt s ∨ ∃ y, ¬ y = 0 ∧ y &&& (s &&& l) = y ∧ bop_ (tgg_ W F C R) R.length y ∧ v = Wt (s ^^^ y) + pw y) ∧ ∀ y, ¬ y = 0 → y &&& (s &&& l) = y → bop_ (tgg_ W F C R) R.length y → v ≤ Wt (s ^^^ y) + pw y := by
  have h128 := pw7 hl7
  intro n
  induction n with
  | zero =>
    intro x best hx hxs h1 h2 h3
    have x0 : x = 0 := by omega
    subst x0
    refine ⟨best, ?_, h1, h2, fun y hy => h3 y (by omega)⟩
    rw [e_X6_offer_37]
    simp (disch := omega) only [↓reduceIte, ↓ns_m1, ns_let, ns_lef, ns_ltt, ns_ltf, ns_eqt, ns_eqf, ns_gd, nI_clamp, nI_add, pk_sub, pk_mul, ns_m1a, ns_m1b, ns_m1c, ns_m1d, ns_m1e, ns_m1f, ns_m1g, ns_un1, ns_un0, ns_day1, Option.bind_some, gi_si_self, gi_si_ne, gl_si, gi_sl, gl_sl_self, gl_sl_ne, if_true, if_false, ns_i0, ns_i1, ns_i2, ns_i3, ns_i4, ns_i5, ns_i6, ns_i7, ns_i8, ns_i9, ns_i10, ns_i11, ns_i12, ns_i13, ns_i20, ns_i23, ns_i24, ns_i31, ns_i50, ns_i60, ns_i99, ns_i100, ns_i144, ns_i200, ns_i255, ns_i700, ns_i880, ns_i899, ns_i900, ns_i901, ns_i999, ns_i1000, ns_i1440, ns_i4095, ns_i1000000]
  | succ n ih =>
    intro x best hx hxs h1 h2 h3
    by_cases x0 : x = 0
    · subst x0
      refine ⟨best, ?_, h1, h2, fun y hy => h3 y (by omega)⟩
      rw [e_X6_offer_37]
      simp (disch := omega) only [↓reduceIte, ↓ns_m1, ns_let, ns_lef, ns_ltt, ns_ltf, ns_eqt, ns_eqf, ns_gd, nI_clamp, nI_add, pk_sub, pk_mul, ns_m1a, ns_m1b, ns_m1c, ns_m1d, ns_m1e, ns_m1f, ns_m1g, ns_un1, ns_un0, ns_day1, Option.bind_some, gi_si_self, gi_si_ne, gl_si, gi_sl, gl_sl_self, gl_sl_ne, if_true, if_false, ns_i0, ns_i1, ns_i2, ns_i3, ns_i4, ns_i5, ns_i6, ns_i7, ns_i8, ns_i9, ns_i10, ns_i11, ns_i12, ns_i13, ns_i20, ns_i23, ns_i24, ns_i31, ns_i50, ns_i60, ns_i99, ns_i100, ns_i144, ns_i200, ns_i255, ns_i700, ns_i880, ns_i899, ns_i900, ns_i901, ns_i999, ns_i1000, ns_i1440, ns_i4095, ns_i1000000]
    · have xs := sub_and.mp hxs
      have xle := sub_le hxs
      have sll : s &&& l ≤ s := Nat.and_le_left
      have xl : x &&& l = x := sub_and.mpr fun i hi => by
        have : (s &&& l).testBit i = true := xs i hi
        rw [Nat.testBit_and, Bool.and_eq_true] at this
        exact this.2
      have xss : ∀ i, tB_ x i → tB_ s i := fun i hi => by
        have : (s &&& l).testBit i = true := xs i hi
        rw [Nat.testBit_and, Bool.and_eq_true] at this
        exact this.1
      have xrb : ∀ i, tB_ (s ^^^ x) i ↔ tB_ s i ∧ ¬ tB_ x i := fun i => by
        show (s ^^^ x).testBit i = true ↔ s.testBit i = true ∧ ¬ x.testBit i = true
        rw [Nat.testBit_xor]
        have this : x.testBit i = true → s.testBit i = true := xss i
        cases e1 : s.testBit i <;> cases e2 : x.testBit i <;> simp_all
      have xrl : (s ^^^ x) ≤ s := sub_le (sub_and.mpr fun i hi => ((xrb i).mp hi).1)
      have nx : nI s ^^^ nI x = nI (s ^^^ x) := nI_xor (k := 7) (by have : 2 ^ 7 = 128 := rfl; omega) (by have : 2 ^ 7 = 128 := rfl; omega) (by omega)
      have l1 : x - 1 &&& s ≤ x - 1 := Nat.and_le_left
      have na1 : nI (x - 1) &&& nI s = nI (x - 1 &&& s) := nI_and (by omega) (by omega)
      have na2 : nI (x - 1 &&& s) &&& nI l = nI (x - 1 &&& s &&& l) := nI_and (by omega) (by omega)
      have l2 : x - 1 &&& s &&& l ≤ x - 1 &&& s := Nat.and_le_left
      have asc : x - 1 &&& s &&& l = (x - 1) &&& (s &&& l) := Nat.and_assoc _ _ _
      have nsub : (x - 1 &&& s &&& l) &&& (s &&& l) = x - 1 &&& s &&& l := sub_and.mpr fun i hi => by
        have hi : (x - 1 &&& s &&& l).testBit i = true := hi
        rw [asc, Nat.testBit_and, Bool.and_eq_true] at hi
        exact hi.2
      obtain ⟨b, g1, g2⟩ := hb x (by omega)
      have gw := hw (s ^^^ x) (by omega)
      have gp := hp x (by omega) xl
      have bb1 := bw (s ^^^ x) (by omega)
      have bb2 := bp x (by omega) xl
      have bb3 := bw s hs
      have e1 : b01_ true = nI 1 := rfl
      have e0 : b01_ false = nI 0 := rfl
      rw [e_X6_offer_37]
      cases b with
      | true =>
        have bx : bop_ (tgg_ W F C R) R.length x := g2.mp rfl
        obtain ⟨v, r1, r2, r3, r4⟩ := ih (x - 1 &&& s &&& l) (min best (Wt (s ^^^ x) + pw x)) (by omega) nsub (by omega) (by
          by_cases c : best ≤ Wt (s ^^^ x) + pw x
          · rw [Nat.min_eq_left c]; exact h2
          · rw [Nat.min_eq_right (by omega)]
            exact Or.inr ⟨x, x0, hxs, bx, rfl⟩) (fun y hy hys hyb => by
          by_cases c : y < x
          · have := subm_ x x (s &&& l) y (Nat.le_refl _) hxs hys c
            rw [← asc] at this
            omega
          · by_cases c2 : y = x
            · rw [c2]; omega
            · have := h3 y (by omega) hys hyb
              omega)
        refine ⟨v, ?_, r2, r3, r4⟩
        simp (disch := omega) only [↓reduceIte, ↓ns_m1, ns_let, ns_lef, ns_ltt, ns_ltf, ns_eqt, ns_eqf, ns_gd, nI_clamp, nI_add, pk_sub, pk_mul, ns_m1a, ns_m1b, ns_m1c, ns_m1d, ns_m1e, ns_m1f, ns_m1g, ns_un1, ns_un0, ns_day1, Option.bind_some, gi_si_self, gi_si_ne, gl_si, gi_sl, gl_sl_self, gl_sl_ne, if_true, if_false, ns_i0, ns_i1, ns_i2, ns_i3, ns_i4, ns_i5, ns_i6, ns_i7, ns_i8, ns_i9, ns_i10, ns_i11, ns_i12, ns_i13, ns_i20, ns_i23, ns_i24, ns_i31, ns_i50, ns_i60, ns_i99, ns_i100, ns_i144, ns_i200, ns_i255, ns_i700, ns_i880, ns_i899, ns_i900, ns_i901, ns_i999, ns_i1000, ns_i1440, ns_i4095, ns_i1000000, g1, e1, nx, gw, gp, ns_mn, na1, na2, r1]
      | false =>
        have bx : ¬ bop_ (tgg_ W F C R) R.length x := fun q => by have := g2.mpr q; cases this
        obtain ⟨v, r1, r2, r3, r4⟩ := ih (x - 1 &&& s &&& l) best (by omega) nsub h1 h2 (fun y hy hys hyb => by
          by_cases c : y < x
          · have := subm_ x x (s &&& l) y (Nat.le_refl _) hxs hys c
            rw [← asc] at this
            omega
          · by_cases c2 : y = x
            · rw [c2] at hyb; exact absurd hyb bx
            · exact h3 y (by omega) hys hyb)
        refine ⟨v, ?_, r2, r3, r4⟩
        simp (disch := omega) only [↓reduceIte, ↓ns_m1, ns_let, ns_lef, ns_ltt, ns_ltf, ns_eqt, ns_eqf, ns_gd, nI_clamp, nI_add, pk_sub, pk_mul, ns_m1a, ns_m1b, ns_m1c, ns_m1d, ns_m1e, ns_m1f, ns_m1g, ns_un1, ns_un0, ns_day1, Option.bind_some, gi_si_self, gi_si_ne, gl_si, gi_sl, gl_sl_self, gl_sl_ne, if_true, if_false, ns_i0, ns_i1, ns_i2, ns_i3, ns_i4, ns_i5, ns_i6, ns_i7, ns_i8, ns_i9, ns_i10, ns_i11, ns_i12, ns_i13, ns_i20, ns_i23, ns_i24, ns_i31, ns_i50, ns_i60, ns_i99, ns_i100, ns_i144, ns_i200, ns_i255, ns_i700, ns_i880, ns_i899, ns_i900, ns_i901, ns_i999, ns_i1000, ns_i1440, ns_i4095, ns_i1000000, g1, e0, na1, na2, r1]
