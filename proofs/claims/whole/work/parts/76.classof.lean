/-! ===== days chosen one after another ===== -/
theorem choose2_ {W : List (Nat × Nat × Nat)} {P : pl_} {F : List fa_} {T : Nat} {C : List (Nat × Nat × Nat)} (hk : kok_ W P F T C) {st : Nat} (hst : st < 2 ^ 20) {m : fm_} (hm : kwc_ W P F T C m) (hc : cch_ W P F C st m) {d : Nat} (hd : d < 100) (k : Int32) : ∃ m1, f_X6_choose (nI d) k m = some (0, m1) ∧ kwc_ W P F T C m1 ∧ cch_ W P F C st m1 ∧ (gi_ m1 83 d = nI st ∧ gi_ m1 84 d = k ∧ ∀ e, ¬ e = d → gi_ m1 83 e = gi_ m 83 e ∧ gi_ m1 84 e = gi_ m 84 e) := by
  obtain ⟨hW, hP, hF, hC, hRk⟩ := id hk
  have hPl := hm.1.2.2.1
  obtain ⟨c1, c2⟩ := hc
  obtain ⟨sd, s1, s2, s3⟩ := c2 d hd
  -- the choice made anew
  have anew : ∃ m1 q1 q2 q3, f_X6_gather (nI d) k (si_ (si_ m 83 d (nI st)) 84 d k) = some (0, q1) ∧ f_X6_markSetsByOne q1 = some (0, q2) ∧ f_X6_giveAllToNobody q2 = some (0, q3) ∧ f_X6_choose_64 (nI d) k (nI 0) q3 = some (0, m1) ∧ kwc_ W P F T C m1 ∧ cch_ W P F C st m1 ∧ (gi_ m1 83 d = nI st ∧ gi_ m1 84 d = k ∧ ∀ e, ¬ e = d → gi_ m1 83 e = gi_ m 83 e ∧ gi_ m1 84 e = gi_ m 84 e) := by
    have sA : sa_ [(83, 83, 0), (84, 84, 0)] m (si_ (si_ m 83 d (nI st)) 84 d k) := sa_si (by rfl) (sa_si (by rfl) sa_rf)
    have w0 : kwc_ W P F T C (si_ (si_ m 83 d (nI st)) 84 d k) := kwc_ag hm (sa_ag (by rfl) sA)
    obtain ⟨q1, e1, w1, r1⟩ := gath_ hk w0 hd k
    have hR := rds_rdk hRk d k
    have f1 := fr_X6_gather e1
    obtain ⟨q2, e2, b2⟩ := mark_ hk w1 hR r1
    have f2 := fr_X6_markSetsByOne e2
    have w2 : kwc_ W P F T C q2 := kwc_ag w1 (sa_ag (by rfl) f2)
    have r2 : rowc_ (rdk_ F d k F.length) q2 := ⟨(sa_gi f2 (by rfl)).trans r1.1, fun j r hj => (sa_gi f2 (by rfl)).trans (r1.2 j r hj)⟩
    obtain ⟨q3, e3, n3⟩ := nob_ (pr := prr_ F P (rdk_ F d k F.length)) hP hR.1 r2.1
    have f3 := fr_X6_giveAllToNobody e3
    have o3 : off_ W P F T C (rdk_ F d k F.length) 0 q3 := ⟨kwc_ag w2 (sa_ag (by rfl) f3), ⟨(sa_gi f3 (by rfl)).trans r2.1, fun j r hj => (sa_gi f3 (by rfl)).trans (r2.2 j r hj)⟩, fun t ht => by
      obtain ⟨b, g1, g2⟩ := b2 t ht
      exact ⟨b, (sa_gi f3 (by rfl)).trans g1, g2⟩, _, n3, dok_0⟩
    obtain ⟨q4, e4, o4, f4⟩ := lp0_ (n := P.length) (F := fun p m => f_X6_choose_64 (nI d) k (nI p) m) (I := fun p m' => off_ W P F T C (rdk_ F d k F.length) p m' ∧ sa_ [(88, 88, 0), (90, 90, 0), (91, 91, 0)] q3 m') (fun p m0 hp hI => by
      obtain ⟨m1, e1, h1⟩ := offer1_ hk hR hp hI.1
      refine ⟨m1, ?_, h1, sa_t hI.2 (fr_X6_offer e1)⟩
      show f_X6_choose_64 (nI d) k (nI p) m0 = f_X6_choose_64 (nI d) k (nI (p + 1)) m1
      rw [e_X6_choose_64]
      have := hI.1.1.1.2.2.1
      simp (disch := omega) only [↓reduceIte, ↓ns_m1, ns_let, ns_lef, ns_ltt, ns_ltf, ns_eqt, ns_eqf, ns_gd, nI_clamp, nI_add, pk_sub, pk_mul, ns_m1a, ns_m1b, ns_m1c, ns_m1d, ns_m1e, ns_m1f, ns_m1g, ns_un1, ns_un0, ns_day1, Option.bind_some, gi_si_self, gi_si_ne, gl_si, gi_sl, gl_sl_self, gl_sl_ne, if_true, if_false, ns_i0, ns_i1, ns_i2, ns_i3, ns_i4, ns_i5, ns_i6, ns_i7, ns_i8, ns_i9, ns_i10, ns_i11, ns_i12, ns_i13, ns_i20, ns_i23, ns_i24, ns_i31, ns_i50, ns_i60, ns_i99, ns_i100, ns_i144, ns_i200, ns_i255, ns_i700, ns_i880, ns_i899, ns_i900, ns_i901, ns_i999, ns_i1000, ns_i1440, ns_i4095, ns_i1000000, this, e1]) (s := q3) ⟨o3, sa_rf⟩
    have e4 : f_X6_choose_64 (nI d) k (nI 0) q3 = f_X6_choose_64 (nI d) k (nI P.length) q4 := e4
    obtain ⟨q5, e5, h5, p5, o5⟩ := settle_ hk hd o4
    have f5 := fr_X6_settle e5
    have e6 : f_X6_choose_64 (nI d) k (nI 0) q3 = some (0, q5) := by
      rw [e4, e_X6_choose_64]
      have := o4.1.1.2.2.1
      simp (disch := omega) only [↓reduceIte, ↓ns_m1, ns_let, ns_lef, ns_ltt, ns_ltf, ns_eqt, ns_eqf, ns_gd, nI_clamp, nI_add, pk_sub, pk_mul, ns_m1a, ns_m1b, ns_m1c, ns_m1d, ns_m1e, ns_m1f, ns_m1g, ns_un1, ns_un0, ns_day1, Option.bind_some, gi_si_self, gi_si_ne, gl_si, gi_sl, gl_sl_self, gl_sl_ne, if_true, if_false, ns_i0, ns_i1, ns_i2, ns_i3, ns_i4, ns_i5, ns_i6, ns_i7, ns_i8, ns_i9, ns_i10, ns_i11, ns_i12, ns_i13, ns_i20, ns_i23, ns_i24, ns_i31, ns_i50, ns_i60, ns_i99, ns_i100, ns_i144, ns_i200, ns_i255, ns_i700, ns_i880, ns_i899, ns_i900, ns_i901, ns_i999, ns_i1000, ns_i1440, ns_i4095, ns_i1000000, this, e5]
    -- what stays, from m on
    have st1 : sa_ [(82, 82, 10), (87, 91, 0)] (si_ (si_ m 83 d (nI st)) 84 d k) q4 := sa_t (sa_t (sa_t (sa_up (by rfl) f1) (sa_up (by rfl) f2)) (sa_up (by rfl) f3)) (sa_up (by rfl) f4)
    refine ⟨q5, q1, q2, q3, e1, e2, e3, e6, kwc_ag o4.1 (sa_ag (by rfl) f5), ⟨?_, fun e he => ?_⟩, ?_, ?_, fun e he => ⟨?_, ?_⟩⟩
    · rw [sa_gi f5 (by rfl), sa_gi st1 (by rfl), gi_si_ne (by omega), gi_si_ne (by omega)]
      exact c1
    · by_cases ed : e = d
      · subst ed
        refine ⟨st, ?_, Nat.le_refl _, fun _ => ?_⟩
        · rw [sa_gi f5 (by rfl), sa_gi st1 (by rfl), gi_si_ne (by omega), gi_si_self]
        · have e84 : gi_ q5 84 e = k := by rw [sa_gi f5 (by rfl), sa_gi st1 (by rfl), gi_si_self]
          rw [e84]
          exact h5
      · obtain ⟨se, t1, t2, t3⟩ := c2 e he
        refine ⟨se, ?_, t2, fun q => ?_⟩
        · rw [sa_gi f5 (by rfl), sa_gi st1 (by rfl), gi_si_ne (by omega), gi_si_ne (by omega)]
          exact t1
        · have e84 : gi_ q5 84 e = gi_ m 84 e := by rw [sa_gi f5 (by rfl), sa_gi st1 (by rfl), gi_si_ne (by omega), gi_si_ne (by omega)]
          rw [e84]
          refine chs_cg (t3 q) ?_ fun r hr => ?_
          · rw [p5 e ed, sa_gi st1 (by rfl), gi_si_ne (by omega), gi_si_ne (by omega)]
          · rw [o5 r fun x => ed (rdn_dj hr x), sa_gi st1 (by rfl), gi_si_ne (by omega), gi_si_ne (by omega)]
    · rw [sa_gi f5 (by rfl), sa_gi st1 (by rfl), gi_si_ne (by omega), gi_si_self]
    · rw [sa_gi f5 (by rfl), sa_gi st1 (by rfl), gi_si_self]
    · rw [sa_gi f5 (by rfl), sa_gi st1 (by rfl), gi_si_ne (by omega), gi_si_ne (by omega)]
    · rw [sa_gi f5 (by rfl), sa_gi st1 (by rfl), gi_si_ne (by omega), gi_si_ne (by omega)]
  unfold f_X6_choose
  by_cases cs : sd = st
  · by_cases ck : gi_ m 84 d = k
    · refine ⟨m, ?_, hm, ⟨c1, c2⟩, by rw [s1, cs], ck, fun e _ => ⟨rfl, rfl⟩⟩
      simp (disch := omega) only [↓reduceIte, ↓ns_m1, ns_let, ns_lef, ns_ltt, ns_ltf, ns_eqt, ns_eqf, ns_gd, nI_clamp, nI_add, pk_sub, pk_mul, ns_m1a, ns_m1b, ns_m1c, ns_m1d, ns_m1e, ns_m1f, ns_m1g, ns_un1, ns_un0, ns_day1, Option.bind_some, gi_si_self, gi_si_ne, gl_si, gi_sl, gl_sl_self, gl_sl_ne, if_true, if_false, ns_i0, ns_i1, ns_i2, ns_i3, ns_i4, ns_i5, ns_i6, ns_i7, ns_i8, ns_i9, ns_i10, ns_i11, ns_i12, ns_i13, ns_i20, ns_i23, ns_i24, ns_i31, ns_i50, ns_i60, ns_i99, ns_i100, ns_i144, ns_i200, ns_i255, ns_i700, ns_i880, ns_i899, ns_i900, ns_i901, ns_i999, ns_i1000, ns_i1440, ns_i4095, ns_i1000000, c1, s1, cs, ck]
    · obtain ⟨m1, q1, q2, q3, e1, e2, e3, e4, h1, h2, h3⟩ := anew
      refine ⟨m1, ?_, h1, h2, h3⟩
      simp (disch := omega) only [↓reduceIte, ↓ns_m1, ns_let, ns_lef, ns_ltt, ns_ltf, ns_eqt, ns_eqf, ns_gd, nI_clamp, nI_add, pk_sub, pk_mul, ns_m1a, ns_m1b, ns_m1c, ns_m1d, ns_m1e, ns_m1f, ns_m1g, ns_un1, ns_un0, ns_day1, Option.bind_some, gi_si_self, gi_si_ne, gl_si, gi_sl, gl_sl_self, gl_sl_ne, if_true, if_false, ns_i0, ns_i1, ns_i2, ns_i3, ns_i4, ns_i5, ns_i6, ns_i7, ns_i8, ns_i9, ns_i10, ns_i11, ns_i12, ns_i13, ns_i20, ns_i23, ns_i24, ns_i31, ns_i50, ns_i60, ns_i99, ns_i100, ns_i144, ns_i200, ns_i255, ns_i700, ns_i880, ns_i899, ns_i900, ns_i901, ns_i999, ns_i1000, ns_i1440, ns_i4095, ns_i1000000, c1, s1, cs, ck, e1, e2, e3, e4]
  · obtain ⟨m1, q1, q2, q3, e1, e2, e3, e4, h1, h2, h3⟩ := anew
    refine ⟨m1, ?_, h1, h2, h3⟩
    simp (disch := omega) only [↓reduceIte, ↓ns_m1, ns_let, ns_lef, ns_ltt, ns_ltf, ns_eqt, ns_eqf, ns_gd, nI_clamp, nI_add, pk_sub, pk_mul, ns_m1a, ns_m1b, ns_m1c, ns_m1d, ns_m1e, ns_m1f, ns_m1g, ns_un1, ns_un0, ns_day1, Option.bind_some, gi_si_self, gi_si_ne, gl_si, gi_sl, gl_sl_self, gl_sl_ne, if_true, if_false, ns_i0, ns_i1, ns_i2, ns_i3, ns_i4, ns_i5, ns_i6, ns_i7, ns_i8, ns_i9, ns_i10, ns_i11, ns_i12, ns_i13, ns_i20, ns_i23, ns_i24, ns_i31, ns_i50, ns_i60, ns_i99, ns_i100, ns_i144, ns_i200, ns_i255, ns_i700, ns_i880, ns_i899, ns_i900, ns_i901, ns_i999, ns_i1000, ns_i1440, ns_i4095, ns_i1000000, c1, s1, e1, e2, e3, e4]
theorem upto_ {W : List (Nat × Nat × Nat)} {P : pl_} {F : List fa_} {T : Nat} {C : List (Nat × Nat × Nat)} (hk : kok_ W P F T C) {st : Nat} (hst : st < 2 ^ 20) {m : fm_} (hm : kwc_ W P F T C m) (hc : cch_ W P F C st m) {d : Nat} (hd : d < 100) (k : Int32) : ∃ m1, f_X6_chooseUpTo (nI d) k m = some (0, m1) ∧ kwc_ W P F T C m1 ∧ cch_ W P F C st m1 ∧ ∀ e, e ≤ d → chs_ W P F C e k m1 := by
  obtain ⟨m1, e1, w1, c1, h1⟩ := lp0_ (n := d + 1) (F := fun i m => f_X6_chooseUpTo_2 (nI d) k (nI i) m) (I := fun i m => kwc_ W P F T C m ∧ cch_ W P F C st m ∧ ∀ e, e < i → gi_ m 83 e = nI st ∧ gi_ m 84 e = k) (fun i m0 hi hI => by
    obtain ⟨i1, i2, i3⟩ := hI
    obtain ⟨m1, e1, w1, c1, s1, s2, s3⟩ := choose2_ hk hst i1 i2 (show i < 100 by omega) k
    refine ⟨m1, ?_, w1, c1, fun e he => ?_⟩
    · show f_X6_chooseUpTo_2 (nI d) k (nI i) m0 = f_X6_chooseUpTo_2 (nI d) k (nI (i + 1)) m1
      rw [e_X6_chooseUpTo_2]
      simp (disch := omega) only [↓reduceIte, ↓ns_m1, ns_let, ns_lef, ns_ltt, ns_ltf, ns_eqt, ns_eqf, ns_gd, nI_clamp, nI_add, pk_sub, pk_mul, ns_m1a, ns_m1b, ns_m1c, ns_m1d, ns_m1e, ns_m1f, ns_m1g, ns_un1, ns_un0, ns_day1, Option.bind_some, gi_si_self, gi_si_ne, gl_si, gi_sl, gl_sl_self, gl_sl_ne, if_true, if_false, ns_i0, ns_i1, ns_i2, ns_i3, ns_i4, ns_i5, ns_i6, ns_i7, ns_i8, ns_i9, ns_i10, ns_i11, ns_i12, ns_i13, ns_i20, ns_i23, ns_i24, ns_i31, ns_i50, ns_i60, ns_i99, ns_i100, ns_i144, ns_i200, ns_i255, ns_i700, ns_i880, ns_i899, ns_i900, ns_i901, ns_i999, ns_i1000, ns_i1440, ns_i4095, ns_i1000000, e1]
    · by_cases c : e = i
      · rw [c]; exact ⟨s1, s2⟩
      · have := i3 e (by omega)
        rw [(s3 e c).1, (s3 e c).2]
        exact this) (s := m) ⟨hm, hc, fun e he => absurd he (Nat.not_lt_zero _)⟩
  have e1 : f_X6_chooseUpTo_2 (nI d) k (nI 0) m = f_X6_chooseUpTo_2 (nI d) k (nI (d + 1)) m1 := e1
  refine ⟨m1, ?_, w1, c1, fun e he => ?_⟩
  · show f_X6_chooseUpTo_2 (nI d) k (nI 0) m = _
    rw [e1, e_X6_chooseUpTo_2]
    simp (disch := omega) only [↓reduceIte, ↓ns_m1, ns_let, ns_lef, ns_ltt, ns_ltf, ns_eqt, ns_eqf, ns_gd, nI_clamp, nI_add, pk_sub, pk_mul, ns_m1a, ns_m1b, ns_m1c, ns_m1d, ns_m1e, ns_m1f, ns_m1g, ns_un1, ns_un0, ns_day1, Option.bind_some, gi_si_self, gi_si_ne, gl_si, gi_sl, gl_sl_self, gl_sl_ne, if_true, if_false, ns_i0, ns_i1, ns_i2, ns_i3, ns_i4, ns_i5, ns_i6, ns_i7, ns_i8, ns_i9, ns_i10, ns_i11, ns_i12, ns_i13, ns_i20, ns_i23, ns_i24, ns_i31, ns_i50, ns_i60, ns_i99, ns_i100, ns_i144, ns_i200, ns_i255, ns_i700, ns_i880, ns_i899, ns_i900, ns_i901, ns_i999, ns_i1000, ns_i1440, ns_i4095, ns_i1000000]
  · obtain ⟨sd, t1, t2, t3⟩ := c1.2 e (by omega)
    obtain ⟨u1, u2⟩ := h1 e (by omega)
    have : sd = st := (nI_eq (by omega) (by omega)).mp (t1.symm.trans u1)
    have t3 := t3 this
    rw [u2] at t3
    exact t3
/-! ===== orders, all of them ===== -/
def loc_ (O : List od_) (m : fm_) : Prop := oc1_ O m ∧ ∀ j d, O[j]? = some d → orc_ (32 + 6 * j) d m
def lom_ (O : List od_) (m : fm_) : Prop := om1_ O m ∧ ∀ j d, O[j]? = some d → orm_ j d m
def locd_ : List (Nat × Nat × Nat) := [(30, 30, 2), (32, 36, 0), (38, 42, 0), (44, 48, 0), (50, 54, 0), (56, 60, 0), (62, 66, 0)]
def lomd_ : List (Nat × Nat × Nat) := [(106, 106, 34), (122, 133, 0)]
theorem locd_i {j : Nat} (hj : j < 6) : (32 + 6 * j, 36 + 6 * j, 0) ∈ locd_ := by
  have : ∀ j, j < 6 → (32 + 6 * j, 36 + 6 * j, 0) ∈ locd_ := by decide
  exact this j hj
theorem loc_ag {O : List od_} (hO : O.length ≤ 6) {m m1 : fm_} (h : loc_ O m) (ha : ag_ locd_ m m1) : loc_ O m1 := by
  have key : ∀ j, j < 6 → ∀ a k, 32 + 6 * j ≤ a → a ≤ 32 + 6 * j + 4 → gi_ m1 a k = gi_ m a k := fun j hj a k h1 h2 => (ha a k (wi_r (locd_i hj) h1 (by show a ≤ 36 + 6 * j; omega) (Or.inl rfl))).1
  refine ⟨⟨(ha 30 1 rfl).1.trans h.1.1, fun j o hj => ?_⟩, fun j d hj => ?_⟩
  · have hjl := (List.getElem?_eq_some_iff.mp hj).1
    have := h.1.2 j o hj
    exact ⟨(key j (by omega) _ _ (by omega) (by omega)).trans this.1, fun k hk => (key j (by omega) _ _ (by omega) (by omega)).trans (this.2 k hk)⟩
  · have hjl := (List.getElem?_eq_some_iff.mp hj).1
    exact orc_fr (h.2 j d hj) fun a k h1 h2 => key j (by omega) a k h1 (by omega)
theorem lom_ag {O : List od_} {m m1 : fm_} (h : lom_ O m) (ha : ag_ lomd_ m m1) : lom_ O m1 := by
  have key : ∀ a k, 122 ≤ a → a ≤ 133 → gi_ m1 a k = gi_ m a k := fun a k h1 h2 => (ha a k (wi_r (q := (122, 133, 0)) (by decide) h1 h2 (Or.inl rfl))).1
  refine ⟨⟨(ha 106 33 rfl).1.trans h.1.1, fun j o hj => ?_⟩, fun j d hj => orm_fr (h.2 j d hj) key⟩
  have := h.1.2 j o hj
  exact ⟨(key _ _ (by omega) (by omega)).trans this.1, fun k hk => (key _ _ (by omega) (by omega)).trans (this.2 k hk)⟩
def oko_ (O : List od_) : Prop := ok1_ O ∧ ∀ d ∈ O, ook_ d
/-! ===== classOf ===== -/
def cof_ (O : List od_) (F : List fa_) (p d : Nat) (k : Int32) : Nat := match inf_ O d O.length with
  | none => 0
  | some j => match O[j]? with
    | none => 0
    | some o => cby_ (uwp_ (pdg_ F p d k) d) o.2.2.2.2.1
def scl_ (O : List od_) (P : pl_) (F : List fa_) (x y k : Int32) : Int32 := match nat_ x P.length, nat_ y 100 with
  | some p, some d => nI (cof_ O F p d k)
  | _, _ => -1
theorem askc_5 {D d : Nat} {m : fm_} (h : ∀ w, 1 ≤ w → w ≤ 5 → gi_ m 93 (w - 1) = uwp_ D d w) : askc_ alc_ (uwp_ D d) m := fun w hw => by
  have := of_decide_eq_true hw
  exact h w this.1 this.2
theorem cof_c {O : List od_} (hO : oko_ O) {F : List fa_} {T : Nat} (hF : fw_ F T) {m : fm_} (hm : loc_ O m) (hf : fc_ F T m) {p d : Nat} (hp : p < 10) (hd : d < 100) (k : Int32) : ∃ m1, f_X2_classOn (nI p) (nI d) k m = some (nI (cof_ O F p d k), m1) := by
  have hl := hO.1.1
  unfold f_X2_classOn cof_
  rw [inf_c hO.1 hm.1 hd]
  simp only [Option.bind_some]
  cases hb : inf_ O d O.length with
  | none => exact ⟨m, rfl⟩
  | some j =>
    have hj := (inf_u _ _ hb).1
    have e := List.getElem?_eq_getElem hj
    generalize O[j] = o at e
    obtain ⟨m1, e1, a1⟩ := ask_c hF hf hp hd k
    have f1 := fr_X2_ask e1
    have hm1 : loc_ O m1 := loc_ag hl hm (sa_ag (by rfl) f1)
    obtain ⟨m2, e2, _⟩ := cby_c (o := 32 + 6 * j) (by omega) (hO.2 o (List.mem_of_getElem? e)) (uw := uwp_ (pdg_ F p d k) d) _ 0 m1 (by omega) rfl (hm1.2 j o e) (askc_5 a1)
    have e2 : f_X4_classBy (32 + 6 * j) m1 = some (nI (cby_ (uwp_ (pdg_ F p d k) d) o.2.2.2.2.1), m2) := e2
    simp only [e]
    refine ⟨m2, ?_⟩
    show gd_ (is_O (32 + 6 * j)) _ = _
    rw [gd_t (isO_ (by omega)), e1]
    simp only [Option.bind_some]
    rw [e2]
    rfl
theorem clo_c {O : List od_} (hO : oko_ O) {F : List fa_} {T : Nat} (hF : fw_ F T) {P : pl_} (hP : P.length ≤ 10) {m : fm_} (hm : loc_ O m) (hf : fc_ F T m) (hp : pc_ P m) (x y k : Int32) : ∃ m1, f_X11_classOf x y k m = some (scl_ O P F x y k, m1) := by
  unfold f_X11_classOf scl_
  rw [ipd_c hp]
  rcases nat_ix x (n := P.length) (by omega) with ⟨e1, _⟩ | ⟨p, hp, rfl, e1, -⟩
  · rw [e1]
    exact ⟨m, rfl⟩
  rcases nat_ix y (n := 100) (by omega) with ⟨e2, _⟩ | ⟨d, hd, rfl, e2, -⟩
  · rw [e1, e2]
    exact ⟨m, rfl⟩
  obtain ⟨m1, q1⟩ := cof_c hO hF hm hf (show p < 10 by omega) hd k
  rw [e1, e2]
  simp only [Option.isSome_some, Bool.and_self, if_true]
  simp (disch := omega) only [↓reduceIte, ↓ns_m1, ns_let, ns_lef, ns_ltt, ns_ltf, ns_eqt, ns_eqf, ns_gd, nI_clamp, nI_add, pk_sub, pk_mul, ns_m1a, ns_m1b, ns_m1c, ns_m1d, ns_m1e, ns_m1f, ns_m1g, ns_un1, ns_un0, ns_day1, Option.bind_some, gi_si_self, gi_si_ne, gl_si, gi_sl, gl_sl_self, gl_sl_ne, if_true, if_false, ns_i0, ns_i1, ns_i2, ns_i3, ns_i4, ns_i5, ns_i6, ns_i7, ns_i8, ns_i9, ns_i10, ns_i11, ns_i12, ns_i13, ns_i20, ns_i23, ns_i24, ns_i31, ns_i50, ns_i60, ns_i99, ns_i100, ns_i144, ns_i200, ns_i255, ns_i700, ns_i880, ns_i899, ns_i900, ns_i901, ns_i999, ns_i1000, ns_i1440, ns_i4095, ns_i1000000, q1]
  exact ⟨_, rfl⟩
theorem askm_5 {D d : Nat} {m : fm_} (h : ∀ w, 1 ≤ w → w ≤ 5 → gi_ m 136 w = uwp_ D d w) : askm_ alc_ (uwp_ D d) m := fun w hw => by
  have := of_decide_eq_true hw
  exact h w this.1 this.2
/-- the reference's class on a day, orders j being in force -/
theorem cbj_m {O : List od_} (hO : oko_ O) {F : List fa_} {T : Nat} (hF : fw_ F T) {m : fm_} (hm : lom_ O m) (hf : fm1s_ F T m) {p d j : Nat} {o : od_} (hp : p < 10) (hd : d < 100) (k : Int32) (hj : O[j]? = some o) : ∃ m1, f_X12_classBy (nI j) (nI p) (nI d) k m = some (nI (cby_ (uwp_ (pdg_ F p d k) d) o.2.2.2.2.1), m1) ∧ ∀ w, 1 ≤ w → w ≤ 5 → gi_ m1 136 w = uwp_ (pdg_ F p d k) d w := by
  have hl := hO.1.1
  have hjl := (List.getElem?_eq_some_iff.mp hj).1
  obtain ⟨m1, e1, a1⟩ := ask_m hF hf hp hd k
  have f1 := fr_X12_paper e1
  have hm1 : lom_ O m1 := lom_ag hm (sa_ag (by rfl) f1)
  obtain ⟨m2, e2, f2⟩ := cby_m (j := j) (by omega) (hO.2 o (List.mem_of_getElem? hj)) (uw := uwp_ (pdg_ F p d k) d) (x2 := nI p) (x3 := nI d) (x4 := k) _ 0 m1 (by omega) rfl (hm1.2 j o hj) (askm_5 a1)
  refine ⟨m2, ?_, fun w h1 h5 => (f2 _ _ (by omega)).trans (a1 w h1 h5)⟩
  unfold f_X12_classBy
  rw [e1]
  exact e2
theorem clo_m {O : List od_} (hO : oko_ O) {F : List fa_} {T : Nat} (hF : fw_ F T) {P : pl_} (hP : P.length ≤ 10) {m : fm_} (hm : lom_ O m) (hf : fm1s_ F T m) (hp : pm_ P m) (x y k : Int32) : ∃ m1, f_X12_classOf x y k m = some (scl_ O P F x y k, m1) := by
  unfold f_X12_classOf scl_
  rw [isp_m hp]
  simp only [Option.bind_some]
  rcases nat_ix x (n := P.length) (by omega) with ⟨e1, _⟩ | ⟨p, hp, rfl, e1, -⟩
  · rw [if_pos (bu_0 e1), e1]
    exact ⟨m, rfl⟩
  rw [if_neg (bu_ne e1), e1, day_m]
  simp only [Option.bind_some]
  rcases nat_ix y (n := 100) (by omega) with ⟨e2, _⟩ | ⟨d, hd, rfl, e2, -⟩
  · rw [if_pos (bu_0 e2), e2]
    exact ⟨m, rfl⟩
  rw [if_neg (bu_ne e2), e2, inf_m hO.1 hm.1 hd]
  simp only [Option.bind_some]
  unfold cof_
  have hl := hO.1.1
  cases hb : inf_ O d O.length with
  | none => exact ⟨m, rfl⟩
  | some j =>
    have hj := (inf_u _ _ hb).1
    have e := List.getElem?_eq_getElem hj
    generalize O[j] = o at e
    obtain ⟨m1, q1, _⟩ := cbj_m hO hF hm hf (show p < 10 by omega) hd k e
    simp only [e]
    have en : en1_ (some j) = nI j := rfl
    simp (disch := omega) only [↓reduceIte, ↓ns_m1, ns_let, ns_lef, ns_ltt, ns_ltf, ns_eqt, ns_eqf, ns_gd, nI_clamp, nI_add, pk_sub, pk_mul, ns_m1a, ns_m1b, ns_m1c, ns_m1d, ns_m1e, ns_m1f, ns_m1g, ns_un1, ns_un0, ns_day1, Option.bind_some, gi_si_self, gi_si_ne, gl_si, gi_sl, gl_sl_self, gl_sl_ne, if_true, if_false, ns_i0, ns_i1, ns_i2, ns_i3, ns_i4, ns_i5, ns_i6, ns_i7, ns_i8, ns_i9, ns_i10, ns_i11, ns_i12, ns_i13, ns_i20, ns_i23, ns_i24, ns_i31, ns_i50, ns_i60, ns_i99, ns_i100, ns_i144, ns_i200, ns_i255, ns_i700, ns_i880, ns_i899, ns_i900, ns_i901, ns_i999, ns_i1000, ns_i1440, ns_i4095, ns_i1000000, en, q1]
    exact ⟨_, rfl⟩
