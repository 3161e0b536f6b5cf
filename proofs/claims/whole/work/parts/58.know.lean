/-! ===== the reference knows: the row of readings, then the search ===== -/
def rowm_ (R : List Nat) (m : fm_) : Prop := gi_ m 106 77 = nI R.length ∧ ∀ j r, R[j]? = some r → gi_ m 151 j = nI r
theorem know7_ {W : List (Nat × Nat × Nat)} {P : pl_} {F : List fa_} {T : Nat} {C : List (Nat × Nat × Nat)} (hk : kok_ W P F T C) {m : fm_} (hm : kwm_ W P F T C m) {d : Nat} (hd : d < 100) (k : Int32) : ∃ m1, f_X12_know_7 (nI d) k (nI 0) (si_ m 106 77 (nI 0)) = f_X12_know_7 (nI d) k (nI F.length) m1 ∧ kwm_ W P F T C m1 ∧ rowm_ (rdk_ F d k F.length) m1 := by
  obtain ⟨hW, hP, hF, hC, hR⟩ := id hk
  have hl := hF.1
  refine lp0_ (n := F.length) (F := fun i m => f_X12_know_7 (nI d) k (nI i) m) (I := fun i m => kwm_ W P F T C m ∧ rowm_ (rdk_ F d k i) m) ?_ ⟨kwm_ag hm (sa_ag (w := [(106, 106, 78)]) (by rfl) (sa_si (by rfl) sa_rf)), by rw [gi_si_self]; rfl, fun j r hj => by cases hj⟩
  intro i s hi ⟨i1, i2⟩
  have hq := List.getElem?_eq_getElem hi
  generalize F[i] = q at hq
  have hw := hF.2.2 q (List.mem_of_getElem? hq)
  obtain ⟨g1, g2, g3, g4, g5, g6, g7⟩ := i1.2.1.2.2 i q hq
  have ct := cnt_m hF i1.2.1 hq k
  have l7 : (rdk_ F d k i).length ≤ 7 := by
    have h1 := rdk_len (F := F) (d := d) (k := k) (n := i)
    have h2 := rdn_mono (F := F) (d := d) (n := i) (F.length - i)
    rw [show i + (F.length - i) = F.length by omega] at h2
    have := hR.2 d
    omega
  have es : isrd_ F d i = (decide (q.1 = 1) && decide (q.2.2.2.2.1 = d)) := by unfold isrd_; rw [hq]
  have ec : cnr_ F k i = cn_ q k := by unfold cnr_; rw [hq]
  show ∃ s', f_X12_know_7 (nI d) k (nI i) s = f_X12_know_7 (nI d) k (nI (i + 1)) s' ∧ _
  rw [e_X12_know_7, rdk_s, es, ec]
  have w1 := hw.1
  have w2 := hw.2.2.2.2.1
  by_cases c1 : q.1 = 1
  · by_cases c2 : q.2.2.2.2.1 = d
    · by_cases c3 : cn_ q k = true
      · have eb : b01_ (cn_ q k) = nI 1 := by rw [c3]; rfl
        have ei : (decide (q.1 = 1) && decide (q.2.2.2.2.1 = d) && cn_ q k) = true := by rw [decide_eq_true c1, decide_eq_true c2, c3]; rfl
        rw [if_pos ei]
        simp (disch := omega) only [↓reduceIte, ↓ns_m1, ns_let, ns_lef, ns_ltt, ns_ltf, ns_eqt, ns_eqf, ns_gd, nI_clamp, nI_add, pk_sub, pk_mul, ns_m1a, ns_m1b, ns_m1c, ns_m1d, ns_m1e, ns_m1f, ns_m1g, ns_un1, ns_un0, ns_day1, Option.bind_some, gi_si_self, gi_si_ne, gl_si, gi_sl, gl_sl_self, gl_sl_ne, if_true, if_false, ns_i0, ns_i1, ns_i2, ns_i3, ns_i4, ns_i5, ns_i6, ns_i7, ns_i8, ns_i9, ns_i10, ns_i11, ns_i12, ns_i13, ns_i20, ns_i23, ns_i24, ns_i31, ns_i50, ns_i60, ns_i99, ns_i100, ns_i144, ns_i200, ns_i255, ns_i700, ns_i880, ns_i899, ns_i900, ns_i901, ns_i999, ns_i1000, ns_i1440, ns_i4095, ns_i1000000, i1.2.1.1, g1, g5, ct, eb, i2.1]
        refine ⟨_, rfl, kwm_ag i1 (sa_ag (w := [(151, 151, 0), (106, 106, 78)]) (by rfl) (sa_si (by rfl) (sa_si (by rfl) sa_rf))), ?_, fun j r hj => ?_⟩
        · simp (disch := omega) only [↓reduceIte, ↓ns_m1, ns_let, ns_lef, ns_ltt, ns_ltf, ns_eqt, ns_eqf, ns_gd, nI_clamp, nI_add, pk_sub, pk_mul, ns_m1a, ns_m1b, ns_m1c, ns_m1d, ns_m1e, ns_m1f, ns_m1g, ns_un1, ns_un0, ns_day1, Option.bind_some, gi_si_self, gi_si_ne, gl_si, gi_sl, gl_sl_self, gl_sl_ne, if_true, if_false, ns_i0, ns_i1, ns_i2, ns_i3, ns_i4, ns_i5, ns_i6, ns_i7, ns_i8, ns_i9, ns_i10, ns_i11, ns_i12, ns_i13, ns_i20, ns_i23, ns_i24, ns_i31, ns_i50, ns_i60, ns_i99, ns_i100, ns_i144, ns_i200, ns_i255, ns_i700, ns_i880, ns_i899, ns_i900, ns_i901, ns_i999, ns_i1000, ns_i1440, ns_i4095, ns_i1000000]
          rw [List.length_append]
          rfl
        · rcases ap_get hj with ⟨q1, q2⟩ | ⟨q1, q2⟩
          · have := i2.2 j r q2
            simp (disch := omega) only [↓reduceIte, ↓ns_m1, ns_let, ns_lef, ns_ltt, ns_ltf, ns_eqt, ns_eqf, ns_gd, nI_clamp, nI_add, pk_sub, pk_mul, ns_m1a, ns_m1b, ns_m1c, ns_m1d, ns_m1e, ns_m1f, ns_m1g, ns_un1, ns_un0, ns_day1, Option.bind_some, gi_si_self, gi_si_ne, gl_si, gi_sl, gl_sl_self, gl_sl_ne, if_true, if_false, ns_i0, ns_i1, ns_i2, ns_i3, ns_i4, ns_i5, ns_i6, ns_i7, ns_i8, ns_i9, ns_i10, ns_i11, ns_i12, ns_i13, ns_i20, ns_i23, ns_i24, ns_i31, ns_i50, ns_i60, ns_i99, ns_i100, ns_i144, ns_i200, ns_i255, ns_i700, ns_i880, ns_i899, ns_i900, ns_i901, ns_i999, ns_i1000, ns_i1440, ns_i4095, ns_i1000000, this]
          · rw [q1, q2]
            simp (disch := omega) only [↓reduceIte, ↓ns_m1, ns_let, ns_lef, ns_ltt, ns_ltf, ns_eqt, ns_eqf, ns_gd, nI_clamp, nI_add, pk_sub, pk_mul, ns_m1a, ns_m1b, ns_m1c, ns_m1d, ns_m1e, ns_m1f, ns_m1g, ns_un1, ns_un0, ns_day1, Option.bind_some, gi_si_self, gi_si_ne, gl_si, gi_sl, gl_sl_self, gl_sl_ne, if_true, if_false, ns_i0, ns_i1, ns_i2, ns_i3, ns_i4, ns_i5, ns_i6, ns_i7, ns_i8, ns_i9, ns_i10, ns_i11, ns_i12, ns_i13, ns_i20, ns_i23, ns_i24, ns_i31, ns_i50, ns_i60, ns_i99, ns_i100, ns_i144, ns_i200, ns_i255, ns_i700, ns_i880, ns_i899, ns_i900, ns_i901, ns_i999, ns_i1000, ns_i1440, ns_i4095, ns_i1000000]
      · have eb : b01_ (cn_ q k) = nI 0 := by rw [Bool.eq_false_iff.mpr c3]; rfl
        have ei : ¬ (decide (q.1 = 1) && decide (q.2.2.2.2.1 = d) && cn_ q k) = true := by rw [Bool.and_eq_true]; exact fun x => c3 x.2
        rw [if_neg ei]
        simp (disch := omega) only [↓reduceIte, ↓ns_m1, ns_let, ns_lef, ns_ltt, ns_ltf, ns_eqt, ns_eqf, ns_gd, nI_clamp, nI_add, pk_sub, pk_mul, ns_m1a, ns_m1b, ns_m1c, ns_m1d, ns_m1e, ns_m1f, ns_m1g, ns_un1, ns_un0, ns_day1, Option.bind_some, gi_si_self, gi_si_ne, gl_si, gi_sl, gl_sl_self, gl_sl_ne, if_true, if_false, ns_i0, ns_i1, ns_i2, ns_i3, ns_i4, ns_i5, ns_i6, ns_i7, ns_i8, ns_i9, ns_i10, ns_i11, ns_i12, ns_i13, ns_i20, ns_i23, ns_i24, ns_i31, ns_i50, ns_i60, ns_i99, ns_i100, ns_i144, ns_i200, ns_i255, ns_i700, ns_i880, ns_i899, ns_i900, ns_i901, ns_i999, ns_i1000, ns_i1440, ns_i4095, ns_i1000000, i1.2.1.1, g1, g5, ct, eb]
        exact ⟨_, rfl, i1, i2⟩
    · have ei : ¬ (decide (q.1 = 1) && decide (q.2.2.2.2.1 = d) && cn_ q k) = true := by rw [decide_eq_false c2, Bool.and_false, Bool.false_and]; decide
      rw [if_neg ei]
      simp (disch := omega) only [↓reduceIte, ↓ns_m1, ns_let, ns_lef, ns_ltt, ns_ltf, ns_eqt, ns_eqf, ns_gd, nI_clamp, nI_add, pk_sub, pk_mul, ns_m1a, ns_m1b, ns_m1c, ns_m1d, ns_m1e, ns_m1f, ns_m1g, ns_un1, ns_un0, ns_day1, Option.bind_some, gi_si_self, gi_si_ne, gl_si, gi_sl, gl_sl_self, gl_sl_ne, if_true, if_false, ns_i0, ns_i1, ns_i2, ns_i3, ns_i4, ns_i5, ns_i6, ns_i7, ns_i8, ns_i9, ns_i10, ns_i11, ns_i12, ns_i13, ns_i20, ns_i23, ns_i24, ns_i31, ns_i50, ns_i60, ns_i99, ns_i100, ns_i144, ns_i200, ns_i255, ns_i700, ns_i880, ns_i899, ns_i900, ns_i901, ns_i999, ns_i1000, ns_i1440, ns_i4095, ns_i1000000, i1.2.1.1, g1, g5]
      exact ⟨_, rfl, i1, i2⟩
  · have ei : ¬ (decide (q.1 = 1) && decide (q.2.2.2.2.1 = d) && cn_ q k) = true := by rw [decide_eq_false c1, Bool.false_and, Bool.false_and]; decide
    rw [if_neg ei]
    simp (disch := omega) only [↓reduceIte, ↓ns_m1, ns_let, ns_lef, ns_ltt, ns_ltf, ns_eqt, ns_eqf, ns_gd, nI_clamp, nI_add, pk_sub, pk_mul, ns_m1a, ns_m1b, ns_m1c, ns_m1d, ns_m1e, ns_m1f, ns_m1g, ns_un1, ns_un0, ns_day1, Option.bind_some, gi_si_self, gi_si_ne, gl_si, gi_sl, gl_sl_self, gl_sl_ne, if_true, if_false, ns_i0, ns_i1, ns_i2, ns_i3, ns_i4, ns_i5, ns_i6, ns_i7, ns_i8, ns_i9, ns_i10, ns_i11, ns_i12, ns_i13, ns_i20, ns_i23, ns_i24, ns_i31, ns_i50, ns_i60, ns_i99, ns_i100, ns_i144, ns_i200, ns_i255, ns_i700, ns_i880, ns_i899, ns_i900, ns_i901, ns_i999, ns_i1000, ns_i1440, ns_i4095, ns_i1000000, i1.2.1.1, g1]
    exact ⟨_, rfl, i1, i2⟩
/-! can one more be of a plate? -/
theorem psg_m {P : pl_} {m : fm_} (h : pm_ P m) {p : Nat} (hp : p < P.length) : gl_ m 138 p = psg_ P p := by
  have e := List.getElem?_eq_getElem hp
  rw [(h.2 p _ e).1]
  unfold psg_
  rw [e]
theorem pri_m {W : List (Nat × Nat × Nat)} {P : pl_} {F : List fa_} {T : Nat} {C : List (Nat × Nat × Nat)} (hk : kok_ W P F T C) {m : fm_} (hm : kwm_ W P F T C m) {R : List Nat} {i r p : Nat} {q : fa_} (hr : R[i]? = some r) (hq : F[r]? = some q) (h1 : q.1 = 1) (hp : p < P.length) : f_X12_price (nI r) (nI p) m = some (nI (prr_ F P R i p), m) := by
  have hrl := (List.getElem?_eq_some_iff.mp hq).1
  have hl := hk.2.2.1.1
  have hPl := hk.2.1
  have g := (hm.2.1.2.2 r q hq).2.2.2.2.2.1 h1
  rw [lk_mall (show r < 200 by omega) (show p < 10 by omega) g.2 (psg_m hm.1 hp), lkn_e]
  unfold prr_
  rw [rg_s hr, fq_s hq]
/-- rows of readings that are such -/
def rds_ (F : List fa_) (R : List Nat) : Prop := R.length ≤ 7 ∧ ∀ r ∈ R, ∃ q, F[r]? = some q ∧ q.1 = 1
theorem canb_ {W : List (Nat × Nat × Nat)} {P : pl_} {F : List fa_} {T : Nat} {C : List (Nat × Nat × Nat)} (hk : kok_ W P F T C) {m : fm_} (hm : kwm_ W P F T C m) {R : List Nat} (hR : rds_ F R) (hro : rowm_ R m) {i p : Nat} (hi : i < R.length) (hp : p ≤ P.length) {a : Nat → Nat} (ha : ∀ j, j < i → a j ≤ P.length ∧ gi_ m 152 j = nI (a j)) (hti : gi_ m 152 i = nI p) : f_X12_canBe (nI i) m = some (b01_ (cbf_ P.length (prr_ F P R) (tgg_ W F C R) a i p), m) := by
  have hPl := hk.2.1
  have hl7 := hR.1
  have er := List.getElem?_eq_getElem hi
  generalize R[i] = r at er
  obtain ⟨q, hq, hq1⟩ := hR.2 r (List.mem_of_getElem? er)
  have g1 := hro.2 i r er
  unfold f_X12_canBe cbf_
  by_cases c1 : p = P.length
  · rw [decide_eq_true c1, Bool.true_or]
    simp (disch := omega) only [↓reduceIte, ↓ns_m1, ns_let, ns_lef, ns_ltt, ns_ltf, ns_eqt, ns_eqf, ns_gd, nI_clamp, nI_add, pk_sub, pk_mul, ns_m1a, ns_m1b, ns_m1c, ns_m1d, ns_m1e, ns_m1f, ns_m1g, ns_un1, ns_un0, ns_day1, Option.bind_some, gi_si_self, gi_si_ne, gl_si, gi_sl, gl_sl_self, gl_sl_ne, if_true, if_false, ns_i0, ns_i1, ns_i2, ns_i3, ns_i4, ns_i5, ns_i6, ns_i7, ns_i8, ns_i9, ns_i10, ns_i11, ns_i12, ns_i13, ns_i20, ns_i23, ns_i24, ns_i31, ns_i50, ns_i60, ns_i99, ns_i100, ns_i144, ns_i200, ns_i255, ns_i700, ns_i880, ns_i899, ns_i900, ns_i901, ns_i999, ns_i1000, ns_i1440, ns_i4095, ns_i1000000, hti, hm.1.1]
    rfl
  · rw [decide_eq_false c1, Bool.false_or]
    have hp2 : p < P.length := by omega
    have pr := pri_m hk hm er hq hq1 hp2
    have pb := lkn_b (fq_ F (rg_ R i)).2.2.2.2.2.2 (psg_ P p)
    have pb : prr_ F P R i p ≤ 2 ∨ prr_ F P R i p = 9 := pb
    by_cases c2 : prr_ F P R i p = 9
    · rw [decide_eq_true c2]
      simp (disch := omega) only [↓reduceIte, ↓ns_m1, ns_let, ns_lef, ns_ltt, ns_ltf, ns_eqt, ns_eqf, ns_gd, nI_clamp, nI_add, pk_sub, pk_mul, ns_m1a, ns_m1b, ns_m1c, ns_m1d, ns_m1e, ns_m1f, ns_m1g, ns_un1, ns_un0, ns_day1, Option.bind_some, gi_si_self, gi_si_ne, gl_si, gi_sl, gl_sl_self, gl_sl_ne, if_true, if_false, ns_i0, ns_i1, ns_i2, ns_i3, ns_i4, ns_i5, ns_i6, ns_i7, ns_i8, ns_i9, ns_i10, ns_i11, ns_i12, ns_i13, ns_i20, ns_i23, ns_i24, ns_i31, ns_i50, ns_i60, ns_i99, ns_i100, ns_i144, ns_i200, ns_i255, ns_i700, ns_i880, ns_i899, ns_i900, ns_i901, ns_i999, ns_i1000, ns_i1440, ns_i4095, ns_i1000000, hti, hm.1.1, g1, pr]
      rfl
    · rw [decide_eq_false c2]
      show _ = some (b01_ (true && tgl_ (tgg_ W F C R) a p i i), m)
      rw [Bool.true_and]
      obtain ⟨x, e, hx⟩ := lp0_ (n := i) (F := fun j x => f_X12_canBe_40 (nI i) (nI p) x (nI j) m) (I := fun j x => x = b01_ (tgl_ (tgg_ W F C R) a p i j)) (fun j x hj hx => by
        have hx : x = b01_ (tgl_ (tgg_ W F C R) a p i j) := hx
        subst hx
        have ej := List.getElem?_eq_getElem (show j < R.length by omega)
        generalize R[j] = rj at ej
        obtain ⟨qj, hqj, hqj1⟩ := hR.2 rj (List.mem_of_getElem? ej)
        have gj := hro.2 j rj ej
        have tg := tog_m hk hm hqj hqj1 hq hq1
        have et : tgg_ W F C R j i = tgr_ W F C rj r := by unfold tgg_; rw [rg_s ej, rg_s er]
        obtain ⟨aj1, aj2⟩ := ha j hj
        have e1 : b01_ true = nI 1 := rfl
        have e0 : b01_ false = nI 0 := rfl
        show ∃ s', f_X12_canBe_40 (nI i) (nI p) (b01_ (tgl_ (tgg_ W F C R) a p i j)) (nI j) m = f_X12_canBe_40 (nI i) (nI p) s' (nI (j + 1)) m ∧ s' = b01_ (tgl_ (tgg_ W F C R) a p i j && (!(decide (a j = p)) || tgg_ W F C R j i))
        cases ct : tgl_ (tgg_ W F C R) a p i j with
        | false =>
          refine ⟨nI 0, ?_, rfl⟩
          have eb : bl_ (nI 0) = true := rfl
          rw [e_X12_canBe_40]
          by_cases cc : i ≤ j + 1
          · simp (disch := omega) only [↓reduceIte, ↓ns_m1, ns_let, ns_lef, ns_ltt, ns_ltf, ns_eqt, ns_eqf, ns_gd, nI_clamp, nI_add, pk_sub, pk_mul, ns_m1a, ns_m1b, ns_m1c, ns_m1d, ns_m1e, ns_m1f, ns_m1g, ns_un1, ns_un0, ns_day1, Option.bind_some, gi_si_self, gi_si_ne, gl_si, gi_sl, gl_sl_self, gl_sl_ne, if_true, if_false, ns_i0, ns_i1, ns_i2, ns_i3, ns_i4, ns_i5, ns_i6, ns_i7, ns_i8, ns_i9, ns_i10, ns_i11, ns_i12, ns_i13, ns_i20, ns_i23, ns_i24, ns_i31, ns_i50, ns_i60, ns_i99, ns_i100, ns_i144, ns_i200, ns_i255, ns_i700, ns_i880, ns_i899, ns_i900, ns_i901, ns_i999, ns_i1000, ns_i1440, ns_i4095, ns_i1000000, e0, gd_t eb]
            rw [e_X12_canBe_40]
            simp (disch := omega) only [↓reduceIte, ↓ns_m1, ns_let, ns_lef, ns_ltt, ns_ltf, ns_eqt, ns_eqf, ns_gd, nI_clamp, nI_add, pk_sub, pk_mul, ns_m1a, ns_m1b, ns_m1c, ns_m1d, ns_m1e, ns_m1f, ns_m1g, ns_un1, ns_un0, ns_day1, Option.bind_some, gi_si_self, gi_si_ne, gl_si, gi_sl, gl_sl_self, gl_sl_ne, if_true, if_false, ns_i0, ns_i1, ns_i2, ns_i3, ns_i4, ns_i5, ns_i6, ns_i7, ns_i8, ns_i9, ns_i10, ns_i11, ns_i12, ns_i13, ns_i20, ns_i23, ns_i24, ns_i31, ns_i50, ns_i60, ns_i99, ns_i100, ns_i144, ns_i200, ns_i255, ns_i700, ns_i880, ns_i899, ns_i900, ns_i901, ns_i999, ns_i1000, ns_i1440, ns_i4095, ns_i1000000, gd_t eb]
          · simp (disch := omega) only [↓reduceIte, ↓ns_m1, ns_let, ns_lef, ns_ltt, ns_ltf, ns_eqt, ns_eqf, ns_gd, nI_clamp, nI_add, pk_sub, pk_mul, ns_m1a, ns_m1b, ns_m1c, ns_m1d, ns_m1e, ns_m1f, ns_m1g, ns_un1, ns_un0, ns_day1, Option.bind_some, gi_si_self, gi_si_ne, gl_si, gi_sl, gl_sl_self, gl_sl_ne, if_true, if_false, ns_i0, ns_i1, ns_i2, ns_i3, ns_i4, ns_i5, ns_i6, ns_i7, ns_i8, ns_i9, ns_i10, ns_i11, ns_i12, ns_i13, ns_i20, ns_i23, ns_i24, ns_i31, ns_i50, ns_i60, ns_i99, ns_i100, ns_i144, ns_i200, ns_i255, ns_i700, ns_i880, ns_i899, ns_i900, ns_i901, ns_i999, ns_i1000, ns_i1440, ns_i4095, ns_i1000000, e0, gd_t eb]
            rw [e_X12_canBe_40]
            simp (disch := omega) only [↓reduceIte, ↓ns_m1, ns_let, ns_lef, ns_ltt, ns_ltf, ns_eqt, ns_eqf, ns_gd, nI_clamp, nI_add, pk_sub, pk_mul, ns_m1a, ns_m1b, ns_m1c, ns_m1d, ns_m1e, ns_m1f, ns_m1g, ns_un1, ns_un0, ns_day1, Option.bind_some, gi_si_self, gi_si_ne, gl_si, gi_sl, gl_sl_self, gl_sl_ne, if_true, if_false, ns_i0, ns_i1, ns_i2, ns_i3, ns_i4, ns_i5, ns_i6, ns_i7, ns_i8, ns_i9, ns_i10, ns_i11, ns_i12, ns_i13, ns_i20, ns_i23, ns_i24, ns_i31, ns_i50, ns_i60, ns_i99, ns_i100, ns_i144, ns_i200, ns_i255, ns_i700, ns_i880, ns_i899, ns_i900, ns_i901, ns_i999, ns_i1000, ns_i1440, ns_i4095, ns_i1000000, gd_t eb]
        | true =>
          rw [e_X12_canBe_40, Bool.true_and, et]
          by_cases ca : a j = p
          · rw [decide_eq_true ca]
            show ∃ s', _ ∧ s' = b01_ (false || tgr_ W F C rj r)
            rw [Bool.false_or]
            cases c4 : tgr_ W F C rj r with
            | true =>
              rw [c4] at tg
              simp (disch := omega) only [↓reduceIte, ↓ns_m1, ns_let, ns_lef, ns_ltt, ns_ltf, ns_eqt, ns_eqf, ns_gd, nI_clamp, nI_add, pk_sub, pk_mul, ns_m1a, ns_m1b, ns_m1c, ns_m1d, ns_m1e, ns_m1f, ns_m1g, ns_un1, ns_un0, ns_day1, Option.bind_some, gi_si_self, gi_si_ne, gl_si, gi_sl, gl_sl_self, gl_sl_ne, if_true, if_false, ns_i0, ns_i1, ns_i2, ns_i3, ns_i4, ns_i5, ns_i6, ns_i7, ns_i8, ns_i9, ns_i10, ns_i11, ns_i12, ns_i13, ns_i20, ns_i23, ns_i24, ns_i31, ns_i50, ns_i60, ns_i99, ns_i100, ns_i144, ns_i200, ns_i255, ns_i700, ns_i880, ns_i899, ns_i900, ns_i901, ns_i999, ns_i1000, ns_i1440, ns_i4095, ns_i1000000, e1, aj2, gj, g1, tg]
              exact ⟨_, rfl, rfl⟩
            | false =>
              rw [c4] at tg
              simp (disch := omega) only [↓reduceIte, ↓ns_m1, ns_let, ns_lef, ns_ltt, ns_ltf, ns_eqt, ns_eqf, ns_gd, nI_clamp, nI_add, pk_sub, pk_mul, ns_m1a, ns_m1b, ns_m1c, ns_m1d, ns_m1e, ns_m1f, ns_m1g, ns_un1, ns_un0, ns_day1, Option.bind_some, gi_si_self, gi_si_ne, gl_si, gi_sl, gl_sl_self, gl_sl_ne, if_true, if_false, ns_i0, ns_i1, ns_i2, ns_i3, ns_i4, ns_i5, ns_i6, ns_i7, ns_i8, ns_i9, ns_i10, ns_i11, ns_i12, ns_i13, ns_i20, ns_i23, ns_i24, ns_i31, ns_i50, ns_i60, ns_i99, ns_i100, ns_i144, ns_i200, ns_i255, ns_i700, ns_i880, ns_i899, ns_i900, ns_i901, ns_i999, ns_i1000, ns_i1440, ns_i4095, ns_i1000000, e1, e0, aj2, gj, g1, tg]
              exact ⟨_, rfl, rfl⟩
          · rw [decide_eq_false ca]
            show ∃ s', _ ∧ s' = b01_ (true || tgr_ W F C rj r)
            rw [Bool.true_or]
            simp (disch := omega) only [↓reduceIte, ↓ns_m1, ns_let, ns_lef, ns_ltt, ns_ltf, ns_eqt, ns_eqf, ns_gd, nI_clamp, nI_add, pk_sub, pk_mul, ns_m1a, ns_m1b, ns_m1c, ns_m1d, ns_m1e, ns_m1f, ns_m1g, ns_un1, ns_un0, ns_day1, Option.bind_some, gi_si_self, gi_si_ne, gl_si, gi_sl, gl_sl_self, gl_sl_ne, if_true, if_false, ns_i0, ns_i1, ns_i2, ns_i3, ns_i4, ns_i5, ns_i6, ns_i7, ns_i8, ns_i9, ns_i10, ns_i11, ns_i12, ns_i13, ns_i20, ns_i23, ns_i24, ns_i31, ns_i50, ns_i60, ns_i99, ns_i100, ns_i144, ns_i200, ns_i255, ns_i700, ns_i880, ns_i899, ns_i900, ns_i901, ns_i999, ns_i1000, ns_i1440, ns_i4095, ns_i1000000, e1, aj2]
            exact ⟨_, rfl, rfl⟩) (s := nI 1) rfl
      have hx : x = b01_ (tgl_ (tgg_ W F C R) a p i i) := hx
      have e : f_X12_canBe_40 (nI i) (nI p) (nI 1) (nI 0) m = f_X12_canBe_40 (nI i) (nI p) x (nI i) m := e
      simp (disch := omega) only [↓reduceIte, ↓ns_m1, ns_let, ns_lef, ns_ltt, ns_ltf, ns_eqt, ns_eqf, ns_gd, nI_clamp, nI_add, pk_sub, pk_mul, ns_m1a, ns_m1b, ns_m1c, ns_m1d, ns_m1e, ns_m1f, ns_m1g, ns_un1, ns_un0, ns_day1, Option.bind_some, gi_si_self, gi_si_ne, gl_si, gi_sl, gl_sl_self, gl_sl_ne, if_true, if_false, ns_i0, ns_i1, ns_i2, ns_i3, ns_i4, ns_i5, ns_i6, ns_i7, ns_i8, ns_i9, ns_i10, ns_i11, ns_i12, ns_i13, ns_i20, ns_i23, ns_i24, ns_i31, ns_i50, ns_i60, ns_i99, ns_i100, ns_i144, ns_i200, ns_i255, ns_i700, ns_i880, ns_i899, ns_i900, ns_i901, ns_i999, ns_i1000, ns_i1440, ns_i4095, ns_i1000000, hti, hm.1.1, g1, pr, e]
      rw [e_X12_canBe_40, hx]
      have eb : bl_ (b01_ (tgl_ (tgg_ W F C R) a p i i)) = true := by cases tgl_ (tgg_ W F C R) a p i i <;> rfl
      simp (disch := omega) only [↓reduceIte, ↓ns_m1, ns_let, ns_lef, ns_ltt, ns_ltf, ns_eqt, ns_eqf, ns_gd, nI_clamp, nI_add, pk_sub, pk_mul, ns_m1a, ns_m1b, ns_m1c, ns_m1d, ns_m1e, ns_m1f, ns_m1g, ns_un1, ns_un0, ns_day1, Option.bind_some, gi_si_self, gi_si_ne, gl_si, gi_sl, gl_sl_self, gl_sl_ne, if_true, if_false, ns_i0, ns_i1, ns_i2, ns_i3, ns_i4, ns_i5, ns_i6, ns_i7, ns_i8, ns_i9, ns_i10, ns_i11, ns_i12, ns_i13, ns_i20, ns_i23, ns_i24, ns_i31, ns_i50, ns_i60, ns_i99, ns_i100, ns_i144, ns_i200, ns_i255, ns_i700, ns_i880, ns_i899, ns_i900, ns_i901, ns_i999, ns_i1000, ns_i1440, ns_i4095, ns_i1000000, gd_t eb]
/-! the search -/
def bp_ (b : bs_) : Int32 := match b with
  | none => -1
  | some q => nI q.1
def ow_ (np p : Nat) : Int32 := if p = np then -1 else nI p
def bst_ (np N : Nat) (b : bs_) (m : fm_) : Prop := gi_ m 106 78 = bp_ b ∧ ∀ q, b = some q → q.1 ≤ 28 ∧ ∀ j, j < N → gi_ m 153 j = ow_ np (q.2 j)
/-- all that holds at depth i -/
def kst_ (W : List (Nat × Nat × Nat)) (P : pl_) (F : List fa_) (T : Nat) (C : List (Nat × Nat × Nat)) (R : List Nat) (i : Nat) (a : Nat → Nat) (b : bs_) (m : fm_) : Prop := kwm_ W P F T C m ∧ rowm_ R m ∧ (∀ j, j < i → a j ≤ P.length ∧ gi_ m 152 j = nI (a j)) ∧ (∀ j, j ≤ i → gi_ m 154 j = nI (cst_ P.length (prr_ F P R) a j)) ∧ bst_ P.length R.length b m
theorem co2_b {F : List fa_} {P : pl_} {R : List Nat} {i p : Nat} (h : ¬ prr_ F P R i p = 9 ∨ p = P.length) : co2_ P.length (prr_ F P R) i p ≤ 4 := by
  unfold co2_
  by_cases e : p = P.length
  · rw [if_pos e]; omega
  · rw [if_neg e]
    have pb : prr_ F P R i p ≤ 2 ∨ prr_ F P R i p = 9 := lkn_b _ _
    omega
theorem cst_4 {W : List (Nat × Nat × Nat)} {C : List (Nat × Nat × Nat)} {F : List fa_} {P : pl_} {R : List Nat} {a : Nat → Nat} : ∀ n, val_ P.length (prr_ F P R) (tgg_ W F C R) a n → cst_ P.length (prr_ F P R) a n ≤ 4 * n
  | 0, _ => Nat.le_refl _
  | n + 1, h => by
    have ih := cst_4 n fun j hj => h j (by omega)
    have hc := cbf_u.mp (h n (by omega)).2
    have := co2_b (F := F) (P := P) (R := R) (i := n) (p := a n) (by
      rcases hc with hc | hc
      · exact Or.inr hc
      · exact Or.inl hc.1)
    show cst_ P.length (prr_ F P R) a n + co2_ P.length (prr_ F P R) n (a n) ≤ _
    omega
/-- one more try at depth i -/
theorem kn_A {x1 x2 : Int32} {i np N : Nat} {m : fm_} (hi : i < N) (hN : N ≤ 7) (hnp : np ≤ 10) (h1 : gi_ m 106 77 = nI N) (h2 : gi_ m 106 57 = nI np) (h3 : gi_ m 152 i + 1 = nI (np + 1)) : f_X12_know_106 x1 x2 (nI i) m = f_X12_know_106 x1 x2 (nI i + M1_) (si_ m 152 i (nI (np + 1))) := by
  have h3 : gi_ m 152 i + nI 1 = nI (np + 1) := h3
  rw [e_X12_know_106]
  simp (disch := omega) only [↓reduceIte, ↓ns_m1, ns_let, ns_lef, ns_ltt, ns_ltf, ns_eqt, ns_eqf, ns_gd, nI_clamp, nI_add, pk_sub, pk_mul, ns_m1a, ns_m1b, ns_m1c, ns_m1d, ns_m1e, ns_m1f, ns_m1g, ns_un1, ns_un0, ns_day1, Option.bind_some, gi_si_self, gi_si_ne, gl_si, gi_sl, gl_sl_self, gl_sl_ne, if_true, if_false, ns_i0, ns_i1, ns_i2, ns_i3, ns_i4, ns_i5, ns_i6, ns_i7, ns_i8, ns_i9, ns_i10, ns_i11, ns_i12, ns_i13, ns_i20, ns_i23, ns_i24, ns_i31, ns_i50, ns_i60, ns_i99, ns_i100, ns_i144, ns_i200, ns_i255, ns_i700, ns_i880, ns_i899, ns_i900, ns_i901, ns_i999, ns_i1000, ns_i1440, ns_i4095, ns_i1000000, h1, h2, h3]
theorem kn_B {x1 x2 : Int32} {i np N p : Nat} {m : fm_} (hi : i < N) (hN : N ≤ 7) (hnp : np ≤ 10) (hp : p ≤ np) (h1 : gi_ m 106 77 = nI N) (h2 : gi_ m 106 57 = nI np) (h3 : gi_ m 152 i + 1 = nI p) (h4 : f_X12_canBe (nI i) (si_ m 152 i (nI p)) = some (nI 0, si_ m 152 i (nI p))) : f_X12_know_106 x1 x2 (nI i) m = f_X12_know_106 x1 x2 (nI i) (si_ m 152 i (nI p)) := by
  have h3 : gi_ m 152 i + nI 1 = nI p := h3
  rw [e_X12_know_106]
  simp (disch := omega) only [↓reduceIte, ↓ns_m1, ns_let, ns_lef, ns_ltt, ns_ltf, ns_eqt, ns_eqf, ns_gd, nI_clamp, nI_add, pk_sub, pk_mul, ns_m1a, ns_m1b, ns_m1c, ns_m1d, ns_m1e, ns_m1f, ns_m1g, ns_un1, ns_un0, ns_day1, Option.bind_some, gi_si_self, gi_si_ne, gl_si, gi_sl, gl_sl_self, gl_sl_ne, if_true, if_false, ns_i0, ns_i1, ns_i2, ns_i3, ns_i4, ns_i5, ns_i6, ns_i7, ns_i8, ns_i9, ns_i10, ns_i11, ns_i12, ns_i13, ns_i20, ns_i23, ns_i24, ns_i31, ns_i50, ns_i60, ns_i99, ns_i100, ns_i144, ns_i200, ns_i255, ns_i700, ns_i880, ns_i899, ns_i900, ns_i901, ns_i999, ns_i1000, ns_i1440, ns_i4095, ns_i1000000, h1, h2, h3, h4]
theorem kn_C {x1 x2 : Int32} {i np N p v x r : Nat} {b : Nat} {m : fm_} (hi : i < N) (hN : N ≤ 7) (hnp : np ≤ 10) (hp : p ≤ np) (h1 : gi_ m 106 77 = nI N) (h2 : gi_ m 106 57 = nI np) (h3 : gi_ m 152 i + 1 = nI p) (h4 : f_X12_canBe (nI i) (si_ m 152 i (nI p)) = some (nI 1, si_ m 152 i (nI p))) (h5 : gi_ m 154 i = nI v) (h6 : gi_ m 106 78 = nI b) (hr : gi_ m 151 i = nI r) (h7 : ¬ p = np → f_X12_price (nI r) (nI p) (si_ m 152 i (nI p)) = some (nI x, si_ m 152 i (nI p))) (h8 : p = np → x = 4) (hx : x ≤ 4) (hv : v ≤ 28) (hb : b ≤ 28) (hbx : b ≤ v + x) : f_X12_know_106 x1 x2 (nI i) m = f_X12_know_106 x1 x2 (nI i) (si_ (si_ m 152 i (nI p)) 154 (i + 1) (nI (v + x))) := by
  have h3 : gi_ m 152 i + nI 1 = nI p := h3
  rw [e_X12_know_106]
  by_cases c : p = np
  · have h8 := h8 c
    subst h8
    simp (disch := omega) only [↓reduceIte, ↓ns_m1, ns_let, ns_lef, ns_ltt, ns_ltf, ns_eqt, ns_eqf, ns_gd, nI_clamp, nI_add, pk_sub, pk_mul, ns_m1a, ns_m1b, ns_m1c, ns_m1d, ns_m1e, ns_m1f, ns_m1g, ns_un1, ns_un0, ns_day1, Option.bind_some, gi_si_self, gi_si_ne, gl_si, gi_sl, gl_sl_self, gl_sl_ne, if_true, if_false, ns_i0, ns_i1, ns_i2, ns_i3, ns_i4, ns_i5, ns_i6, ns_i7, ns_i8, ns_i9, ns_i10, ns_i11, ns_i12, ns_i13, ns_i20, ns_i23, ns_i24, ns_i31, ns_i50, ns_i60, ns_i99, ns_i100, ns_i144, ns_i200, ns_i255, ns_i700, ns_i880, ns_i899, ns_i900, ns_i901, ns_i999, ns_i1000, ns_i1440, ns_i4095, ns_i1000000, h1, h2, h3, h4, h5, h6]
  · have h7 := h7 c
    simp (disch := omega) only [↓reduceIte, ↓ns_m1, ns_let, ns_lef, ns_ltt, ns_ltf, ns_eqt, ns_eqf, ns_gd, nI_clamp, nI_add, pk_sub, pk_mul, ns_m1a, ns_m1b, ns_m1c, ns_m1d, ns_m1e, ns_m1f, ns_m1g, ns_un1, ns_un0, ns_day1, Option.bind_some, gi_si_self, gi_si_ne, gl_si, gi_sl, gl_sl_self, gl_sl_ne, if_true, if_false, ns_i0, ns_i1, ns_i2, ns_i3, ns_i4, ns_i5, ns_i6, ns_i7, ns_i8, ns_i9, ns_i10, ns_i11, ns_i12, ns_i13, ns_i20, ns_i23, ns_i24, ns_i31, ns_i50, ns_i60, ns_i99, ns_i100, ns_i144, ns_i200, ns_i255, ns_i700, ns_i880, ns_i899, ns_i900, ns_i901, ns_i999, ns_i1000, ns_i1440, ns_i4095, ns_i1000000, h1, h2, h3, h4, h5, h6, hr, h7]
theorem kn_D {x1 x2 : Int32} {i np N p v x r : Nat} {b : bs_} {m : fm_} (hi : i + 1 < N) (hN : N ≤ 7) (hnp : np ≤ 10) (hp : p ≤ np) (h1 : gi_ m 106 77 = nI N) (h2 : gi_ m 106 57 = nI np) (h3 : gi_ m 152 i + 1 = nI p) (h4 : f_X12_canBe (nI i) (si_ m 152 i (nI p)) = some (nI 1, si_ m 152 i (nI p))) (h5 : gi_ m 154 i = nI v) (h6 : gi_ m 106 78 = bp_ b) (hr : gi_ m 151 i = nI r) (h7 : ¬ p = np → f_X12_price (nI r) (nI p) (si_ m 152 i (nI p)) = some (nI x, si_ m 152 i (nI p))) (h8 : p = np → x = 4) (hx : x ≤ 4) (hv : v ≤ 28) (hb : ∀ q, b = some q → q.1 ≤ 28 ∧ v + x < q.1) : f_X12_know_106 x1 x2 (nI i) m = f_X12_know_106 x1 x2 (nI (i + 1)) (si_ (si_ (si_ m 152 i (nI p)) 154 (i + 1) (nI (v + x))) 152 (i + 1) M1_) := by
  have h3 : gi_ m 152 i + nI 1 = nI p := h3
  rw [e_X12_know_106]
  cases b with
  | none =>
    have h6 : gi_ m 106 78 = -1 := h6
    by_cases c : p = np
    · have h8 := h8 c
      subst h8
      simp (disch := omega) only [↓reduceIte, ↓ns_m1, ns_let, ns_lef, ns_ltt, ns_ltf, ns_eqt, ns_eqf, ns_gd, nI_clamp, nI_add, pk_sub, pk_mul, ns_m1a, ns_m1b, ns_m1c, ns_m1d, ns_m1e, ns_m1f, ns_m1g, ns_un1, ns_un0, ns_day1, Option.bind_some, gi_si_self, gi_si_ne, gl_si, gi_sl, gl_sl_self, gl_sl_ne, if_true, if_false, ns_i0, ns_i1, ns_i2, ns_i3, ns_i4, ns_i5, ns_i6, ns_i7, ns_i8, ns_i9, ns_i10, ns_i11, ns_i12, ns_i13, ns_i20, ns_i23, ns_i24, ns_i31, ns_i50, ns_i60, ns_i99, ns_i100, ns_i144, ns_i200, ns_i255, ns_i700, ns_i880, ns_i899, ns_i900, ns_i901, ns_i999, ns_i1000, ns_i1440, ns_i4095, ns_i1000000, h1, h2, h3, h4, h5, h6]
    · have h7 := h7 c
      simp (disch := omega) only [↓reduceIte, ↓ns_m1, ns_let, ns_lef, ns_ltt, ns_ltf, ns_eqt, ns_eqf, ns_gd, nI_clamp, nI_add, pk_sub, pk_mul, ns_m1a, ns_m1b, ns_m1c, ns_m1d, ns_m1e, ns_m1f, ns_m1g, ns_un1, ns_un0, ns_day1, Option.bind_some, gi_si_self, gi_si_ne, gl_si, gi_sl, gl_sl_self, gl_sl_ne, if_true, if_false, ns_i0, ns_i1, ns_i2, ns_i3, ns_i4, ns_i5, ns_i6, ns_i7, ns_i8, ns_i9, ns_i10, ns_i11, ns_i12, ns_i13, ns_i20, ns_i23, ns_i24, ns_i31, ns_i50, ns_i60, ns_i99, ns_i100, ns_i144, ns_i200, ns_i255, ns_i700, ns_i880, ns_i899, ns_i900, ns_i901, ns_i999, ns_i1000, ns_i1440, ns_i4095, ns_i1000000, h1, h2, h3, h4, h5, h6, hr, h7]
  | some q =>
    have h6 : gi_ m 106 78 = nI q.1 := h6
    obtain ⟨b1, b2⟩ := hb q rfl
    by_cases c : p = np
    · have h8 := h8 c
      subst h8
      simp (disch := omega) only [↓reduceIte, ↓ns_m1, ns_let, ns_lef, ns_ltt, ns_ltf, ns_eqt, ns_eqf, ns_gd, nI_clamp, nI_add, pk_sub, pk_mul, ns_m1a, ns_m1b, ns_m1c, ns_m1d, ns_m1e, ns_m1f, ns_m1g, ns_un1, ns_un0, ns_day1, Option.bind_some, gi_si_self, gi_si_ne, gl_si, gi_sl, gl_sl_self, gl_sl_ne, if_true, if_false, ns_i0, ns_i1, ns_i2, ns_i3, ns_i4, ns_i5, ns_i6, ns_i7, ns_i8, ns_i9, ns_i10, ns_i11, ns_i12, ns_i13, ns_i20, ns_i23, ns_i24, ns_i31, ns_i50, ns_i60, ns_i99, ns_i100, ns_i144, ns_i200, ns_i255, ns_i700, ns_i880, ns_i899, ns_i900, ns_i901, ns_i999, ns_i1000, ns_i1440, ns_i4095, ns_i1000000, h1, h2, h3, h4, h5, h6]
    · have h7 := h7 c
      simp (disch := omega) only [↓reduceIte, ↓ns_m1, ns_let, ns_lef, ns_ltt, ns_ltf, ns_eqt, ns_eqf, ns_gd, nI_clamp, nI_add, pk_sub, pk_mul, ns_m1a, ns_m1b, ns_m1c, ns_m1d, ns_m1e, ns_m1f, ns_m1g, ns_un1, ns_un0, ns_day1, Option.bind_some, gi_si_self, gi_si_ne, gl_si, gi_sl, gl_sl_self, gl_sl_ne, if_true, if_false, ns_i0, ns_i1, ns_i2, ns_i3, ns_i4, ns_i5, ns_i6, ns_i7, ns_i8, ns_i9, ns_i10, ns_i11, ns_i12, ns_i13, ns_i20, ns_i23, ns_i24, ns_i31, ns_i50, ns_i60, ns_i99, ns_i100, ns_i144, ns_i200, ns_i255, ns_i700, ns_i880, ns_i899, ns_i900, ns_i901, ns_i999, ns_i1000, ns_i1440, ns_i4095, ns_i1000000, h1, h2, h3, h4, h5, h6, hr, h7]
theorem kn_E {x1 x2 : Int32} {i np N p v x r : Nat} {b : bs_} {m : fm_} (hi : i + 1 = N) (hN : N ≤ 7) (hnp : np ≤ 10) (hp : p ≤ np) (h1 : gi_ m 106 77 = nI N) (h2 : gi_ m 106 57 = nI np) (h3 : gi_ m 152 i + 1 = nI p) (h4 : f_X12_canBe (nI i) (si_ m 152 i (nI p)) = some (nI 1, si_ m 152 i (nI p))) (h5 : gi_ m 154 i = nI v) (h6 : gi_ m 106 78 = bp_ b) (hr : gi_ m 151 i = nI r) (h7 : ¬ p = np → f_X12_price (nI r) (nI p) (si_ m 152 i (nI p)) = some (nI x, si_ m 152 i (nI p))) (h8 : p = np → x = 4) (hx : x ≤ 4) (hv : v ≤ 28) (hb : ∀ q, b = some q → q.1 ≤ 28 ∧ v + x < q.1) : f_X12_know_106 x1 x2 (nI i) m = f_X12_know_268 x1 x2 (nI i) (nI 0) (si_ (si_ (si_ m 152 i (nI p)) 154 (i + 1) (nI (v + x))) 106 78 (nI (v + x))) := by
  have h3 : gi_ m 152 i + nI 1 = nI p := h3
  rw [e_X12_know_106]
  cases b with
  | none =>
    have h6 : gi_ m 106 78 = -1 := h6
    by_cases c : p = np
    · have h8 := h8 c
      subst h8
      simp (disch := omega) only [↓reduceIte, ↓ns_m1, ns_let, ns_lef, ns_ltt, ns_ltf, ns_eqt, ns_eqf, ns_gd, nI_clamp, nI_add, pk_sub, pk_mul, ns_m1a, ns_m1b, ns_m1c, ns_m1d, ns_m1e, ns_m1f, ns_m1g, ns_un1, ns_un0, ns_day1, Option.bind_some, gi_si_self, gi_si_ne, gl_si, gi_sl, gl_sl_self, gl_sl_ne, if_true, if_false, ns_i0, ns_i1, ns_i2, ns_i3, ns_i4, ns_i5, ns_i6, ns_i7, ns_i8, ns_i9, ns_i10, ns_i11, ns_i12, ns_i13, ns_i20, ns_i23, ns_i24, ns_i31, ns_i50, ns_i60, ns_i99, ns_i100, ns_i144, ns_i200, ns_i255, ns_i700, ns_i880, ns_i899, ns_i900, ns_i901, ns_i999, ns_i1000, ns_i1440, ns_i4095, ns_i1000000, h1, h2, h3, h4, h5, h6]
    · have h7 := h7 c
      simp (disch := omega) only [↓reduceIte, ↓ns_m1, ns_let, ns_lef, ns_ltt, ns_ltf, ns_eqt, ns_eqf, ns_gd, nI_clamp, nI_add, pk_sub, pk_mul, ns_m1a, ns_m1b, ns_m1c, ns_m1d, ns_m1e, ns_m1f, ns_m1g, ns_un1, ns_un0, ns_day1, Option.bind_some, gi_si_self, gi_si_ne, gl_si, gi_sl, gl_sl_self, gl_sl_ne, if_true, if_false, ns_i0, ns_i1, ns_i2, ns_i3, ns_i4, ns_i5, ns_i6, ns_i7, ns_i8, ns_i9, ns_i10, ns_i11, ns_i12, ns_i13, ns_i20, ns_i23, ns_i24, ns_i31, ns_i50, ns_i60, ns_i99, ns_i100, ns_i144, ns_i200, ns_i255, ns_i700, ns_i880, ns_i899, ns_i900, ns_i901, ns_i999, ns_i1000, ns_i1440, ns_i4095, ns_i1000000, h1, h2, h3, h4, h5, h6, hr, h7]
  | some q =>
    have h6 : gi_ m 106 78 = nI q.1 := h6
    obtain ⟨b1, b2⟩ := hb q rfl
    by_cases c : p = np
    · have h8 := h8 c
      subst h8
      simp (disch := omega) only [↓reduceIte, ↓ns_m1, ns_let, ns_lef, ns_ltt, ns_ltf, ns_eqt, ns_eqf, ns_gd, nI_clamp, nI_add, pk_sub, pk_mul, ns_m1a, ns_m1b, ns_m1c, ns_m1d, ns_m1e, ns_m1f, ns_m1g, ns_un1, ns_un0, ns_day1, Option.bind_some, gi_si_self, gi_si_ne, gl_si, gi_sl, gl_sl_self, gl_sl_ne, if_true, if_false, ns_i0, ns_i1, ns_i2, ns_i3, ns_i4, ns_i5, ns_i6, ns_i7, ns_i8, ns_i9, ns_i10, ns_i11, ns_i12, ns_i13, ns_i20, ns_i23, ns_i24, ns_i31, ns_i50, ns_i60, ns_i99, ns_i100, ns_i144, ns_i200, ns_i255, ns_i700, ns_i880, ns_i899, ns_i900, ns_i901, ns_i999, ns_i1000, ns_i1440, ns_i4095, ns_i1000000, h1, h2, h3, h4, h5, h6]
    · have h7 := h7 c
      simp (disch := omega) only [↓reduceIte, ↓ns_m1, ns_let, ns_lef, ns_ltt, ns_ltf, ns_eqt, ns_eqf, ns_gd, nI_clamp, nI_add, pk_sub, pk_mul, ns_m1a, ns_m1b, ns_m1c, ns_m1d, ns_m1e, ns_m1f, ns_m1g, ns_un1, ns_un0, ns_day1, Option.bind_some, gi_si_self, gi_si_ne, gl_si, gi_sl, gl_sl_self, gl_sl_ne, if_true, if_false, ns_i0, ns_i1, ns_i2, ns_i3, ns_i4, ns_i5, ns_i6, ns_i7, ns_i8, ns_i9, ns_i10, ns_i11, ns_i12, ns_i13, ns_i20, ns_i23, ns_i24, ns_i31, ns_i50, ns_i60, ns_i99, ns_i100, ns_i144, ns_i200, ns_i255, ns_i700, ns_i880, ns_i899, ns_i900, ns_i901, ns_i999, ns_i1000, ns_i1440, ns_i4095, ns_i1000000, h1, h2, h3, h4, h5, h6, hr, h7]
