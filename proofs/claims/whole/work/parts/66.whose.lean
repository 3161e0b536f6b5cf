/-! ===== whose, doubt, isDouble ===== -/
def pos_ (R : List Nat) (r : Nat) : Option Nat := fst_ (fun i => decide (R[i]? = some r)) R.length 0
theorem pos_s {R : List Nat} {r j : Nat} (inj : ∀ i : Nat, R[i]? = some r → i = j) (h : R[j]? = some r) : pos_ R r = some j := by
  unfold pos_
  have hj := (List.getElem?_eq_some_iff.mp h).1
  cases e : fst_ (fun i => decide (R[i]? = some r)) R.length 0 with
  | some i =>
    have := of_decide_eq_true (fst_u _ _ _ e).2.2
    rw [inj i this]
  | none => exact absurd (decide_eq_true h) (fst_no _ _ e j (by omega) (by omega))
theorem pos_n {R : List Nat} {r : Nat} (h : ¬ r ∈ R) : pos_ R r = none := by
  unfold pos_
  cases e : fst_ (fun i => decide (R[i]? = some r)) R.length 0 with
  | none => rfl
  | some i => exact absurd (List.mem_of_getElem? (of_decide_eq_true (fst_u _ _ _ e).2.2)) h
/-- the owner of a reading of a day -/
def owr_ (W : List (Nat × Nat × Nat)) (P : pl_) (F : List fa_) (C : List (Nat × Nat × Nat)) (d : Nat) (k : Int32) (r : Nat) : Int32 := match pos_ (rdk_ F d k F.length) r with
  | none => -1
  | some j => ow_ P.length ((knd_ W P F C (rdk_ F d k F.length)).2 j)
theorem owr_c {W : List (Nat × Nat × Nat)} {P : pl_} {F : List fa_} {C : List (Nat × Nat × Nat)} {d : Nat} {k : Int32} {m : fm_} (h : chs_ W P F C d k m) {r : Nat} (hr : r ∈ rdn_ F d F.length) : gi_ m 86 r = owr_ W P F C d k r := by
  unfold owr_
  by_cases c : r ∈ rdk_ F d k F.length
  · obtain ⟨j, hj⟩ := List.getElem?_of_mem c
    rw [pos_s (fun i hi => rdk_inj hi hj) hj]
    exact h.2.1 j r hj
  · rw [pos_n c]
    exact h.2.2 r hr c
def swh_ (W : List (Nat × Nat × Nat)) (P : pl_) (F : List fa_) (C : List (Nat × Nat × Nat)) (x k : Int32) : Int32 := match rdg_ F x with
  | none => -1
  | some q => owr_ W P F C q.2.2.2.2.2.1 k q.1
theorem rdn_get {F : List fa_} {r : Nat} {q : fa_} (hq : F[r]? = some q) (h1 : q.1 = 1) : ∀ n, r < n → r ∈ rdn_ F q.2.2.2.2.1 n
  | 0, h => by omega
  | n + 1, h => by
    show r ∈ (if isrd_ F q.2.2.2.2.1 n = true then rdn_ F q.2.2.2.2.1 n ++ [n] else rdn_ F q.2.2.2.2.1 n)
    by_cases e : r = n
    · subst e
      have : isrd_ F q.2.2.2.2.1 r = true := by unfold isrd_; rw [hq]; simp [h1]
      rw [if_pos this]
      exact List.mem_append.mpr (Or.inr (List.mem_singleton.mpr rfl))
    · have ih := rdn_get hq h1 n (by omega)
      by_cases c : isrd_ F q.2.2.2.2.1 n = true
      · rw [if_pos c]; exact List.mem_append.mpr (Or.inl ih)
      · rw [if_neg c]; exact ih
theorem whose_c {W : List (Nat × Nat × Nat)} {P : pl_} {F : List fa_} {T : Nat} {C : List (Nat × Nat × Nat)} (hk : kok_ W P F T C) {st : Nat} (hst : st < 2 ^ 20) {m : fm_} (hm : kwc_ W P F T C m) (hc : cch_ W P F C st m) (x k : Int32) : ∃ m1, f_X11_whose x k m = some (swh_ W P F C x k, m1) ∧ kwc_ W P F T C m1 ∧ cch_ W P F C st m1 := by
  unfold f_X11_whose swh_
  rw [isr_c hk.2.2.1 hm.2.1]
  cases e : rdg_ F x with
  | none => exact ⟨m, rfl, hm, hc⟩
  | some q =>
    obtain ⟨j, q⟩ := q
    obtain ⟨rfl, hj, hq, h1⟩ := rdg_u hk.2.2.1.1 e
    have hl := hk.2.2.1.1
    have hw := hk.2.2.1.2.2 q (List.mem_of_getElem? hq)
    have g5 := (hm.2.1.2.2 j q hq).2.2.2.2.1
    obtain ⟨m1, e1, h2, h3, h4⟩ := choose_c hk hst hm hc hw.2.2.2.2.1 k
    obtain ⟨_, _, _, _, _, _, ir⟩ := fr_c hk h2 hq h1
    have ow := owr_c h4 (rdn_get hq h1 F.length hj)
    simp only [Option.isSome_some, if_true]
    unfold f_X6_chosenOwner
    simp (disch := omega) only [↓reduceIte, ↓ns_m1, ns_let, ns_lef, ns_ltt, ns_ltf, ns_eqt, ns_eqf, ns_gd, nI_clamp, nI_add, pk_sub, pk_mul, ns_m1a, ns_m1b, ns_m1c, ns_m1d, ns_m1e, ns_m1f, ns_m1g, ns_un1, ns_un0, ns_day1, Option.bind_some, gi_si_self, gi_si_ne, gl_si, gi_sl, gl_sl_self, gl_sl_ne, if_true, if_false, ns_i0, ns_i1, ns_i2, ns_i3, ns_i4, ns_i5, ns_i6, ns_i7, ns_i8, ns_i9, ns_i10, ns_i11, ns_i12, ns_i13, ns_i20, ns_i23, ns_i24, ns_i31, ns_i50, ns_i60, ns_i99, ns_i100, ns_i144, ns_i200, ns_i255, ns_i700, ns_i880, ns_i899, ns_i900, ns_i901, ns_i999, ns_i1000, ns_i1440, ns_i4095, ns_i1000000, g5, e1, ir, ow]
    exact ⟨_, rfl, h2, h3⟩
theorem w32_ {R : List Nat} {m : fm_} (hR : rowm_ R m) (h7 : R.length ≤ 7) (lt : ∀ r ∈ R, r < 200) {r j : Nat} (hj : R[j]? = some r) (inj : ∀ i : Nat, R[i]? = some r → i = j) {x2 : Int32} : f_X12_whose_32 (nI r) x2 (nI 0) m = some (gi_ m 153 j, m) := by
  have hjl := (List.getElem?_eq_some_iff.mp hj).1
  have r2 := lt r (List.mem_of_getElem? hj)
  obtain ⟨s, e, _⟩ := lp0_ (n := j) (F := fun i (_ : Unit) => f_X12_whose_32 (nI r) x2 (nI i) m) (I := fun _ _ => True) (fun i _ hi _ => by
    refine ⟨(), ?_, trivial⟩
    show f_X12_whose_32 (nI r) x2 (nI i) m = f_X12_whose_32 (nI r) x2 (nI (i + 1)) m
    have ei := List.getElem?_eq_getElem (show i < R.length by omega)
    generalize R[i] = u at ei
    have gu := hR.2 i u ei
    have u2 := lt u (List.mem_of_getElem? ei)
    have ne : ¬ u = r := fun q => by rw [q] at ei; have := inj i ei; omega
    rw [e_X12_whose_32]
    simp (disch := omega) only [↓reduceIte, ↓ns_m1, ns_let, ns_lef, ns_ltt, ns_ltf, ns_eqt, ns_eqf, ns_gd, nI_clamp, nI_add, pk_sub, pk_mul, ns_m1a, ns_m1b, ns_m1c, ns_m1d, ns_m1e, ns_m1f, ns_m1g, ns_un1, ns_un0, ns_day1, Option.bind_some, gi_si_self, gi_si_ne, gl_si, gi_sl, gl_sl_self, gl_sl_ne, if_true, if_false, ns_i0, ns_i1, ns_i2, ns_i3, ns_i4, ns_i5, ns_i6, ns_i7, ns_i8, ns_i9, ns_i10, ns_i11, ns_i12, ns_i13, ns_i20, ns_i23, ns_i24, ns_i31, ns_i50, ns_i60, ns_i99, ns_i100, ns_i144, ns_i200, ns_i255, ns_i700, ns_i880, ns_i899, ns_i900, ns_i901, ns_i999, ns_i1000, ns_i1440, ns_i4095, ns_i1000000, gu]) (s := ()) trivial
  have e : f_X12_whose_32 (nI r) x2 (nI 0) m = f_X12_whose_32 (nI r) x2 (nI j) m := e
  have gj := hR.2 j r hj
  rw [e, e_X12_whose_32]
  simp (disch := omega) only [↓reduceIte, ↓ns_m1, ns_let, ns_lef, ns_ltt, ns_ltf, ns_eqt, ns_eqf, ns_gd, nI_clamp, nI_add, pk_sub, pk_mul, ns_m1a, ns_m1b, ns_m1c, ns_m1d, ns_m1e, ns_m1f, ns_m1g, ns_un1, ns_un0, ns_day1, Option.bind_some, gi_si_self, gi_si_ne, gl_si, gi_sl, gl_sl_self, gl_sl_ne, if_true, if_false, ns_i0, ns_i1, ns_i2, ns_i3, ns_i4, ns_i5, ns_i6, ns_i7, ns_i8, ns_i9, ns_i10, ns_i11, ns_i12, ns_i13, ns_i20, ns_i23, ns_i24, ns_i31, ns_i50, ns_i60, ns_i99, ns_i100, ns_i144, ns_i200, ns_i255, ns_i700, ns_i880, ns_i899, ns_i900, ns_i901, ns_i999, ns_i1000, ns_i1440, ns_i4095, ns_i1000000, gj]
theorem rdk_in {F : List fa_} {r : Nat} {q : fa_} {k : Int32} (hq : F[r]? = some q) (h1 : q.1 = 1) (hr : r < F.length) (hc : cn_ q k = true) : r ∈ rdk_ F q.2.2.2.2.1 k F.length := List.mem_filter.mpr ⟨rdn_get hq h1 F.length hr, by unfold cnr_; rw [hq]; exact hc⟩
theorem whose_m {W : List (Nat × Nat × Nat)} {P : pl_} {F : List fa_} {T : Nat} {C : List (Nat × Nat × Nat)} (hk : kok_ W P F T C) {m : fm_} (hm : kwm_ W P F T C m) (x k : Int32) : ∃ m1, f_X12_whose x k m = some (swh_ W P F C x k, m1) ∧ kwm_ W P F T C m1 := by
  unfold f_X12_whose swh_
  rw [isr_m hk.2.2.1 hm.2.1]
  cases e : rdg_ F x with
  | none => exact ⟨m, rfl, hm⟩
  | some q =>
    obtain ⟨j, q⟩ := q
    obtain ⟨rfl, hj, hq, h1⟩ := rdg_u hk.2.2.1.1 e
    have hl := hk.2.2.1.1
    have hw := hk.2.2.1.2.2 q (List.mem_of_getElem? hq)
    have g5 := (hm.2.1.2.2 j q hq).2.2.2.2.1
    have ct := cnt_m hk.2.2.1 hm.2.1 hq k
    simp only [Option.isSome_some, if_true]
    by_cases c : cn_ q k = true
    · have eb : b01_ (cn_ q k) = nI 1 := by rw [c]; rfl
      obtain ⟨m1, e1, w1, k1⟩ := know_m hk hm hw.2.2.2.2.1 k
      have mem := rdk_in hq h1 hj c
      obtain ⟨i, hi⟩ := List.getElem?_of_mem mem
      have inj : ∀ l : Nat, (rdk_ F q.2.2.2.2.1 k F.length)[l]? = some j → l = i := fun l hl => rdk_inj hl hi
      have hR := rds_rdk hk.2.2.2.2 q.2.2.2.2.1 k
      have w := w32_ k1.1 hR.1 (fun r hr => by have := (rdk_mem hr).1; omega) hi inj (x2 := k)
      have hil := (List.getElem?_eq_some_iff.mp hi).1
      have gb := k1.2.2 i hil
      have eo : owr_ W P F C q.2.2.2.2.1 k j = ow_ P.length ((knd_ W P F C (rdk_ F q.2.2.2.2.1 k F.length)).2 i) := by
        unfold owr_
        rw [pos_s inj hi]
      rw [eo]
      simp (disch := omega) only [↓reduceIte, ↓ns_m1, ns_let, ns_lef, ns_ltt, ns_ltf, ns_eqt, ns_eqf, ns_gd, nI_clamp, nI_add, pk_sub, pk_mul, ns_m1a, ns_m1b, ns_m1c, ns_m1d, ns_m1e, ns_m1f, ns_m1g, ns_un1, ns_un0, ns_day1, Option.bind_some, gi_si_self, gi_si_ne, gl_si, gi_sl, gl_sl_self, gl_sl_ne, if_true, if_false, ns_i0, ns_i1, ns_i2, ns_i3, ns_i4, ns_i5, ns_i6, ns_i7, ns_i8, ns_i9, ns_i10, ns_i11, ns_i12, ns_i13, ns_i20, ns_i23, ns_i24, ns_i31, ns_i50, ns_i60, ns_i99, ns_i100, ns_i144, ns_i200, ns_i255, ns_i700, ns_i880, ns_i899, ns_i900, ns_i901, ns_i999, ns_i1000, ns_i1440, ns_i4095, ns_i1000000, ct, eb, g5, e1, w, gb]
      exact ⟨_, rfl, w1⟩
    · have eb : b01_ (cn_ q k) = nI 0 := by rw [Bool.eq_false_iff.mpr c]; rfl
      have eo : owr_ W P F C q.2.2.2.2.1 k j = -1 := by
        unfold owr_
        rw [pos_n fun mem => by
          obtain ⟨_, u, a1, _, _, a4⟩ := rdk_mem mem
          rw [hq] at a1
          cases a1
          exact c a4]
      rw [eo]
      simp (disch := omega) only [↓reduceIte, ↓ns_m1, ns_let, ns_lef, ns_ltt, ns_ltf, ns_eqt, ns_eqf, ns_gd, nI_clamp, nI_add, pk_sub, pk_mul, ns_m1a, ns_m1b, ns_m1c, ns_m1d, ns_m1e, ns_m1f, ns_m1g, ns_un1, ns_un0, ns_day1, Option.bind_some, gi_si_self, gi_si_ne, gl_si, gi_sl, gl_sl_self, gl_sl_ne, if_true, if_false, ns_i0, ns_i1, ns_i2, ns_i3, ns_i4, ns_i5, ns_i6, ns_i7, ns_i8, ns_i9, ns_i10, ns_i11, ns_i12, ns_i13, ns_i20, ns_i23, ns_i24, ns_i31, ns_i50, ns_i60, ns_i99, ns_i100, ns_i144, ns_i200, ns_i255, ns_i700, ns_i880, ns_i899, ns_i900, ns_i901, ns_i999, ns_i1000, ns_i1440, ns_i4095, ns_i1000000, ct, eb]
      exact ⟨_, rfl, hm⟩
/-! doubt -/
def sdb_ (W : List (Nat × Nat × Nat)) (P : pl_) (F : List fa_) (C : List (Nat × Nat × Nat)) (x k : Int32) : Int32 := match nat_ x 100 with
  | none => -1
  | some d => nI (knd_ W P F C (rdk_ F d k F.length)).1
theorem doubt_c {W : List (Nat × Nat × Nat)} {P : pl_} {F : List fa_} {T : Nat} {C : List (Nat × Nat × Nat)} (hk : kok_ W P F T C) {st : Nat} (hst : st < 2 ^ 20) {m : fm_} (hm : kwc_ W P F T C m) (hc : cch_ W P F C st m) (x k : Int32) : ∃ m1, f_X11_doubt x k m = some (sdb_ W P F C x k, m1) ∧ kwc_ W P F T C m1 ∧ cch_ W P F C st m1 := by
  unfold f_X11_doubt sdb_ f_X6_priceOf
  rcases nat_ix x (n := 100) (by omega) with ⟨e, _⟩ | ⟨d, hd, rfl, e, -⟩
  · rw [e]
    simp (disch := omega) only [↓reduceIte, ↓ns_m1, ns_let, ns_lef, ns_ltt, ns_ltf, ns_eqt, ns_eqf, ns_gd, nI_clamp, nI_add, pk_sub, pk_mul, ns_m1a, ns_m1b, ns_m1c, ns_m1d, ns_m1e, ns_m1f, ns_m1g, ns_un1, ns_un0, ns_day1, Option.bind_some, gi_si_self, gi_si_ne, gl_si, gi_sl, gl_sl_self, gl_sl_ne, if_true, if_false, ns_i0, ns_i1, ns_i2, ns_i3, ns_i4, ns_i5, ns_i6, ns_i7, ns_i8, ns_i9, ns_i10, ns_i11, ns_i12, ns_i13, ns_i20, ns_i23, ns_i24, ns_i31, ns_i50, ns_i60, ns_i99, ns_i100, ns_i144, ns_i200, ns_i255, ns_i700, ns_i880, ns_i899, ns_i900, ns_i901, ns_i999, ns_i1000, ns_i1440, ns_i4095, ns_i1000000, day0 e]
    exact ⟨m, rfl, hm, hc⟩
  · obtain ⟨m1, e1, h2, h3, h4⟩ := choose_c hk hst hm hc hd k
    rw [e]
    simp (disch := omega) only [↓reduceIte, ↓ns_m1, ns_let, ns_lef, ns_ltt, ns_ltf, ns_eqt, ns_eqf, ns_gd, nI_clamp, nI_add, pk_sub, pk_mul, ns_m1a, ns_m1b, ns_m1c, ns_m1d, ns_m1e, ns_m1f, ns_m1g, ns_un1, ns_un0, ns_day1, Option.bind_some, gi_si_self, gi_si_ne, gl_si, gi_sl, gl_sl_self, gl_sl_ne, if_true, if_false, ns_i0, ns_i1, ns_i2, ns_i3, ns_i4, ns_i5, ns_i6, ns_i7, ns_i8, ns_i9, ns_i10, ns_i11, ns_i12, ns_i13, ns_i20, ns_i23, ns_i24, ns_i31, ns_i50, ns_i60, ns_i99, ns_i100, ns_i144, ns_i200, ns_i255, ns_i700, ns_i880, ns_i899, ns_i900, ns_i901, ns_i999, ns_i1000, ns_i1440, ns_i4095, ns_i1000000, e1, h4.1]
    exact ⟨_, rfl, h2, h3⟩
theorem doubt_m {W : List (Nat × Nat × Nat)} {P : pl_} {F : List fa_} {T : Nat} {C : List (Nat × Nat × Nat)} (hk : kok_ W P F T C) {m : fm_} (hm : kwm_ W P F T C m) (x k : Int32) : ∃ m1, f_X12_doubt x k m = some (sdb_ W P F C x k, m1) ∧ kwm_ W P F T C m1 := by
  unfold f_X12_doubt sdb_
  rcases nat_ix x (n := 100) (by omega) with ⟨e, _⟩ | ⟨d, hd, rfl, e, -⟩
  · rw [e]
    simp (disch := omega) only [↓reduceIte, ↓ns_m1, ns_let, ns_lef, ns_ltt, ns_ltf, ns_eqt, ns_eqf, ns_gd, nI_clamp, nI_add, pk_sub, pk_mul, ns_m1a, ns_m1b, ns_m1c, ns_m1d, ns_m1e, ns_m1f, ns_m1g, ns_un1, ns_un0, ns_day1, Option.bind_some, gi_si_self, gi_si_ne, gl_si, gi_sl, gl_sl_self, gl_sl_ne, if_true, if_false, ns_i0, ns_i1, ns_i2, ns_i3, ns_i4, ns_i5, ns_i6, ns_i7, ns_i8, ns_i9, ns_i10, ns_i11, ns_i12, ns_i13, ns_i20, ns_i23, ns_i24, ns_i31, ns_i50, ns_i60, ns_i99, ns_i100, ns_i144, ns_i200, ns_i255, ns_i700, ns_i880, ns_i899, ns_i900, ns_i901, ns_i999, ns_i1000, ns_i1440, ns_i4095, ns_i1000000, day0m e]
    exact ⟨m, rfl, hm⟩
  · obtain ⟨m1, e1, w1, k1⟩ := know_m hk hm hd k
    rw [e]
    simp (disch := omega) only [↓reduceIte, ↓ns_m1, ns_let, ns_lef, ns_ltt, ns_ltf, ns_eqt, ns_eqf, ns_gd, nI_clamp, nI_add, pk_sub, pk_mul, ns_m1a, ns_m1b, ns_m1c, ns_m1d, ns_m1e, ns_m1f, ns_m1g, ns_un1, ns_un0, ns_day1, Option.bind_some, gi_si_self, gi_si_ne, gl_si, gi_sl, gl_sl_self, gl_sl_ne, if_true, if_false, ns_i0, ns_i1, ns_i2, ns_i3, ns_i4, ns_i5, ns_i6, ns_i7, ns_i8, ns_i9, ns_i10, ns_i11, ns_i12, ns_i13, ns_i20, ns_i23, ns_i24, ns_i31, ns_i50, ns_i60, ns_i99, ns_i100, ns_i144, ns_i200, ns_i255, ns_i700, ns_i880, ns_i899, ns_i900, ns_i901, ns_i999, ns_i1000, ns_i1440, ns_i4095, ns_i1000000, ns_day2, e1, k1.2.1]
    exact ⟨_, rfl, w1⟩
/-! isDouble -/
/-- a reading is like the plate by 0 -/
def exa_ (F : List fa_) (P : pl_) (p r : Nat) : Prop := lkn_ (fq_ F r).2.2.2.2.2.2 (psg_ P p) = 0
def dbl_ (W : List (Nat × Nat × Nat)) (P : pl_) (F : List fa_) (C : List (Nat × Nat × Nat)) (R : List Nat) (p n : Nat) : Prop := ∃ a b : Nat, a ∈ R ∧ b ∈ R ∧ b < a ∧ a < n ∧ exa_ F P p a ∧ exa_ F P p b ∧ tgr_ W F C a b = false
theorem exa_c {W : List (Nat × Nat × Nat)} {P : pl_} {F : List fa_} {T : Nat} {C : List (Nat × Nat × Nat)} (hk : kok_ W P F T C) {m : fm_} (hm : kwc_ W P F T C m) {r p : Nat} {q : fa_} (hq : F[r]? = some q) (h1 : q.1 = 1) (hp : p < P.length) : ∃ b : Bool, f_X6_isExactly (nI r) (nI p) m = some (b01_ b, m) ∧ (b = true ↔ exa_ F P p r) := by
  have hrl := (List.getElem?_eq_some_iff.mp hq).1
  have hl := hk.2.2.1.1
  have hPl := hk.2.1
  have gs := (hm.2.1.2.2 r q hq).2.2.2.2.2.2 h1
  have lb := lkn_b q.2.2.2.2.2.2 (psg_ P p)
  have lk : f_X7_likeness (gl_ m 79 r) (gl_ m 70 p) m = some (nI (lkn_ q.2.2.2.2.2.2 (psg_ P p)), m) := by
    rw [gs, psg_c hm.1 hp, lk_all, lkn_e]
  unfold f_X6_isExactly exa_
  rw [fq_s hq]
  by_cases c : lkn_ q.2.2.2.2.2.2 (psg_ P p) = 0
  · refine ⟨true, ?_, by simp [c]⟩
    simp (disch := omega) only [↓reduceIte, ↓ns_m1, ns_let, ns_lef, ns_ltt, ns_ltf, ns_eqt, ns_eqf, ns_gd, nI_clamp, nI_add, pk_sub, pk_mul, ns_m1a, ns_m1b, ns_m1c, ns_m1d, ns_m1e, ns_m1f, ns_m1g, ns_un1, ns_un0, ns_day1, Option.bind_some, gi_si_self, gi_si_ne, gl_si, gi_sl, gl_sl_self, gl_sl_ne, if_true, if_false, ns_i0, ns_i1, ns_i2, ns_i3, ns_i4, ns_i5, ns_i6, ns_i7, ns_i8, ns_i9, ns_i10, ns_i11, ns_i12, ns_i13, ns_i20, ns_i23, ns_i24, ns_i31, ns_i50, ns_i60, ns_i99, ns_i100, ns_i144, ns_i200, ns_i255, ns_i700, ns_i880, ns_i899, ns_i900, ns_i901, ns_i999, ns_i1000, ns_i1440, ns_i4095, ns_i1000000, lk]
    rfl
  · refine ⟨false, ?_, by simp [c]⟩
    simp (disch := omega) only [↓reduceIte, ↓ns_m1, ns_let, ns_lef, ns_ltt, ns_ltf, ns_eqt, ns_eqf, ns_gd, nI_clamp, nI_add, pk_sub, pk_mul, ns_m1a, ns_m1b, ns_m1c, ns_m1d, ns_m1e, ns_m1f, ns_m1g, ns_un1, ns_un0, ns_day1, Option.bind_some, gi_si_self, gi_si_ne, gl_si, gi_sl, gl_sl_self, gl_sl_ne, if_true, if_false, ns_i0, ns_i1, ns_i2, ns_i3, ns_i4, ns_i5, ns_i6, ns_i7, ns_i8, ns_i9, ns_i10, ns_i11, ns_i12, ns_i13, ns_i20, ns_i23, ns_i24, ns_i31, ns_i50, ns_i60, ns_i99, ns_i100, ns_i144, ns_i200, ns_i255, ns_i700, ns_i880, ns_i899, ns_i900, ns_i901, ns_i999, ns_i1000, ns_i1440, ns_i4095, ns_i1000000, lk]
    rfl
def dbi_ (W : List (Nat × Nat × Nat)) (P : pl_) (F : List fa_) (C : List (Nat × Nat × Nat)) (R : List Nat) (p r i j : Nat) : Prop := ∃ (l s : Nat), j ≤ l ∧ l < i ∧ R[l]? = some s ∧ exa_ F P p r ∧ exa_ F P p s ∧ tgr_ W F C r s = false
theorem dou_c {W : List (Nat × Nat × Nat)} {P : pl_} {F : List fa_} {T : Nat} {C : List (Nat × Nat × Nat)} (hk : kok_ W P F T C) {m : fm_} (hm : kwc_ W P F T C m) {d p : Nat} (hd : d < 100) (hp : p < P.length) (k : Int32) : ∃ (v : Bool) (m1 : fm_), f_X6_twoBear (nI p) (nI d) k m = some (b01_ v, m1) ∧ (v = true ↔ dbl_ W P F C (rdk_ F d k F.length) p F.length) ∧ kwc_ W P F T C m1 := by
  obtain ⟨m1, e1, w1, r1⟩ := gath_ hk hm hd k
  have hR := rds_rdk hk.2.2.2.2 d k
  have pw : ∀ i j r s : Nat, (rdk_ F d k F.length)[i]? = some r → (rdk_ F d k F.length)[j]? = some s → (j < i ↔ s < r) := fun i j r s hi hj => by
    have pw : (rdk_ F d k F.length).Pairwise (· < ·) := List.Pairwise.filter _ (rdn_pw F.length)
    have key := List.pairwise_iff_getElem.mp pw
    obtain ⟨hi1, hi2⟩ := List.getElem?_eq_some_iff.mp hi
    obtain ⟨hj1, hj2⟩ := List.getElem?_eq_some_iff.mp hj
    constructor
    · intro q
      have := key j i hj1 hi1 q
      omega
    · intro q
      by_cases c : j < i
      · exact c
      · by_cases c2 : i = j
        · subst c2; rw [hi] at hj; cases hj; omega
        · have := key i j hi1 hj1 (by omega)
          omega
  have lt : ∀ r, r ∈ rdk_ F d k F.length → r < F.length := fun r hr => (rdk_mem hr).1
  generalize rdk_ F d k F.length = R at hR r1 pw lt
  have hl7 := hR.1
  have e1t : b01_ true = nI 1 := rfl
  have e0t : b01_ false = nI 0 := rfl
  -- one row: j goes up to i
  have inner : ∀ (i r : Nat), R[i]? = some r → i < R.length → ∀ (c j : Nat), j + c = i → dbi_ W P F C R p r i j ∧ f_X6_twoBear_21 (nI p) (nI d) k (nI i) (nI j) m1 = some (nI 1, m1) ∨ ¬ dbi_ W P F C R p r i j ∧ f_X6_twoBear_21 (nI p) (nI d) k (nI i) (nI j) m1 = f_X6_twoBear_9 (nI p) (nI d) k (nI (i + 1)) m1 := by
    intro i r hi hil c
    obtain ⟨q, hq, hq1⟩ := hR.2 r (List.mem_of_getElem? hi)
    have gr := r1.2 i r hi
    obtain ⟨br, er, hbr⟩ := exa_c hk w1 hq hq1 hp
    induction c with
    | zero =>
      intro j hj
      refine Or.inr ⟨fun ⟨l, s, a1, a2, _⟩ => by omega, ?_⟩
      rw [e_X6_twoBear_21]
      simp (disch := omega) only [↓reduceIte, ↓ns_m1, ns_let, ns_lef, ns_ltt, ns_ltf, ns_eqt, ns_eqf, ns_gd, nI_clamp, nI_add, pk_sub, pk_mul, ns_m1a, ns_m1b, ns_m1c, ns_m1d, ns_m1e, ns_m1f, ns_m1g, ns_un1, ns_un0, ns_day1, Option.bind_some, gi_si_self, gi_si_ne, gl_si, gi_sl, gl_sl_self, gl_sl_ne, if_true, if_false, ns_i0, ns_i1, ns_i2, ns_i3, ns_i4, ns_i5, ns_i6, ns_i7, ns_i8, ns_i9, ns_i10, ns_i11, ns_i12, ns_i13, ns_i20, ns_i23, ns_i24, ns_i31, ns_i50, ns_i60, ns_i99, ns_i100, ns_i144, ns_i200, ns_i255, ns_i700, ns_i880, ns_i899, ns_i900, ns_i901, ns_i999, ns_i1000, ns_i1440, ns_i4095, ns_i1000000]
    | succ c ih =>
      intro j hj
      have hjl : j < R.length := by omega
      have ej := List.getElem?_eq_getElem hjl
      generalize R[j] = s at ej
      obtain ⟨u, hu, hu1⟩ := hR.2 s (List.mem_of_getElem? ej)
      have gs := r1.2 j s ej
      obtain ⟨bs, es, hbs⟩ := exa_c hk w1 hu hu1 hp
      have tg := tog_c hk w1 hq hq1 hu hu1
      have skip : ¬ (exa_ F P p r ∧ exa_ F P p s ∧ tgr_ W F C r s = false) → f_X6_twoBear_21 (nI p) (nI d) k (nI i) (nI j) m1 = f_X6_twoBear_21 (nI p) (nI d) k (nI i) (nI (j + 1)) m1 → dbi_ W P F C R p r i j ∧ f_X6_twoBear_21 (nI p) (nI d) k (nI i) (nI j) m1 = some (nI 1, m1) ∨ ¬ dbi_ W P F C R p r i j ∧ f_X6_twoBear_21 (nI p) (nI d) k (nI i) (nI j) m1 = f_X6_twoBear_9 (nI p) (nI d) k (nI (i + 1)) m1 := fun hn hstep => by
        rcases ih (j + 1) (by omega) with ⟨⟨l, s', a1, a2, a3, a4⟩, b1⟩ | ⟨a1, b1⟩
        · exact Or.inl ⟨⟨l, s', by omega, a2, a3, a4⟩, by rw [hstep]; exact b1⟩
        · refine Or.inr ⟨fun ⟨l, s', c1, c2, c3, c4⟩ => ?_, by rw [hstep]; exact b1⟩
          by_cases e : l = j
          · rw [e, ej] at c3; cases c3; exact hn c4
          · exact a1 ⟨l, s', by omega, c2, c3, c4⟩
      cases br with
      | false =>
        refine skip (fun q => by have := hbr.mpr q.1; cases this) ?_
        rw [e_X6_twoBear_21]
        simp (disch := omega) only [↓reduceIte, ↓ns_m1, ns_let, ns_lef, ns_ltt, ns_ltf, ns_eqt, ns_eqf, ns_gd, nI_clamp, nI_add, pk_sub, pk_mul, ns_m1a, ns_m1b, ns_m1c, ns_m1d, ns_m1e, ns_m1f, ns_m1g, ns_un1, ns_un0, ns_day1, Option.bind_some, gi_si_self, gi_si_ne, gl_si, gi_sl, gl_sl_self, gl_sl_ne, if_true, if_false, ns_i0, ns_i1, ns_i2, ns_i3, ns_i4, ns_i5, ns_i6, ns_i7, ns_i8, ns_i9, ns_i10, ns_i11, ns_i12, ns_i13, ns_i20, ns_i23, ns_i24, ns_i31, ns_i50, ns_i60, ns_i99, ns_i100, ns_i144, ns_i200, ns_i255, ns_i700, ns_i880, ns_i899, ns_i900, ns_i901, ns_i999, ns_i1000, ns_i1440, ns_i4095, ns_i1000000, gr, er, e0t]
      | true =>
        cases bs with
        | false =>
          refine skip (fun q => by have := hbs.mpr q.2.1; cases this) ?_
          rw [e_X6_twoBear_21]
          simp (disch := omega) only [↓reduceIte, ↓ns_m1, ns_let, ns_lef, ns_ltt, ns_ltf, ns_eqt, ns_eqf, ns_gd, nI_clamp, nI_add, pk_sub, pk_mul, ns_m1a, ns_m1b, ns_m1c, ns_m1d, ns_m1e, ns_m1f, ns_m1g, ns_un1, ns_un0, ns_day1, Option.bind_some, gi_si_self, gi_si_ne, gl_si, gi_sl, gl_sl_self, gl_sl_ne, if_true, if_false, ns_i0, ns_i1, ns_i2, ns_i3, ns_i4, ns_i5, ns_i6, ns_i7, ns_i8, ns_i9, ns_i10, ns_i11, ns_i12, ns_i13, ns_i20, ns_i23, ns_i24, ns_i31, ns_i50, ns_i60, ns_i99, ns_i100, ns_i144, ns_i200, ns_i255, ns_i700, ns_i880, ns_i899, ns_i900, ns_i901, ns_i999, ns_i1000, ns_i1440, ns_i4095, ns_i1000000, gr, er, e1t, gs, es, e0t]
        | true =>
          cases ct : tgr_ W F C r s with
          | true =>
            rw [ct] at tg
            refine skip (fun q => by rw [ct] at q; cases q.2.2) ?_
            rw [e_X6_twoBear_21]
            simp (disch := omega) only [↓reduceIte, ↓ns_m1, ns_let, ns_lef, ns_ltt, ns_ltf, ns_eqt, ns_eqf, ns_gd, nI_clamp, nI_add, pk_sub, pk_mul, ns_m1a, ns_m1b, ns_m1c, ns_m1d, ns_m1e, ns_m1f, ns_m1g, ns_un1, ns_un0, ns_day1, Option.bind_some, gi_si_self, gi_si_ne, gl_si, gi_sl, gl_sl_self, gl_sl_ne, if_true, if_false, ns_i0, ns_i1, ns_i2, ns_i3, ns_i4, ns_i5, ns_i6, ns_i7, ns_i8, ns_i9, ns_i10, ns_i11, ns_i12, ns_i13, ns_i20, ns_i23, ns_i24, ns_i31, ns_i50, ns_i60, ns_i99, ns_i100, ns_i144, ns_i200, ns_i255, ns_i700, ns_i880, ns_i899, ns_i900, ns_i901, ns_i999, ns_i1000, ns_i1440, ns_i4095, ns_i1000000, gr, er, e1t, gs, es, tg]
          | false =>
            rw [ct] at tg
            refine Or.inl ⟨⟨j, s, Nat.le_refl _, by omega, ej, hbr.mp rfl, hbs.mp rfl, ct⟩, ?_⟩
            rw [e_X6_twoBear_21]
            simp (disch := omega) only [↓reduceIte, ↓ns_m1, ns_let, ns_lef, ns_ltt, ns_ltf, ns_eqt, ns_eqf, ns_gd, nI_clamp, nI_add, pk_sub, pk_mul, ns_m1a, ns_m1b, ns_m1c, ns_m1d, ns_m1e, ns_m1f, ns_m1g, ns_un1, ns_un0, ns_day1, Option.bind_some, gi_si_self, gi_si_ne, gl_si, gi_sl, gl_sl_self, gl_sl_ne, if_true, if_false, ns_i0, ns_i1, ns_i2, ns_i3, ns_i4, ns_i5, ns_i6, ns_i7, ns_i8, ns_i9, ns_i10, ns_i11, ns_i12, ns_i13, ns_i20, ns_i23, ns_i24, ns_i31, ns_i50, ns_i60, ns_i99, ns_i100, ns_i144, ns_i200, ns_i255, ns_i700, ns_i880, ns_i899, ns_i900, ns_i901, ns_i999, ns_i1000, ns_i1440, ns_i4095, ns_i1000000, gr, er, e1t, gs, es, tg, e0t]
  have outer : ∀ (c i : Nat), i + c = R.length → (∃ (l n r s : Nat), i ≤ n ∧ R[n]? = some r ∧ R[l]? = some s ∧ l < n ∧ exa_ F P p r ∧ exa_ F P p s ∧ tgr_ W F C r s = false) ∧ f_X6_twoBear_9 (nI p) (nI d) k (nI i) m1 = some (nI 1, m1) ∨ (¬ ∃ (l n r s : Nat), i ≤ n ∧ R[n]? = some r ∧ R[l]? = some s ∧ l < n ∧ exa_ F P p r ∧ exa_ F P p s ∧ tgr_ W F C r s = false) ∧ f_X6_twoBear_9 (nI p) (nI d) k (nI i) m1 = some (nI 0, m1) := by
    intro c
    induction c with
    | zero =>
      intro i hi
      refine Or.inr ⟨fun ⟨l, n, r, s, a1, a2, _⟩ => by have := (List.getElem?_eq_some_iff.mp a2).1; omega, ?_⟩
      rw [e_X6_twoBear_9]
      simp (disch := omega) only [↓reduceIte, ↓ns_m1, ns_let, ns_lef, ns_ltt, ns_ltf, ns_eqt, ns_eqf, ns_gd, nI_clamp, nI_add, pk_sub, pk_mul, ns_m1a, ns_m1b, ns_m1c, ns_m1d, ns_m1e, ns_m1f, ns_m1g, ns_un1, ns_un0, ns_day1, Option.bind_some, gi_si_self, gi_si_ne, gl_si, gi_sl, gl_sl_self, gl_sl_ne, if_true, if_false, ns_i0, ns_i1, ns_i2, ns_i3, ns_i4, ns_i5, ns_i6, ns_i7, ns_i8, ns_i9, ns_i10, ns_i11, ns_i12, ns_i13, ns_i20, ns_i23, ns_i24, ns_i31, ns_i50, ns_i60, ns_i99, ns_i100, ns_i144, ns_i200, ns_i255, ns_i700, ns_i880, ns_i899, ns_i900, ns_i901, ns_i999, ns_i1000, ns_i1440, ns_i4095, ns_i1000000, r1.1]
    | succ c ih =>
      intro i hi
      have hil : i < R.length := by omega
      have er := List.getElem?_eq_getElem hil
      generalize R[i] = r at er
      have e9 : f_X6_twoBear_9 (nI p) (nI d) k (nI i) m1 = f_X6_twoBear_21 (nI p) (nI d) k (nI i) (nI 0) m1 := by
        rw [e_X6_twoBear_9]
        simp (disch := omega) only [↓reduceIte, ↓ns_m1, ns_let, ns_lef, ns_ltt, ns_ltf, ns_eqt, ns_eqf, ns_gd, nI_clamp, nI_add, pk_sub, pk_mul, ns_m1a, ns_m1b, ns_m1c, ns_m1d, ns_m1e, ns_m1f, ns_m1g, ns_un1, ns_un0, ns_day1, Option.bind_some, gi_si_self, gi_si_ne, gl_si, gi_sl, gl_sl_self, gl_sl_ne, if_true, if_false, ns_i0, ns_i1, ns_i2, ns_i3, ns_i4, ns_i5, ns_i6, ns_i7, ns_i8, ns_i9, ns_i10, ns_i11, ns_i12, ns_i13, ns_i20, ns_i23, ns_i24, ns_i31, ns_i50, ns_i60, ns_i99, ns_i100, ns_i144, ns_i200, ns_i255, ns_i700, ns_i880, ns_i899, ns_i900, ns_i901, ns_i999, ns_i1000, ns_i1440, ns_i4095, ns_i1000000, r1.1]
      rcases inner i r er hil i 0 (by omega) with ⟨⟨l, s, a1, a2, a3, a4⟩, b1⟩ | ⟨a1, b1⟩
      · exact Or.inl ⟨⟨l, i, r, s, Nat.le_refl _, er, a3, a2, a4⟩, by rw [e9]; exact b1⟩
      · rcases ih (i + 1) (by omega) with ⟨⟨l, n, r', s, c1, c2⟩, d1⟩ | ⟨c1, d1⟩
        · exact Or.inl ⟨⟨l, n, r', s, by omega, c2⟩, by rw [e9, b1]; exact d1⟩
        · refine Or.inr ⟨fun ⟨l, n, r', s, c2, c3, c4, c5, c6⟩ => ?_, by rw [e9, b1]; exact d1⟩
          by_cases e : n = i
          · rw [e, er] at c3; cases c3; exact a1 ⟨l, s, by omega, by omega, c4, c6⟩
          · exact c1 ⟨l, n, r', s, by omega, c3, c4, c5, c6⟩
  have e2 : f_X6_twoBear (nI p) (nI d) k m = f_X6_twoBear_9 (nI p) (nI d) k (nI 0) m1 := by
    unfold f_X6_twoBear
    simp (disch := omega) only [↓reduceIte, ↓ns_m1, ns_let, ns_lef, ns_ltt, ns_ltf, ns_eqt, ns_eqf, ns_gd, nI_clamp, nI_add, pk_sub, pk_mul, ns_m1a, ns_m1b, ns_m1c, ns_m1d, ns_m1e, ns_m1f, ns_m1g, ns_un1, ns_un0, ns_day1, Option.bind_some, gi_si_self, gi_si_ne, gl_si, gi_sl, gl_sl_self, gl_sl_ne, if_true, if_false, ns_i0, ns_i1, ns_i2, ns_i3, ns_i4, ns_i5, ns_i6, ns_i7, ns_i8, ns_i9, ns_i10, ns_i11, ns_i12, ns_i13, ns_i20, ns_i23, ns_i24, ns_i31, ns_i50, ns_i60, ns_i99, ns_i100, ns_i144, ns_i200, ns_i255, ns_i700, ns_i880, ns_i899, ns_i900, ns_i901, ns_i999, ns_i1000, ns_i1440, ns_i4095, ns_i1000000, e1]
  rcases outer R.length 0 (by omega) with ⟨⟨l, n, r, s, _, c2, c3, c4, c5⟩, d1⟩ | ⟨c1, d1⟩
  · refine ⟨true, m1, by rw [e2, d1]; rfl, ⟨fun _ => ⟨r, s, List.mem_of_getElem? c2, List.mem_of_getElem? c3, (pw n l r s c2 c3).mp c4, lt r (List.mem_of_getElem? c2), c5⟩, fun _ => rfl⟩, w1⟩
  · refine ⟨false, m1, by rw [e2, d1]; rfl, ⟨fun h => (by cases h), fun ⟨a, b, h1, h2, h3, h4, h5⟩ => ?_⟩, w1⟩
    obtain ⟨n, hn⟩ := List.getElem?_of_mem h1
    obtain ⟨l, hl⟩ := List.getElem?_of_mem h2
    exact absurd ⟨l, n, a, b, Nat.zero_le _, hn, hl, (pw n l a b hn hl).mpr h3, h5⟩ c1
