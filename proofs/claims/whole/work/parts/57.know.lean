/-! ===== readings of a day ===== -/
def isrd_ (F : List fa_) (d r : Nat) : Bool := match F[r]? with
  | none => false
  | some q => decide (q.1 = 1) && decide (q.2.2.2.2.1 = d)
def rdn_ (F : List fa_) (d : Nat) : Nat → List Nat
  | 0 => []
  | n + 1 => if isrd_ F d n = true then rdn_ F d n ++ [n] else rdn_ F d n
def cnr_ (F : List fa_) (k : Int32) (r : Nat) : Bool := match F[r]? with
  | none => false
  | some q => cn_ q k
/-- the readings of a day that count -/
def rdk_ (F : List fa_) (d : Nat) (k : Int32) (n : Nat) : List Nat := (rdn_ F d n).filter (cnr_ F k)
theorem rdn_u {F : List fa_} {d : Nat} : ∀ n r, r ∈ rdn_ F d n → r < n ∧ isrd_ F d r = true
  | 0, _, h => by cases h
  | n + 1, r, h => by
    have h : r ∈ (if isrd_ F d n = true then rdn_ F d n ++ [n] else rdn_ F d n) := h
    by_cases c : isrd_ F d n = true
    · rw [if_pos c] at h
      rcases List.mem_append.mp h with h | h
      · have := rdn_u n r h
        exact ⟨by omega, this.2⟩
      · rw [List.mem_singleton.mp h]; exact ⟨by omega, c⟩
    · rw [if_neg c] at h
      have := rdn_u n r h
      exact ⟨by omega, this.2⟩
theorem isrd_u {F : List fa_} {d r : Nat} (h : isrd_ F d r = true) : ∃ q, F[r]? = some q ∧ q.1 = 1 ∧ q.2.2.2.2.1 = d := by
  unfold isrd_ at h
  cases e : F[r]? with
  | none => rw [e] at h; cases h
  | some q =>
    rw [e] at h
    have h := (Bool.and_eq_true _ _).mp h
    exact ⟨q, rfl, of_decide_eq_true h.1, of_decide_eq_true h.2⟩
theorem rdk_mem {F : List fa_} {d : Nat} {k : Int32} {n r : Nat} (h : r ∈ rdk_ F d k n) : r < n ∧ ∃ q, F[r]? = some q ∧ q.1 = 1 ∧ q.2.2.2.2.1 = d ∧ cn_ q k = true := by
  have h1 := List.mem_filter.mp h
  obtain ⟨h2, h3⟩ := rdn_u n r h1.1
  obtain ⟨q, e, e1, e2⟩ := isrd_u h3
  have h4 := h1.2
  unfold cnr_ at h4
  rw [e] at h4
  exact ⟨h2, q, e, e1, e2, h4⟩
theorem rdk_len {F : List fa_} {d : Nat} {k : Int32} {n : Nat} : (rdk_ F d k n).length ≤ (rdn_ F d n).length := List.length_filter_le _ _
theorem rdk_s {F : List fa_} {d : Nat} {k : Int32} {n : Nat} : rdk_ F d k (n + 1) = if (isrd_ F d n && cnr_ F k n) = true then rdk_ F d k n ++ [n] else rdk_ F d k n := by
  unfold rdk_
  show (if isrd_ F d n = true then rdn_ F d n ++ [n] else rdn_ F d n).filter (cnr_ F k) = _
  by_cases c : isrd_ F d n = true
  · rw [if_pos c, c, List.filter_append, Bool.true_and]
    by_cases c2 : cnr_ F k n = true
    · rw [if_pos c2, List.filter_cons_of_pos c2, List.filter_nil]
    · rw [if_neg c2, List.filter_cons_of_neg c2, List.filter_nil, List.append_nil]
  · rw [if_neg c, if_neg (by rw [Bool.and_eq_true]; exact fun x => c x.1)]
theorem rdn_mono {F : List fa_} {d : Nat} {n : Nat} : ∀ k, (rdn_ F d n).length ≤ (rdn_ F d (n + k)).length
  | 0 => Nat.le_refl _
  | k + 1 => by
    refine Nat.le_trans (rdn_mono k) ?_
    show _ ≤ (if isrd_ F d (n + k) = true then rdn_ F d (n + k) ++ [n + k] else rdn_ F d (n + k)).length
    by_cases c : isrd_ F d (n + k) = true
    · rw [if_pos c, List.length_append]; omega
    · rw [if_neg c]; exact Nat.le_refl _
/-! ===== cameras ===== -/
def cok_ (C : List (Nat × Nat × Nat)) : Prop := C.length ≤ 8 ∧ ∀ q ∈ C, q.1 < 12 ∧ q.2.1 < q.2.2 ∧ q.2.2 ≤ 1440
def camc_ (C : List (Nat × Nat × Nat)) (m : fm_) : Prop := gi_ m 6 8 = nI C.length ∧ ∀ j q, C[j]? = some q → gi_ m 10 j = nI q.1 ∧ gi_ m 11 j = nI q.2.1 ∧ gi_ m 12 j = nI q.2.2
def camm_ (C : List (Nat × Nat × Nat)) (m : fm_) : Prop := gi_ m 106 30 = nI C.length ∧ ∀ j q, C[j]? = some q → gi_ m 117 j = nI q.1 ∧ gi_ m 118 j = nI q.2.1 ∧ gi_ m 119 j = nI q.2.2
/-- readings are of cameras that there are, at minutes of a day; at most seven of a day -/
def rok_ (F : List fa_) (C : List (Nat × Nat × Nat)) : Prop := (∀ q ∈ F, q.1 = 1 → q.2.2.2.1 < C.length ∧ q.2.2.2.2.2.1 ≤ 1440) ∧ ∀ d, (rdn_ F d F.length).length ≤ 7
def fq_ (F : List fa_) (r : Nat) : fa_ := match F[r]? with
  | none => (0, 0, none, 0, 0, 0, 0)
  | some q => q
def plc_ (C : List (Nat × Nat × Nat)) (c : Nat) : Nat := match C[c]? with
  | none => 0
  | some q => q.1
theorem fq_s {F : List fa_} {r : Nat} {q : fa_} (h : F[r]? = some q) : fq_ F r = q := by unfold fq_; rw [h]
def mnt_ (F : List fa_) (r : Nat) : Nat := (fq_ F r).2.2.2.2.2.1
def pnt_ (F : List fa_) (C : List (Nat × Nat × Nat)) (r : Nat) : Nat := plc_ C (fq_ F r).2.2.2.1
def adf_ (x y : Nat) : Nat := if x ≤ y then y - x else x - y
/-- two readings can be by one -/
def tgr_ (W : List (Nat × Nat × Nat)) (F : List fa_) (C : List (Nat × Nat × Nat)) (r s : Nat) : Bool := decide (ner_ W (pnt_ F C r) (pnt_ F C s) ≤ adf_ (mnt_ F r) (mnt_ F s))
def psg_ (P : pl_) (p : Nat) : Int64 := match P[p]? with
  | none => 0
  | some q => q.1
def lkn_ (x y : Int64) : Nat := if cs_ (fun j => co_ (sg_ x j) (sg_ y j)) 6 0 ≤ 2 then cs_ (fun j => co_ (sg_ x j) (sg_ y j)) 6 0 else 9
theorem lkn_e (x y : Int64) : lk_ x y = nI (lkn_ x y) := by
  unfold lk_ fi_ lkn_
  by_cases c : cs_ (fun j => co_ (sg_ x j) (sg_ y j)) 6 0 ≤ 2
  · rw [if_pos c, if_pos c]
  · rw [if_neg c, if_neg c]; rfl
theorem lkn_b (x y : Int64) : lkn_ x y ≤ 2 ∨ lkn_ x y = 9 := by
  unfold lkn_
  by_cases c : cs_ (fun j => co_ (sg_ x j) (sg_ y j)) 6 0 ≤ 2
  · rw [if_pos c]; exact Or.inl c
  · rw [if_neg c]; exact Or.inr rfl
def rg_ (R : List Nat) (i : Nat) : Nat := match R[i]? with
  | none => 0
  | some r => r
theorem rg_s {R : List Nat} {i r : Nat} (h : R[i]? = some r) : rg_ R i = r := by unfold rg_; rw [h]
/-- prices and what goes together, of a row of readings -/
def prr_ (F : List fa_) (P : pl_) (R : List Nat) (i p : Nat) : Nat := lkn_ (fq_ F (rg_ R i)).2.2.2.2.2.2 (psg_ P p)
def tgg_ (W : List (Nat × Nat × Nat)) (F : List fa_) (C : List (Nat × Nat × Nat)) (R : List Nat) (i j : Nat) : Bool := tgr_ W F C (rg_ R i) (rg_ R j)
/-! ===== the reference's world ===== -/
def kwm_ (W : List (Nat × Nat × Nat)) (P : pl_) (F : List fa_) (T : Nat) (C : List (Nat × Nat × Nat)) (m : fm_) : Prop := pm_ P m ∧ fm1s_ F T m ∧ camm_ C m ∧ tb_ (ner_ W) 120 m
def kwmd_ : List (Nat × Nat × Nat) := [(106, 106, 58), (138, 138, 0), (140, 140, 0), (106, 106, 59), (106, 106, 60), (139, 139, 0), (141, 150, 0), (106, 106, 31), (117, 119, 0), (120, 120, 0)]
theorem kwm_ag {W : List (Nat × Nat × Nat)} {P : pl_} {F : List fa_} {T : Nat} {C : List (Nat × Nat × Nat)} {m m1 : fm_} (h : kwm_ W P F T C m) (ha : ag_ kwmd_ m m1) : kwm_ W P F T C m1 := by
  obtain ⟨h1, h2, h3, h4⟩ := h
  refine ⟨⟨(ha 106 57 rfl).1.trans h1.1, fun j q hj => ?_⟩, ⟨(ha 106 58 rfl).1.trans h2.1, (ha 106 59 rfl).1.trans h2.2.1, fun j q hj => ?_⟩, ⟨(ha 106 30 rfl).1.trans h3.1, fun j q hj => ?_⟩, fun a b ha1 hb => (ha 120 _ rfl).1.trans (h4 a b ha1 hb)⟩
  · rw [(ha 138 j rfl).2, (ha 140 j rfl).1]
    exact h1.2 j q hj
  · have := h2.2.2 j q hj
    unfold fm1_ at this ⊢
    rw [(ha 141 j rfl).1, (ha 149 j rfl).1, (ha 150 j rfl).1, (ha 142 j rfl).1, (ha 143 j rfl).1, (ha 144 j rfl).1, (ha 139 j rfl).2, (ha 145 j rfl).1, (ha 146 j rfl).1, (ha 147 j rfl).1, (ha 148 j rfl).1]
    exact this
  · rw [(ha 117 j rfl).1, (ha 118 j rfl).1, (ha 119 j rfl).1]
    exact h3.2 j q hj
/-- all that must hold of the numbers -/
def kok_ (W : List (Nat × Nat × Nat)) (P : pl_) (F : List fa_) (T : Nat) (C : List (Nat × Nat × Nat)) : Prop := wok_ W ∧ P.length ≤ 10 ∧ fw_ F T ∧ cok_ C ∧ rok_ F C
theorem plc_b {C : List (Nat × Nat × Nat)} (hC : cok_ C) (c : Nat) : plc_ C c < 12 := by
  unfold plc_
  cases e : C[c]? with
  | none => show 0 < 12; omega
  | some q => exact (hC.2 q (List.mem_of_getElem? e)).1
theorem fr_m {W : List (Nat × Nat × Nat)} {P : pl_} {F : List fa_} {T : Nat} {C : List (Nat × Nat × Nat)} (hk : kok_ W P F T C) {m : fm_} (h : kwm_ W P F T C m) {r : Nat} {q : fa_} (hr : F[r]? = some q) (h1 : q.1 = 1) : gi_ m 144 r = nI (mnt_ F r) ∧ mnt_ F r ≤ 1440 ∧ f_X12_pointOf (nI r) m = some (nI (pnt_ F C r), m) ∧ pnt_ F C r < 12 ∧ r < 200 := by
  obtain ⟨hW, hP, hF, hC, hR⟩ := hk
  have g := h.2.1.2.2 r q hr
  have rk := hR.1 q (List.mem_of_getElem? hr) h1
  have hrl := (List.getElem?_eq_some_iff.mp hr).1
  have hl := hF.1
  have hcl := hC.1
  have e1 : mnt_ F r = q.2.2.2.2.2.1 := by unfold mnt_; rw [fq_s hr]
  have e2 : pnt_ F C r = plc_ C q.2.2.2.1 := by unfold pnt_; rw [fq_s hr]
  obtain ⟨g1, g2, g3, g4, g5, g6, g7⟩ := g
  have ec := List.getElem?_eq_getElem rk.1
  generalize C[q.2.2.2.1] = cq at ec
  have gc := (h.2.2.1.2 _ cq ec).1
  have e3 : plc_ C q.2.2.2.1 = cq.1 := by unfold plc_; rw [ec]
  refine ⟨by rw [e1]; exact (g6 h1).1, by rw [e1]; exact rk.2, ?_, by rw [e2]; exact plc_b hC _, by omega⟩
  unfold f_X12_pointOf
  rw [e2, e3]
  simp (disch := omega) only [↓reduceIte, ↓ns_m1, ns_let, ns_lef, ns_ltt, ns_ltf, ns_eqt, ns_eqf, ns_gd, nI_clamp, nI_add, pk_sub, pk_mul, ns_m1a, ns_m1b, ns_m1c, ns_m1d, ns_m1e, ns_m1f, ns_m1g, ns_un1, ns_un0, ns_day1, Option.bind_some, gi_si_self, gi_si_ne, gl_si, gi_sl, gl_sl_self, gl_sl_ne, if_true, if_false, ns_i0, ns_i1, ns_i2, ns_i3, ns_i4, ns_i5, ns_i6, ns_i7, ns_i8, ns_i9, ns_i10, ns_i11, ns_i12, ns_i13, ns_i20, ns_i23, ns_i24, ns_i31, ns_i50, ns_i60, ns_i99, ns_i100, ns_i144, ns_i200, ns_i255, ns_i700, ns_i880, ns_i899, ns_i900, ns_i901, ns_i999, ns_i1000, ns_i1440, ns_i4095, ns_i1000000, g4, gc]
theorem adf_b {x y : Nat} (hx : x ≤ 1440) (hy : y ≤ 1440) : adf_ x y ≤ 1440 := by
  unfold adf_
  by_cases c : x ≤ y
  · rw [if_pos c]; omega
  · rw [if_neg c]; omega
theorem tog_m {W : List (Nat × Nat × Nat)} {P : pl_} {F : List fa_} {T : Nat} {C : List (Nat × Nat × Nat)} (hk : kok_ W P F T C) {m : fm_} (h : kwm_ W P F T C m) {r s : Nat} {q u : fa_} (hr : F[r]? = some q) (h1 : q.1 = 1) (hs : F[s]? = some u) (h2 : u.1 = 1) : f_X12_together (nI r) (nI s) m = some (b01_ (tgr_ W F C r s), m) := by
  obtain ⟨a1, a2, a3, a4, a5⟩ := fr_m hk h hr h1
  obtain ⟨b1, b2, b3, b4, b5⟩ := fr_m hk h hs h2
  have t := tb_c h.2.2.2 a4 b4
  have hf := ner_far hk.1 (pnt_ F C r) (pnt_ F C s)
  have e1 : b01_ true = nI 1 := rfl
  have e0 : b01_ false = nI 0 := rfl
  have ab := adf_b a2 b2
  unfold f_X12_together tgr_
  generalize ner_ W (pnt_ F C r) (pnt_ F C s) = x at t hf
  generalize mnt_ F r = y1 at a1 a2 ab
  generalize mnt_ F s = y2 at b1 b2 ab
  unfold adf_ at ab ⊢
  by_cases c0 : 1000000 ≤ x
  · have : ¬ x ≤ (if y1 ≤ y2 then y2 - y1 else y1 - y2) := by omega
    rw [decide_eq_false this]
    simp (disch := omega) only [↓reduceIte, ↓ns_m1, ns_let, ns_lef, ns_ltt, ns_ltf, ns_eqt, ns_eqf, ns_gd, nI_clamp, nI_add, pk_sub, pk_mul, ns_m1a, ns_m1b, ns_m1c, ns_m1d, ns_m1e, ns_m1f, ns_m1g, ns_un1, ns_un0, ns_day1, Option.bind_some, gi_si_self, gi_si_ne, gl_si, gi_sl, gl_sl_self, gl_sl_ne, if_true, if_false, ns_i0, ns_i1, ns_i2, ns_i3, ns_i4, ns_i5, ns_i6, ns_i7, ns_i8, ns_i9, ns_i10, ns_i11, ns_i12, ns_i13, ns_i20, ns_i23, ns_i24, ns_i31, ns_i50, ns_i60, ns_i99, ns_i100, ns_i144, ns_i200, ns_i255, ns_i700, ns_i880, ns_i899, ns_i900, ns_i901, ns_i999, ns_i1000, ns_i1440, ns_i4095, ns_i1000000, a3, b3, t, e0]
  · by_cases c1 : y2 ≤ y1
    · have e3 : (if y1 ≤ y2 then y2 - y1 else y1 - y2) = y1 - y2 := by
        by_cases c2 : y1 ≤ y2
        · rw [if_pos c2]; omega
        · rw [if_neg c2]
      rw [e3]
      by_cases c3 : x ≤ y1 - y2
      · rw [decide_eq_true c3]
        simp (disch := omega) only [↓reduceIte, ↓ns_m1, ns_let, ns_lef, ns_ltt, ns_ltf, ns_eqt, ns_eqf, ns_gd, nI_clamp, nI_add, pk_sub, pk_mul, ns_m1a, ns_m1b, ns_m1c, ns_m1d, ns_m1e, ns_m1f, ns_m1g, ns_un1, ns_un0, ns_day1, Option.bind_some, gi_si_self, gi_si_ne, gl_si, gi_sl, gl_sl_self, gl_sl_ne, if_true, if_false, ns_i0, ns_i1, ns_i2, ns_i3, ns_i4, ns_i5, ns_i6, ns_i7, ns_i8, ns_i9, ns_i10, ns_i11, ns_i12, ns_i13, ns_i20, ns_i23, ns_i24, ns_i31, ns_i50, ns_i60, ns_i99, ns_i100, ns_i144, ns_i200, ns_i255, ns_i700, ns_i880, ns_i899, ns_i900, ns_i901, ns_i999, ns_i1000, ns_i1440, ns_i4095, ns_i1000000, a1, b1, a3, b3, t, e1]
      · rw [decide_eq_false c3]
        simp (disch := omega) only [↓reduceIte, ↓ns_m1, ns_let, ns_lef, ns_ltt, ns_ltf, ns_eqt, ns_eqf, ns_gd, nI_clamp, nI_add, pk_sub, pk_mul, ns_m1a, ns_m1b, ns_m1c, ns_m1d, ns_m1e, ns_m1f, ns_m1g, ns_un1, ns_un0, ns_day1, Option.bind_some, gi_si_self, gi_si_ne, gl_si, gi_sl, gl_sl_self, gl_sl_ne, if_true, if_false, ns_i0, ns_i1, ns_i2, ns_i3, ns_i4, ns_i5, ns_i6, ns_i7, ns_i8, ns_i9, ns_i10, ns_i11, ns_i12, ns_i13, ns_i20, ns_i23, ns_i24, ns_i31, ns_i50, ns_i60, ns_i99, ns_i100, ns_i144, ns_i200, ns_i255, ns_i700, ns_i880, ns_i899, ns_i900, ns_i901, ns_i999, ns_i1000, ns_i1440, ns_i4095, ns_i1000000, a1, b1, a3, b3, t, e0]
    · have e3 : (if y1 ≤ y2 then y2 - y1 else y1 - y2) = y2 - y1 := if_pos (by omega)
      have e4 : -(nI y1 - nI y2) = nI (y2 - y1) := by
        rw [Int32.neg_sub, pk_sub (by omega)]
      have e5 : (nI 0 ≤ nI y1 - nI y2) = False := eq_false (by
        have := pk_sneg (a := y1) (b := y2) (by omega) (by omega)
        rw [Int32.lt_iff_toInt_lt] at this
        rw [Int32.le_iff_toInt_le]
        have e6 : (nI 0).toInt = (0 : Int32).toInt := rfl
        omega)
      rw [e3]
      by_cases c3 : x ≤ y2 - y1
      · rw [decide_eq_true c3]
        simp (disch := omega) only [↓reduceIte, ↓ns_m1, ns_let, ns_lef, ns_ltt, ns_ltf, ns_eqt, ns_eqf, ns_gd, nI_clamp, nI_add, pk_sub, pk_mul, ns_m1a, ns_m1b, ns_m1c, ns_m1d, ns_m1e, ns_m1f, ns_m1g, ns_un1, ns_un0, ns_day1, Option.bind_some, gi_si_self, gi_si_ne, gl_si, gi_sl, gl_sl_self, gl_sl_ne, if_true, if_false, ns_i0, ns_i1, ns_i2, ns_i3, ns_i4, ns_i5, ns_i6, ns_i7, ns_i8, ns_i9, ns_i10, ns_i11, ns_i12, ns_i13, ns_i20, ns_i23, ns_i24, ns_i31, ns_i50, ns_i60, ns_i99, ns_i100, ns_i144, ns_i200, ns_i255, ns_i700, ns_i880, ns_i899, ns_i900, ns_i901, ns_i999, ns_i1000, ns_i1440, ns_i4095, ns_i1000000, a1, b1, a3, b3, t, e1, e4, e5]
      · rw [decide_eq_false c3]
        simp (disch := omega) only [↓reduceIte, ↓ns_m1, ns_let, ns_lef, ns_ltt, ns_ltf, ns_eqt, ns_eqf, ns_gd, nI_clamp, nI_add, pk_sub, pk_mul, ns_m1a, ns_m1b, ns_m1c, ns_m1d, ns_m1e, ns_m1f, ns_m1g, ns_un1, ns_un0, ns_day1, Option.bind_some, gi_si_self, gi_si_ne, gl_si, gi_sl, gl_sl_self, gl_sl_ne, if_true, if_false, ns_i0, ns_i1, ns_i2, ns_i3, ns_i4, ns_i5, ns_i6, ns_i7, ns_i8, ns_i9, ns_i10, ns_i11, ns_i12, ns_i13, ns_i20, ns_i23, ns_i24, ns_i31, ns_i50, ns_i60, ns_i99, ns_i100, ns_i144, ns_i200, ns_i255, ns_i700, ns_i880, ns_i899, ns_i900, ns_i901, ns_i999, ns_i1000, ns_i1440, ns_i4095, ns_i1000000, a1, b1, a3, b3, t, e0, e4, e5]
