/-! ===== the minute of a plate's entry on a day ===== -/
def rok2_ (F : List fa_) : Prop := ∀ q ∈ F, q.1 = 1 → q.2.2.2.2.2.1 < 1440
theorem mnt_2 {F : List fa_} (h : rok2_ F) {r : Nat} {q : fa_} (hr : F[r]? = some q) (h1 : q.1 = 1) : mnt_ F r < 1440 := by
  unfold mnt_
  rw [fq_s hr]
  exact h q (List.mem_of_getElem? hr) h1
def enst_ (b : Option Nat) (v : Nat) : Option Nat := match b with
  | none => some v
  | some x => some (min x v)
def enl_ (mn : Nat → Nat) (op : Nat → Bool) : List Nat → Option Nat → Option Nat
  | [], b => b
  | r :: l, b => enl_ mn op l (if op r = true then enst_ b (mn r) else b)
theorem enl_filter {mn : Nat → Nat} {op p : Nat → Bool} : ∀ (l : List Nat) (b : Option Nat), (∀ r ∈ l, op r = true → p r = true) → enl_ mn op (l.filter p) b = enl_ mn op l b
  | [], _, _ => rfl
  | r :: l, b, h => by
    have ih := fun b => enl_filter (mn := mn) (op := op) (p := p) l b fun x hx => h x (List.mem_cons_of_mem _ hx)
    by_cases c : p r = true
    · rw [List.filter_cons_of_pos c]
      exact ih _
    · rw [List.filter_cons_of_neg c, ih]
      have : ¬ op r = true := fun q => c (h r (List.mem_cons_self ..) q)
      show _ = enl_ mn op l (if op r = true then enst_ b (mn r) else b)
      rw [if_neg this]
theorem enst_b {b : Option Nat} {v n : Nat} (hv : v < n) (hb : ∀ x, b = some x → x < n) : ∀ x, enst_ b v = some x → x < n := by
  intro x hx
  cases b with
  | none => cases hx; exact hv
  | some y =>
    have := hb y rfl
    have hx : some (min y v) = some x := hx
    injection hx with hx
    omega
/-- does this reading count as an entry -/
def ent_ (W : List (Nat × Nat × Nat)) (z : Nat) (P : pl_) (F : List fa_) (C : List (Nat × Nat × Nat)) (h : Option (Nat × Nat)) (d : Nat) (k : Int32) (p r : Nat) : Bool := decide (bb_ z (pnt_ F C r) = 1) && (decide ((hrs_ h).1 ≤ mnt_ F r ∧ mnt_ F r < (hrs_ h).2) && opr_ W P F C d k p r)
def enm_ (W : List (Nat × Nat × Nat)) (z : Nat) (P : pl_) (F : List fa_) (C : List (Nat × Nat × Nat)) (O : List od_) (d : Nat) (k : Int32) (p : Nat) : Option Nat := match inf_ O d O.length with
  | none => none
  | some j => match O[j]? with
    | none => none
    | some o => enl_ (mnt_ F) (ent_ W z P F C o.2.2.1 d k p) (rdn_ F d F.length) none
theorem inh_c {o : Nat} {d : od_} (hd : ook_ d) {m : fm_} (h : orc_ o d m) {v : Nat} (hv : v < 1440) : f_X4_isInHours o (nI v) m = some (b01_ (decide ((hrs_ d.2.2.1).1 ≤ v ∧ v < (hrs_ d.2.2.1).2)), m) := by
  have h1 := h.1
  have h2 := hd.2.2.2.2.1
  have e1t : b01_ true = nI 1 := rfl
  have e0t : b01_ false = nI 0 := rfl
  unfold f_X4_isInHours
  unfold och_ at h1
  cases e : d.2.2.1 with
  | none =>
    rw [e] at h1
    have h1 : gi_ m o 8 = -1 := h1
    have : decide ((hrs_ none).1 ≤ v ∧ v < (hrs_ none).2) = true := decide_eq_true ⟨Nat.zero_le _, hv⟩
    rw [this, if_pos h1]
    rfl
  | some q =>
    rw [e] at h1
    obtain ⟨g1, g2⟩ := h1
    have b := h2 q e
    show _ = some (b01_ (decide (q.1 ≤ v ∧ v < q.2)), m)
    by_cases c1 : v < q.1
    · rw [decide_eq_false (by omega), e0t]
      simp (disch := omega) only [↓reduceIte, ↓ns_m1, ns_let, ns_lef, ns_ltt, ns_ltf, ns_eqt, ns_eqf, ns_gd, nI_clamp, nI_add, pk_sub, pk_mul, ns_m1a, ns_m1b, ns_m1c, ns_m1d, ns_m1e, ns_m1f, ns_m1g, ns_un1, ns_un0, ns_day1, Option.bind_some, gi_si_self, gi_si_ne, gl_si, gi_sl, gl_sl_self, gl_sl_ne, if_true, if_false, ns_i0, ns_i1, ns_i2, ns_i3, ns_i4, ns_i5, ns_i6, ns_i7, ns_i8, ns_i9, ns_i10, ns_i11, ns_i12, ns_i13, ns_i20, ns_i23, ns_i24, ns_i31, ns_i50, ns_i60, ns_i99, ns_i100, ns_i144, ns_i200, ns_i255, ns_i700, ns_i880, ns_i899, ns_i900, ns_i901, ns_i999, ns_i1000, ns_i1440, ns_i4095, ns_i1000000, g1, g2]
    · by_cases c2 : q.2 ≤ v
      · rw [decide_eq_false (by omega), e0t]
        simp (disch := omega) only [↓reduceIte, ↓ns_m1, ns_let, ns_lef, ns_ltt, ns_ltf, ns_eqt, ns_eqf, ns_gd, nI_clamp, nI_add, pk_sub, pk_mul, ns_m1a, ns_m1b, ns_m1c, ns_m1d, ns_m1e, ns_m1f, ns_m1g, ns_un1, ns_un0, ns_day1, Option.bind_some, gi_si_self, gi_si_ne, gl_si, gi_sl, gl_sl_self, gl_sl_ne, if_true, if_false, ns_i0, ns_i1, ns_i2, ns_i3, ns_i4, ns_i5, ns_i6, ns_i7, ns_i8, ns_i9, ns_i10, ns_i11, ns_i12, ns_i13, ns_i20, ns_i23, ns_i24, ns_i31, ns_i50, ns_i60, ns_i99, ns_i100, ns_i144, ns_i200, ns_i255, ns_i700, ns_i880, ns_i899, ns_i900, ns_i901, ns_i999, ns_i1000, ns_i1440, ns_i4095, ns_i1000000, g1, g2]
      · rw [decide_eq_true (by omega), e1t]
        simp (disch := omega) only [↓reduceIte, ↓ns_m1, ns_let, ns_lef, ns_ltt, ns_ltf, ns_eqt, ns_eqf, ns_gd, nI_clamp, nI_add, pk_sub, pk_mul, ns_m1a, ns_m1b, ns_m1c, ns_m1d, ns_m1e, ns_m1f, ns_m1g, ns_un1, ns_un0, ns_day1, Option.bind_some, gi_si_self, gi_si_ne, gl_si, gi_sl, gl_sl_self, gl_sl_ne, if_true, if_false, ns_i0, ns_i1, ns_i2, ns_i3, ns_i4, ns_i5, ns_i6, ns_i7, ns_i8, ns_i9, ns_i10, ns_i11, ns_i12, ns_i13, ns_i20, ns_i23, ns_i24, ns_i31, ns_i50, ns_i60, ns_i99, ns_i100, ns_i144, ns_i200, ns_i255, ns_i700, ns_i880, ns_i899, ns_i900, ns_i901, ns_i999, ns_i1000, ns_i1440, ns_i4095, ns_i1000000, g1, g2]
theorem en21_ {W : List (Nat × Nat × Nat)} {P : pl_} {F : List fa_} {T : Nat} {C : List (Nat × Nat × Nat)} (hk : kok_ W P F T C) (h2 : rok2_ F) {z : Nat} (hz : z < 4096) {m : fm_} (hm : kwc_ W P F T C m) (h6 : gi_ m 6 4 = nI z) {d p : Nat} (hd : d < 100) (hp : p < P.length) {k : Int32} (hc : chs_ W P F C d k m) {o : Nat} {od : od_} (hod : ook_ od) (ho : orc_ o od m) : ∀ (l : List Nat) (i : Nat) (b : Option Nat), (rdn_ F d F.length).drop i = l → i ≤ 7 → (∀ x, b = some x → x < 1440) → f_X2_entryMinute_21 (nI p) (nI d) o (en1_ b) (nI i) m = some (en1_ (enl_ (mnt_ F) (ent_ W z P F C od.2.2.1 d k p) l b), m) := by
  obtain ⟨hW, hP, hF, hC, hR⟩ := id hk
  have h7 := hR.2 d
  have rn := ron_ hm.2.2.1 hd
  intro l
  induction l with
  | nil =>
    intro i b hl hi hb
    have : (rdn_ F d F.length).length ≤ i := by
      have := congrArg List.length hl
      rw [List.length_drop, List.length_nil] at this
      omega
    rw [e_X2_entryMinute_21]
    simp (disch := omega) only [↓reduceIte, ↓ns_m1, ns_let, ns_lef, ns_ltt, ns_ltf, ns_eqt, ns_eqf, ns_gd, nI_clamp, nI_add, pk_sub, pk_mul, ns_m1a, ns_m1b, ns_m1c, ns_m1d, ns_m1e, ns_m1f, ns_m1g, ns_un1, ns_un0, ns_day1, Option.bind_some, gi_si_self, gi_si_ne, gl_si, gi_sl, gl_sl_self, gl_sl_ne, if_true, if_false, ns_i0, ns_i1, ns_i2, ns_i3, ns_i4, ns_i5, ns_i6, ns_i7, ns_i8, ns_i9, ns_i10, ns_i11, ns_i12, ns_i13, ns_i20, ns_i23, ns_i24, ns_i31, ns_i50, ns_i60, ns_i99, ns_i100, ns_i144, ns_i200, ns_i255, ns_i700, ns_i880, ns_i899, ns_i900, ns_i901, ns_i999, ns_i1000, ns_i1440, ns_i4095, ns_i1000000, rn]
    rfl
  | cons r l ih =>
    intro i b hl hi hb
    obtain ⟨k1, k2, k3⟩ := drop_p hl
    have hr := List.mem_of_getElem? k1
    obtain ⟨q, hq, hq1, _⟩ := isrd_u (rdn_u _ _ hr).2
    obtain ⟨_, g78, _, _, _, r2, ir⟩ := fr_c hk hm hq hq1
    have hv := mnt_2 h2 hq hq1
    have ro := ro1_ hm.2.2.1 hd h7 k1
    have iz := zon_c hk hz hm h6 hq hq1
    have ih_ := inh_c hod ho hv
    have ow := owr_c hc hr
    have co : f_X6_chosenOwner (nI r) m = some (owr_ W P F C d k r, m) := by
      unfold f_X6_chosenOwner
      simp (disch := omega) only [↓reduceIte, ↓ns_m1, ns_let, ns_lef, ns_ltt, ns_ltf, ns_eqt, ns_eqf, ns_gd, nI_clamp, nI_add, pk_sub, pk_mul, ns_m1a, ns_m1b, ns_m1c, ns_m1d, ns_m1e, ns_m1f, ns_m1g, ns_un1, ns_un0, ns_day1, Option.bind_some, gi_si_self, gi_si_ne, gl_si, gi_sl, gl_sl_self, gl_sl_ne, if_true, if_false, ns_i0, ns_i1, ns_i2, ns_i3, ns_i4, ns_i5, ns_i6, ns_i7, ns_i8, ns_i9, ns_i10, ns_i11, ns_i12, ns_i13, ns_i20, ns_i23, ns_i24, ns_i31, ns_i50, ns_i60, ns_i99, ns_i100, ns_i144, ns_i200, ns_i255, ns_i700, ns_i880, ns_i899, ns_i900, ns_i901, ns_i999, ns_i1000, ns_i1440, ns_i4095, ns_i1000000, ir, ow]
    have hbz := bb_lt z (pnt_ F C r)
    show _ = some (en1_ (enl_ (mnt_ F) (ent_ W z P F C od.2.2.1 d k p) l (if ent_ W z P F C od.2.2.1 d k p r = true then enst_ b (mnt_ F r) else b)), m)
    have e1t : b01_ true = nI 1 := rfl
    have e0t : b01_ false = nI 0 := rfl
    rw [e_X2_entryMinute_21]
    by_cases c1 : bb_ z (pnt_ F C r) = 1
    · by_cases c2 : (hrs_ od.2.2.1).1 ≤ mnt_ F r ∧ mnt_ F r < (hrs_ od.2.2.1).2
      · rw [decide_eq_true c2, e1t] at ih_
        by_cases c3 : owr_ W P F C d k r = nI p
        · have ct : ent_ W z P F C od.2.2.1 d k p r = true := by
            unfold ent_ opr_
            rw [decide_eq_true c1, decide_eq_true c2, decide_eq_true c3]; rfl
          rw [if_pos ct]
          have ih := ih (i + 1) (enst_ b (mnt_ F r)) k2 (by omega) (enst_b hv hb)
          cases b with
          | none =>
            have en : en1_ none = -1 := rfl
            have es : enst_ none (mnt_ F r) = some (mnt_ F r) := rfl
            have e2 : en1_ (some (mnt_ F r)) = nI (mnt_ F r) := rfl
            rw [es, e2] at ih
            rw [es]
            simp (disch := omega) only [↓reduceIte, ↓ns_m1, ns_let, ns_lef, ns_ltt, ns_ltf, ns_eqt, ns_eqf, ns_gd, nI_clamp, nI_add, pk_sub, pk_mul, ns_m1a, ns_m1b, ns_m1c, ns_m1d, ns_m1e, ns_m1f, ns_m1g, ns_un1, ns_un0, ns_day1, Option.bind_some, gi_si_self, gi_si_ne, gl_si, gi_sl, gl_sl_self, gl_sl_ne, if_true, if_false, ns_i0, ns_i1, ns_i2, ns_i3, ns_i4, ns_i5, ns_i6, ns_i7, ns_i8, ns_i9, ns_i10, ns_i11, ns_i12, ns_i13, ns_i20, ns_i23, ns_i24, ns_i31, ns_i50, ns_i60, ns_i99, ns_i100, ns_i144, ns_i200, ns_i255, ns_i700, ns_i880, ns_i899, ns_i900, ns_i901, ns_i999, ns_i1000, ns_i1440, ns_i4095, ns_i1000000, rn, ro, iz, c1, g78, ih_, co, c3, en, ih]
          | some x =>
            have en : en1_ (some x) = nI x := rfl
            have hx := hb x rfl
            have es : enst_ (some x) (mnt_ F r) = some (min x (mnt_ F r)) := rfl
            rw [es] at ih
            rw [es]
            by_cases c4 : x ≤ mnt_ F r
            · have em : min x (mnt_ F r) = x := by omega
              rw [em, en] at ih
              rw [em]
              simp (disch := omega) only [↓reduceIte, ↓ns_m1, ns_let, ns_lef, ns_ltt, ns_ltf, ns_eqt, ns_eqf, ns_gd, nI_clamp, nI_add, pk_sub, pk_mul, ns_m1a, ns_m1b, ns_m1c, ns_m1d, ns_m1e, ns_m1f, ns_m1g, ns_un1, ns_un0, ns_day1, Option.bind_some, gi_si_self, gi_si_ne, gl_si, gi_sl, gl_sl_self, gl_sl_ne, if_true, if_false, ns_i0, ns_i1, ns_i2, ns_i3, ns_i4, ns_i5, ns_i6, ns_i7, ns_i8, ns_i9, ns_i10, ns_i11, ns_i12, ns_i13, ns_i20, ns_i23, ns_i24, ns_i31, ns_i50, ns_i60, ns_i99, ns_i100, ns_i144, ns_i200, ns_i255, ns_i700, ns_i880, ns_i899, ns_i900, ns_i901, ns_i999, ns_i1000, ns_i1440, ns_i4095, ns_i1000000, rn, ro, iz, c1, g78, ih_, co, c3, en, ih]
            · have em : min x (mnt_ F r) = mnt_ F r := by omega
              have e2 : en1_ (some (mnt_ F r)) = nI (mnt_ F r) := rfl
              rw [em, e2] at ih
              rw [em]
              simp (disch := omega) only [↓reduceIte, ↓ns_m1, ns_let, ns_lef, ns_ltt, ns_ltf, ns_eqt, ns_eqf, ns_gd, nI_clamp, nI_add, pk_sub, pk_mul, ns_m1a, ns_m1b, ns_m1c, ns_m1d, ns_m1e, ns_m1f, ns_m1g, ns_un1, ns_un0, ns_day1, Option.bind_some, gi_si_self, gi_si_ne, gl_si, gi_sl, gl_sl_self, gl_sl_ne, if_true, if_false, ns_i0, ns_i1, ns_i2, ns_i3, ns_i4, ns_i5, ns_i6, ns_i7, ns_i8, ns_i9, ns_i10, ns_i11, ns_i12, ns_i13, ns_i20, ns_i23, ns_i24, ns_i31, ns_i50, ns_i60, ns_i99, ns_i100, ns_i144, ns_i200, ns_i255, ns_i700, ns_i880, ns_i899, ns_i900, ns_i901, ns_i999, ns_i1000, ns_i1440, ns_i4095, ns_i1000000, rn, ro, iz, c1, g78, ih_, co, c3, en, ih]
        · have ct : ¬ ent_ W z P F C od.2.2.1 d k p r = true := by
            unfold ent_ opr_
            rw [decide_eq_false c3]; simp
          rw [if_neg ct]
          have ih := ih (i + 1) b k2 (by omega) hb
          simp (disch := omega) only [↓reduceIte, ↓ns_m1, ns_let, ns_lef, ns_ltt, ns_ltf, ns_eqt, ns_eqf, ns_gd, nI_clamp, nI_add, pk_sub, pk_mul, ns_m1a, ns_m1b, ns_m1c, ns_m1d, ns_m1e, ns_m1f, ns_m1g, ns_un1, ns_un0, ns_day1, Option.bind_some, gi_si_self, gi_si_ne, gl_si, gi_sl, gl_sl_self, gl_sl_ne, if_true, if_false, ns_i0, ns_i1, ns_i2, ns_i3, ns_i4, ns_i5, ns_i6, ns_i7, ns_i8, ns_i9, ns_i10, ns_i11, ns_i12, ns_i13, ns_i20, ns_i23, ns_i24, ns_i31, ns_i50, ns_i60, ns_i99, ns_i100, ns_i144, ns_i200, ns_i255, ns_i700, ns_i880, ns_i899, ns_i900, ns_i901, ns_i999, ns_i1000, ns_i1440, ns_i4095, ns_i1000000, rn, ro, iz, c1, g78, ih_, co, c3, ih]
      · rw [decide_eq_false c2, e0t] at ih_
        have ct : ¬ ent_ W z P F C od.2.2.1 d k p r = true := by
          unfold ent_ opr_
          rw [decide_eq_false c2]; simp
        rw [if_neg ct]
        have ih := ih (i + 1) b k2 (by omega) hb
        simp (disch := omega) only [↓reduceIte, ↓ns_m1, ns_let, ns_lef, ns_ltt, ns_ltf, ns_eqt, ns_eqf, ns_gd, nI_clamp, nI_add, pk_sub, pk_mul, ns_m1a, ns_m1b, ns_m1c, ns_m1d, ns_m1e, ns_m1f, ns_m1g, ns_un1, ns_un0, ns_day1, Option.bind_some, gi_si_self, gi_si_ne, gl_si, gi_sl, gl_sl_self, gl_sl_ne, if_true, if_false, ns_i0, ns_i1, ns_i2, ns_i3, ns_i4, ns_i5, ns_i6, ns_i7, ns_i8, ns_i9, ns_i10, ns_i11, ns_i12, ns_i13, ns_i20, ns_i23, ns_i24, ns_i31, ns_i50, ns_i60, ns_i99, ns_i100, ns_i144, ns_i200, ns_i255, ns_i700, ns_i880, ns_i899, ns_i900, ns_i901, ns_i999, ns_i1000, ns_i1440, ns_i4095, ns_i1000000, rn, ro, iz, c1, g78, ih_, ih]
    · have c0 : bb_ z (pnt_ F C r) = 0 := by omega
      have ct : ¬ ent_ W z P F C od.2.2.1 d k p r = true := by
        unfold ent_ opr_
        rw [decide_eq_false c1]; simp
      rw [if_neg ct]
      have ih := ih (i + 1) b k2 (by omega) hb
      simp (disch := omega) only [↓reduceIte, ↓ns_m1, ns_let, ns_lef, ns_ltt, ns_ltf, ns_eqt, ns_eqf, ns_gd, nI_clamp, nI_add, pk_sub, pk_mul, ns_m1a, ns_m1b, ns_m1c, ns_m1d, ns_m1e, ns_m1f, ns_m1g, ns_un1, ns_un0, ns_day1, Option.bind_some, gi_si_self, gi_si_ne, gl_si, gi_sl, gl_sl_self, gl_sl_ne, if_true, if_false, ns_i0, ns_i1, ns_i2, ns_i3, ns_i4, ns_i5, ns_i6, ns_i7, ns_i8, ns_i9, ns_i10, ns_i11, ns_i12, ns_i13, ns_i20, ns_i23, ns_i24, ns_i31, ns_i50, ns_i60, ns_i99, ns_i100, ns_i144, ns_i200, ns_i255, ns_i700, ns_i880, ns_i899, ns_i900, ns_i901, ns_i999, ns_i1000, ns_i1440, ns_i4095, ns_i1000000, rn, ro, iz, c0, ih]
theorem ent_c {W : List (Nat × Nat × Nat)} {P : pl_} {F : List fa_} {T : Nat} {C : List (Nat × Nat × Nat)} (hk : kok_ W P F T C) (h2 : rok2_ F) {z : Nat} (hz : z < 4096) {O : List od_} (hO : oko_ O) {m : fm_} (hm : kwc_ W P F T C m) (h6 : gi_ m 6 4 = nI z) (hl : loc_ O m) {d p : Nat} (hd : d < 100) (hp : p < P.length) {k : Int32} (hc : chs_ W P F C d k m) : f_X2_entryMinute (nI p) (nI d) m = some (en1_ (enm_ W z P F C O d k p), m) := by
  have hl6 := hO.1.1
  unfold f_X2_entryMinute enm_
  rw [inf_c hO.1 hl.1 hd]
  simp only [Option.bind_some]
  cases hb : inf_ O d O.length with
  | none => rfl
  | some j =>
    have hj := (inf_u _ _ hb).1
    have e := List.getElem?_eq_getElem hj
    generalize O[j] = o at e
    have := en21_ hk h2 hz hm h6 hd hp hc (hO.2 o (List.mem_of_getElem? e)) (hl.2 j o e) _ 0 none rfl (by omega) (fun x hx => by cases hx)
    simp only [e]
    show gd_ (is_O (32 + 6 * j)) _ = _
    rw [gd_t (isO_ (by omega))]
    exact this
