/-! ===== entries, charge, account, back: the reference ===== -/
def km9_ (W : List (Nat × Nat × Nat)) (z : Nat) (P : pl_) (F : List fa_) (T : Nat) (C : List (Nat × Nat × Nat)) (O : List od_) (m : fm_) : Prop := kwm_ W P F T C m ∧ gi_ m 106 31 = nI z ∧ lom_ O m
theorem km9_fr {W : List (Nat × Nat × Nat)} {z : Nat} {P : pl_} {F : List fa_} {T : Nat} {C : List (Nat × Nat × Nat)} {O : List od_} {m m1 : fm_} (h : km9_ W z P F T C O m) (hs : sa_ w_X12_chargeOf m m1) : km9_ W z P F T C O m1 := ⟨kwm_ag h.1 (sa_ag (by rfl) hs), (sa_gi hs (by rfl)).trans h.2.1, lom_ag h.2.2 (sa_ag (by rfl) hs)⟩
theorem enf_m {W : List (Nat × Nat × Nat)} {P : pl_} {F : List fa_} {T : Nat} {C : List (Nat × Nat × Nat)} (hk : kok_ W P F T C) (h2 : rok2_ F) {z : Nat} (hz : z < 4096) {O : List od_} (hO : oko_ O) {d : Nat} (hd : d < 100) {k : Int32} {m : fm_} (hm : km9_ W z P F T C O m) {p : Nat} (hp : p < P.length) : ∃ m1, f_X12_entriesOf (nI p) (nI d) k m = some (nI (nen_ (fun e => enm_ W z P F C O e k p) d), m1) ∧ km9_ W z P F T C O m1 := by
  obtain ⟨⟨x, m1⟩, e, hx, k1⟩ := lp0_ (S := Int32 × fm_) (n := d) (F := fun i s => f_X12_entriesOf_6 (nI p) (nI d) k s.1 (nI i) s.2) (I := fun i s => s.1 = nI (nen_ (fun e => enm_ W z P F C O e k p) i) ∧ km9_ W z P F T C O s.2) (fun i s hi hI => by
    obtain ⟨x, m0⟩ := s
    obtain ⟨hx, i1⟩ := hI
    have hx : x = nI (nen_ (fun e => enm_ W z P F C O e k p) i) := hx
    subst hx
    have i1 : km9_ W z P F T C O m0 := i1
    obtain ⟨m1, en, k1⟩ := ent_m hk h2 hz hO i1.1 i1.2.1 i1.2.2 (show i < 100 by omega) hp k
    have hb := nen_b (en := fun e => enm_ W z P F C O e k p) i
    refine ⟨(nI (nen_ (fun e => enm_ W z P F C O e k p) (i + 1)), m1), ?_, rfl, k1⟩
    show f_X12_entriesOf_6 (nI p) (nI d) k (nI (nen_ (fun e => enm_ W z P F C O e k p) i)) (nI i) m0 = f_X12_entriesOf_6 (nI p) (nI d) k (nI (nen_ (fun e => enm_ W z P F C O e k p) i + (match enm_ W z P F C O i k p with | none => 0 | some _ => 1))) (nI (i + 1)) m1
    rw [e_X12_entriesOf_6]
    cases e : enm_ W z P F C O i k p with
    | none =>
      rw [e] at en
      have en : f_X12_enteredAt (nI p) (nI i) k m0 = some (-1, m1) := en
      simp (disch := omega) only [↓reduceIte, ↓ns_m1, ns_let, ns_lef, ns_ltt, ns_ltf, ns_eqt, ns_eqf, ns_gd, nI_clamp, nI_add, pk_sub, pk_mul, ns_m1a, ns_m1b, ns_m1c, ns_m1d, ns_m1e, ns_m1f, ns_m1g, ns_un1, ns_un0, ns_day1, Option.bind_some, gi_si_self, gi_si_ne, gl_si, gi_sl, gl_sl_self, gl_sl_ne, if_true, if_false, ns_i0, ns_i1, ns_i2, ns_i3, ns_i4, ns_i5, ns_i6, ns_i7, ns_i8, ns_i9, ns_i10, ns_i11, ns_i12, ns_i13, ns_i20, ns_i23, ns_i24, ns_i31, ns_i50, ns_i60, ns_i99, ns_i100, ns_i144, ns_i200, ns_i255, ns_i700, ns_i880, ns_i899, ns_i900, ns_i901, ns_i999, ns_i1000, ns_i1440, ns_i4095, ns_i1000000, en]
    | some v =>
      rw [e] at en
      have en : f_X12_enteredAt (nI p) (nI i) k m0 = some (nI v, m1) := en
      have := (enm_b h2 e).1
      simp (disch := omega) only [↓reduceIte, ↓ns_m1, ns_let, ns_lef, ns_ltt, ns_ltf, ns_eqt, ns_eqf, ns_gd, nI_clamp, nI_add, pk_sub, pk_mul, ns_m1a, ns_m1b, ns_m1c, ns_m1d, ns_m1e, ns_m1f, ns_m1g, ns_un1, ns_un0, ns_day1, Option.bind_some, gi_si_self, gi_si_ne, gl_si, gi_sl, gl_sl_self, gl_sl_ne, if_true, if_false, ns_i0, ns_i1, ns_i2, ns_i3, ns_i4, ns_i5, ns_i6, ns_i7, ns_i8, ns_i9, ns_i10, ns_i11, ns_i12, ns_i13, ns_i20, ns_i23, ns_i24, ns_i31, ns_i50, ns_i60, ns_i99, ns_i100, ns_i144, ns_i200, ns_i255, ns_i700, ns_i880, ns_i899, ns_i900, ns_i901, ns_i999, ns_i1000, ns_i1440, ns_i4095, ns_i1000000, en]) (s := (nI 0, m)) ⟨rfl, hm⟩
  have hx : x = nI (nen_ (fun e => enm_ W z P F C O e k p) d) := hx
  have e : f_X12_entriesOf_6 (nI p) (nI d) k (nI 0) (nI 0) m = f_X12_entriesOf_6 (nI p) (nI d) k x (nI d) m1 := e
  refine ⟨m1, ?_, k1⟩
  show f_X12_entriesOf_6 (nI p) (nI d) k (nI 0) (nI 0) m = _
  rw [e, e_X12_entriesOf_6, hx]
  simp (disch := omega) only [↓reduceIte, ↓ns_m1, ns_let, ns_lef, ns_ltt, ns_ltf, ns_eqt, ns_eqf, ns_gd, nI_clamp, nI_add, pk_sub, pk_mul, ns_m1a, ns_m1b, ns_m1c, ns_m1d, ns_m1e, ns_m1f, ns_m1g, ns_un1, ns_un0, ns_day1, Option.bind_some, gi_si_self, gi_si_ne, gl_si, gi_sl, gl_sl_self, gl_sl_ne, if_true, if_false, ns_i0, ns_i1, ns_i2, ns_i3, ns_i4, ns_i5, ns_i6, ns_i7, ns_i8, ns_i9, ns_i10, ns_i11, ns_i12, ns_i13, ns_i20, ns_i23, ns_i24, ns_i31, ns_i50, ns_i60, ns_i99, ns_i100, ns_i144, ns_i200, ns_i255, ns_i700, ns_i880, ns_i899, ns_i900, ns_i901, ns_i999, ns_i1000, ns_i1440, ns_i4095, ns_i1000000]
theorem csm_0 {en : Nat → Option Nat} {cd : Nat → Nat → Nat → Nat} {a : Nat} : ∀ n, n ≤ a → csm_ en cd a n = 0
  | 0, _ => rfl
  | n + 1, h => by
    unfold csm_
    rw [csm_0 n (by omega), if_neg (by omega)]
theorem owe_1 {W : List (Nat × Nat × Nat)} {z : Nat} {P : pl_} {F : List fa_} {C : List (Nat × Nat × Nat)} {O : List od_} {k : Int32} {d p : Nat} : owe_ W z P F C O k d d p = (match enm_ W z P F C O d k p with | none => 0 | some v => cdu_ O F p d k v (nen_ (fun e => enm_ W z P F C O e k p) d)) := by
  unfold owe_
  unfold csm_
  rw [csm_0 d (Nat.le_refl _), if_pos (Nat.le_refl _), Nat.zero_add]
  rfl
theorem chg_m {W : List (Nat × Nat × Nat)} {P : pl_} {F : List fa_} {T : Nat} {C : List (Nat × Nat × Nat)} (hk : kok_ W P F T C) (h2 : rok2_ F) {z : Nat} {O : List od_} (hO : oko_ O) {d : Nat} (hd : d < 100) {k : Int32} {m : fm_} (hm : km9_ W z P F T C O m) {p n : Nat} (hp : p < P.length) (hn : n ≤ 100) : ∃ m1, f_X12_chargeOf (nI p) (nI d) (nI n) (en1_ (enm_ W z P F C O d k p)) k m = some (nI (match enm_ W z P F C O d k p with | none => 0 | some v => cdu_ O F p d k v n), m1) ∧ km9_ W z P F T C O m1 := by
  have hP := hk.2.1
  cases e : enm_ W z P F C O d k p with
  | none => exact ⟨m, rfl, hm⟩
  | some v =>
    obtain ⟨hv, j, hj⟩ := enm_b h2 e
    obtain ⟨m1, q1⟩ := cdu_m hO hk.2.2.1 hm.2.2 hm.1.2.1 (show p < 10 by omega) hd (v := v) (n := n) (by omega) hn k hj
    exact ⟨m1, q1, km9_fr hm (fr_X12_chargeOf q1)⟩
theorem entries_m {W : List (Nat × Nat × Nat)} {P : pl_} {F : List fa_} {T : Nat} {C : List (Nat × Nat × Nat)} (hk : kok_ W P F T C) (h2 : rok2_ F) {z : Nat} (hz : z < 4096) {O : List od_} (hO : oko_ O) {m : fm_} (hm : km9_ W z P F T C O m) (x y k : Int32) : ∃ m1, f_X12_entries x y k m = some (sen_ W z P F C O x y k, m1) ∧ km9_ W z P F T C O m1 := by
  have hP := hk.2.1
  unfold f_X12_entries sen_
  rw [isp_m hm.1.1]
  simp only [Option.bind_some]
  rcases nat_ix x (n := P.length) (by omega) with ⟨e1, _⟩ | ⟨p, hp, rfl, e1, -⟩
  · rw [if_pos (bu_0 e1), e1]
    exact ⟨m, rfl, hm⟩
  rw [if_neg (bu_ne e1), e1, day_m]
  simp only [Option.bind_some]
  rcases nat_ix y (n := 100) (by omega) with ⟨e2, _⟩ | ⟨d, hd, rfl, e2, -⟩
  · rw [if_pos (bu_0 e2), e2]
    exact ⟨m, rfl, hm⟩
  rw [if_neg (bu_ne e2), e2]
  obtain ⟨m1, q1, k1⟩ := enf_m hk h2 hz hO hd (k := k) hm hp
  refine ⟨m1, ?_, k1⟩
  simp (disch := omega) only [↓reduceIte, ↓ns_m1, ns_let, ns_lef, ns_ltt, ns_ltf, ns_eqt, ns_eqf, ns_gd, nI_clamp, nI_add, pk_sub, pk_mul, ns_m1a, ns_m1b, ns_m1c, ns_m1d, ns_m1e, ns_m1f, ns_m1g, ns_un1, ns_un0, ns_day1, Option.bind_some, gi_si_self, gi_si_ne, gl_si, gi_sl, gl_sl_self, gl_sl_ne, if_true, if_false, ns_i0, ns_i1, ns_i2, ns_i3, ns_i4, ns_i5, ns_i6, ns_i7, ns_i8, ns_i9, ns_i10, ns_i11, ns_i12, ns_i13, ns_i20, ns_i23, ns_i24, ns_i31, ns_i50, ns_i60, ns_i99, ns_i100, ns_i144, ns_i200, ns_i255, ns_i700, ns_i880, ns_i899, ns_i900, ns_i901, ns_i999, ns_i1000, ns_i1440, ns_i4095, ns_i1000000, q1]
theorem charge_m {W : List (Nat × Nat × Nat)} {P : pl_} {F : List fa_} {T : Nat} {C : List (Nat × Nat × Nat)} (hk : kok_ W P F T C) (h2 : rok2_ F) {z : Nat} (hz : z < 4096) {O : List od_} (hO : oko_ O) {m : fm_} (hm : km9_ W z P F T C O m) (x y k : Int32) : ∃ m1, f_X12_charge x y k m = some (sch_ W z P F C O x y k, m1) ∧ km9_ W z P F T C O m1 := by
  have hP := hk.2.1
  unfold f_X12_charge sch_
  rw [isp_m hm.1.1]
  simp only [Option.bind_some]
  rcases nat_ix x (n := P.length) (by omega) with ⟨e1, _⟩ | ⟨p, hp, rfl, e1, -⟩
  · rw [if_pos (bu_0 e1), e1]
    exact ⟨m, rfl, hm⟩
  rw [if_neg (bu_ne e1), e1, day_m]
  simp only [Option.bind_some]
  rcases nat_ix y (n := 100) (by omega) with ⟨e2, _⟩ | ⟨d, hd, rfl, e2, -⟩
  · rw [if_pos (bu_0 e2), e2]
    exact ⟨m, rfl, hm⟩
  rw [if_neg (bu_ne e2), e2]
  obtain ⟨m1, q1, k1⟩ := enf_m hk h2 hz hO hd (k := k) hm hp
  obtain ⟨m2, q2, k2⟩ := ent_m hk h2 hz hO k1.1 k1.2.1 k1.2.2 hd hp k
  have hb := nen_b (en := fun e => enm_ W z P F C O e k p) d
  obtain ⟨m3, q3, k3⟩ := chg_m hk h2 hO hd (k := k) (z := z) (n := nen_ (fun e => enm_ W z P F C O e k p) d) k2 hp (by omega)
  refine ⟨m3, ?_, k3⟩
  simp only
  rw [owe_1, q1]
  simp only [Option.bind_some]
  rw [q2]
  simp only [Option.bind_some]
  rw [q3]
  rfl
theorem ac49_ {W : List (Nat × Nat × Nat)} {P : pl_} {F : List fa_} {T : Nat} {C : List (Nat × Nat × Nat)} (hk : kok_ W P F T C) (h2 : rok2_ F) {z : Nat} (hz : z < 4096) {O : List od_} (hO : oko_ O) {d : Nat} (hd : d < 100) {k : Int32} {m : fm_} (hm : km9_ W z P F T C O m) {f a p s : Nat} (hf : f < 10) (ha : a < 100) (hp : p < P.length) (hs : s ≤ 999000) (hfl : gi_ m 140 p = nI f) : ∃ m1, f_X12_account_49 (nI f) (nI a) (nI d) k (nI s) (nI p) (nI 0) (nI 0) m = f_X12_account_34 (nI f) (nI a) (nI d) k (nI (s + owe_ W z P F C O k a d p)) (nI (p + 1)) m1 ∧ km9_ W z P F T C O m1 := by
  have hP := hk.2.1
  have ei := List.getElem?_eq_getElem hp
  generalize hqq : P[p] = q at ei
  have q2 : q.2 = f → True := fun _ => trivial
  obtain ⟨⟨x, m1⟩, e, hx, k1⟩ := lp0_ (S := Int32 × fm_) (n := d + 1) (F := fun i st => f_X12_account_49 (nI f) (nI a) (nI d) k st.1 (nI p) (nI (nen_ (fun e => enm_ W z P F C O e k p) i)) (nI i) st.2) (I := fun i st => st.1 = nI (s + csm_ (fun e => enm_ W z P F C O e k p) (fun e v n => cdu_ O F p e k v n) a i) ∧ km9_ W z P F T C O st.2 ∧ gi_ st.2 140 p = nI f) (fun i st hi hI => by
    obtain ⟨x, m0⟩ := st
    obtain ⟨hx, i1, i2⟩ := hI
    have hx : x = nI (s + csm_ (fun e => enm_ W z P F C O e k p) (fun e v n => cdu_ O F p e k v n) a i) := hx
    subst hx
    have i1 : km9_ W z P F T C O m0 := i1
    have i2 : gi_ m0 140 p = nI f := i2
    obtain ⟨m1, en, k1⟩ := ent_m hk h2 hz hO i1.1 i1.2.1 i1.2.2 (show i < 100 by omega) hp k
    have f1 := fr_X12_enteredAt en
    have i2' : gi_ m1 140 p = nI f := (sa_gi f1 (by rfl)).trans i2
    have hb := nen_b (en := fun e => enm_ W z P F C O e k p) i
    have hc := csm_b (en := fun e => enm_ W z P F C O e k p) (cd := fun e v n => cdu_ O F p e k v n) (fun d v n => cdu_b hO.1) (a := a) i
    obtain ⟨m2, q3, k2⟩ := chg_m hk h2 hO (show i < 100 by omega) (k := k) (z := z) (n := nen_ (fun e => enm_ W z P F C O e k p) i) k1 hp (by omega)
    have f2 := fr_X12_chargeOf q3
    have i2'' : gi_ m2 140 p = nI f := (sa_gi f2 (by rfl)).trans i2'
    show ∃ s' : Int32 × fm_, f_X12_account_49 (nI f) (nI a) (nI d) k (nI (s + csm_ (fun e => enm_ W z P F C O e k p) (fun e v n => cdu_ O F p e k v n) a i)) (nI p) (nI (nen_ (fun e => enm_ W z P F C O e k p) i)) (nI i) m0 = f_X12_account_49 (nI f) (nI a) (nI d) k s'.1 (nI p) (nI (nen_ (fun e => enm_ W z P F C O e k p) i + (match enm_ W z P F C O i k p with | none => 0 | some _ => 1))) (nI (i + 1)) s'.2 ∧ s'.1 = nI (s + (csm_ (fun e => enm_ W z P F C O e k p) (fun e v n => cdu_ O F p e k v n) a i + (if a ≤ i then (match enm_ W z P F C O i k p with | none => 0 | some v => cdu_ O F p i k v (nen_ (fun e => enm_ W z P F C O e k p) i)) else 0))) ∧ km9_ W z P F T C O s'.2 ∧ gi_ s'.2 140 p = nI f
    generalize nen_ (fun e => enm_ W z P F C O e k p) i = n at hb q3
    generalize csm_ (fun e => enm_ W z P F C O e k p) (fun e v n => cdu_ O F p e k v n) a i = c at hc
    rw [e_X12_account_49]
    cases e : enm_ W z P F C O i k p with
    | none =>
      rw [e] at en q3
      have en : f_X12_enteredAt (nI p) (nI i) k m0 = some (-1, m1) := en
      have q3 : f_X12_chargeOf (nI p) (nI i) (nI n) M1_ k m1 = some (nI 0, m2) := q3
      by_cases q : a ≤ i
      · refine ⟨(nI (s + c), m2), ?_, by rw [if_pos q]; rfl, k2, i2''⟩
        simp (disch := omega) only [↓reduceIte, ↓ns_m1, ns_let, ns_lef, ns_ltt, ns_ltf, ns_eqt, ns_eqf, ns_gd, nI_clamp, nI_add, pk_sub, pk_mul, ns_m1a, ns_m1b, ns_m1c, ns_m1d, ns_m1e, ns_m1f, ns_m1g, ns_un1, ns_un0, ns_day1, Option.bind_some, gi_si_self, gi_si_ne, gl_si, gi_sl, gl_sl_self, gl_sl_ne, if_true, if_false, ns_i0, ns_i1, ns_i2, ns_i3, ns_i4, ns_i5, ns_i6, ns_i7, ns_i8, ns_i9, ns_i10, ns_i11, ns_i12, ns_i13, ns_i20, ns_i23, ns_i24, ns_i31, ns_i50, ns_i60, ns_i99, ns_i100, ns_i144, ns_i200, ns_i255, ns_i700, ns_i880, ns_i899, ns_i900, ns_i901, ns_i999, ns_i1000, ns_i1440, ns_i4095, ns_i1000000, i2, en, q3, Nat.add_zero]
      · refine ⟨(nI (s + c), m1), ?_, by rw [if_neg q]; rfl, k1, i2'⟩
        simp (disch := omega) only [↓reduceIte, ↓ns_m1, ns_let, ns_lef, ns_ltt, ns_ltf, ns_eqt, ns_eqf, ns_gd, nI_clamp, nI_add, pk_sub, pk_mul, ns_m1a, ns_m1b, ns_m1c, ns_m1d, ns_m1e, ns_m1f, ns_m1g, ns_un1, ns_un0, ns_day1, Option.bind_some, gi_si_self, gi_si_ne, gl_si, gi_sl, gl_sl_self, gl_sl_ne, if_true, if_false, ns_i0, ns_i1, ns_i2, ns_i3, ns_i4, ns_i5, ns_i6, ns_i7, ns_i8, ns_i9, ns_i10, ns_i11, ns_i12, ns_i13, ns_i20, ns_i23, ns_i24, ns_i31, ns_i50, ns_i60, ns_i99, ns_i100, ns_i144, ns_i200, ns_i255, ns_i700, ns_i880, ns_i899, ns_i900, ns_i901, ns_i999, ns_i1000, ns_i1440, ns_i4095, ns_i1000000, i2, en]
    | some v =>
      rw [e] at en q3
      have en : f_X12_enteredAt (nI p) (nI i) k m0 = some (nI v, m1) := en
      have q3 : f_X12_chargeOf (nI p) (nI i) (nI n) (nI v) k m1 = some (nI (cdu_ O F p i k v n), m2) := q3
      have hv := (enm_b h2 e).1
      have b1 := cdu_b hO.1 (F := F) (p := p) (d := i) (k := k) (v := v) (n := n)
      by_cases q : a ≤ i
      · refine ⟨(nI (s + (c + cdu_ O F p i k v n)), m2), ?_, by rw [if_pos q], k2, i2''⟩
        rw [← Nat.add_assoc]
        simp (disch := omega) only [↓reduceIte, ↓ns_m1, ns_let, ns_lef, ns_ltt, ns_ltf, ns_eqt, ns_eqf, ns_gd, nI_clamp, nI_add, pk_sub, pk_mul, ns_m1a, ns_m1b, ns_m1c, ns_m1d, ns_m1e, ns_m1f, ns_m1g, ns_un1, ns_un0, ns_day1, Option.bind_some, gi_si_self, gi_si_ne, gl_si, gi_sl, gl_sl_self, gl_sl_ne, if_true, if_false, ns_i0, ns_i1, ns_i2, ns_i3, ns_i4, ns_i5, ns_i6, ns_i7, ns_i8, ns_i9, ns_i10, ns_i11, ns_i12, ns_i13, ns_i20, ns_i23, ns_i24, ns_i31, ns_i50, ns_i60, ns_i99, ns_i100, ns_i144, ns_i200, ns_i255, ns_i700, ns_i880, ns_i899, ns_i900, ns_i901, ns_i999, ns_i1000, ns_i1440, ns_i4095, ns_i1000000, i2, en, q3]
      · refine ⟨(nI (s + c), m1), ?_, by rw [if_neg q]; rfl, k1, i2'⟩
        simp (disch := omega) only [↓reduceIte, ↓ns_m1, ns_let, ns_lef, ns_ltt, ns_ltf, ns_eqt, ns_eqf, ns_gd, nI_clamp, nI_add, pk_sub, pk_mul, ns_m1a, ns_m1b, ns_m1c, ns_m1d, ns_m1e, ns_m1f, ns_m1g, ns_un1, ns_un0, ns_day1, Option.bind_some, gi_si_self, gi_si_ne, gl_si, gi_sl, gl_sl_self, gl_sl_ne, if_true, if_false, ns_i0, ns_i1, ns_i2, ns_i3, ns_i4, ns_i5, ns_i6, ns_i7, ns_i8, ns_i9, ns_i10, ns_i11, ns_i12, ns_i13, ns_i20, ns_i23, ns_i24, ns_i31, ns_i50, ns_i60, ns_i99, ns_i100, ns_i144, ns_i200, ns_i255, ns_i700, ns_i880, ns_i899, ns_i900, ns_i901, ns_i999, ns_i1000, ns_i1440, ns_i4095, ns_i1000000, i2, en]) (s := (nI s, m)) ⟨rfl, hm, hfl⟩
  have hx : x = nI (s + owe_ W z P F C O k a d p) := hx
  have e : f_X12_account_49 (nI f) (nI a) (nI d) k (nI s) (nI p) (nI 0) (nI 0) m = f_X12_account_49 (nI f) (nI a) (nI d) k x (nI p) (nI (nen_ (fun e => enm_ W z P F C O e k p) (d + 1))) (nI (d + 1)) m1 := e
  refine ⟨m1, ?_, k1.1⟩
  rw [e, e_X12_account_49, hx]
  simp (disch := omega) only [↓reduceIte, ↓ns_m1, ns_let, ns_lef, ns_ltt, ns_ltf, ns_eqt, ns_eqf, ns_gd, nI_clamp, nI_add, pk_sub, pk_mul, ns_m1a, ns_m1b, ns_m1c, ns_m1d, ns_m1e, ns_m1f, ns_m1g, ns_un1, ns_un0, ns_day1, Option.bind_some, gi_si_self, gi_si_ne, gl_si, gi_sl, gl_sl_self, gl_sl_ne, if_true, if_false, ns_i0, ns_i1, ns_i2, ns_i3, ns_i4, ns_i5, ns_i6, ns_i7, ns_i8, ns_i9, ns_i10, ns_i11, ns_i12, ns_i13, ns_i20, ns_i23, ns_i24, ns_i31, ns_i50, ns_i60, ns_i99, ns_i100, ns_i144, ns_i200, ns_i255, ns_i700, ns_i880, ns_i899, ns_i900, ns_i901, ns_i999, ns_i1000, ns_i1440, ns_i4095, ns_i1000000]
theorem account_m1 {W : List (Nat × Nat × Nat)} {P : pl_} {F : List fa_} {T : Nat} {C : List (Nat × Nat × Nat)} (hk : kok_ W P F T C) (h2 : rok2_ F) {z : Nat} (hz : z < 4096) {O : List od_} (hO : oko_ O) {d : Nat} (hd : d < 100) {k : Int32} {m : fm_} (hm : km9_ W z P F T C O m) (hPf : ∀ q ∈ P, q.2 < 10) {f a : Nat} (hf : f < 10) (ha : a < 100) : ∃ m1, f_X12_account_34 (nI f) (nI a) (nI d) k (nI 0) (nI 0) m = some (nI (fls_ P (owe_ W z P F C O k a d) f P.length), m1) ∧ km9_ W z P F T C O m1 := by
  have hP := hk.2.1
  obtain ⟨⟨x, m1⟩, e, hx, k1⟩ := lp0_ (S := Int32 × fm_) (n := P.length) (F := fun i s => f_X12_account_34 (nI f) (nI a) (nI d) k s.1 (nI i) s.2) (I := fun i s => s.1 = nI (fls_ P (owe_ W z P F C O k a d) f i) ∧ km9_ W z P F T C O s.2) (fun i s hi hI => by
    obtain ⟨x, m0⟩ := s
    obtain ⟨hx, i1⟩ := hI
    have hx : x = nI (fls_ P (owe_ W z P F C O k a d) f i) := hx
    subst hx
    have i1 : km9_ W z P F T C O m0 := i1
    have hb := fls_b (P := P) (fl := f) (owe_b (W := W) (z := z) (P := P) (F := F) (C := C) hO (k := k) (a := a) hd) i
    have g2 := i1.1.1.1
    have ei := List.getElem?_eq_getElem hi
    generalize P[i] = q at ei
    have g71 := (i1.1.1.2 i q ei).2
    have hq := hPf q (List.mem_of_getElem? ei)
    have ep : plf_ P i = q.2 := by unfold plf_; rw [ei]
    show ∃ s' : Int32 × fm_, f_X12_account_34 (nI f) (nI a) (nI d) k (nI (fls_ P (owe_ W z P F C O k a d) f i)) (nI i) m0 = f_X12_account_34 (nI f) (nI a) (nI d) k s'.1 (nI (i + 1)) s'.2 ∧ s'.1 = nI (fls_ P (owe_ W z P F C O k a d) f i + (if plf_ P i = f then owe_ W z P F C O k a d i else 0)) ∧ km9_ W z P F T C O s'.2
    rw [ep]
    generalize fls_ P (owe_ W z P F C O k a d) f i = c at hb
    rw [e_X12_account_34]
    by_cases cf : q.2 = f
    · rw [cf] at g71
      obtain ⟨m1, e1, k1⟩ := ac49_ hk h2 hz hO hd (k := k) i1 hf ha hi (show c ≤ 999000 by omega) g71
      refine ⟨(nI (c + owe_ W z P F C O k a d i), m1), ?_, by rw [if_pos cf], k1⟩
      simp (disch := omega) only [↓reduceIte, ↓ns_m1, ns_let, ns_lef, ns_ltt, ns_ltf, ns_eqt, ns_eqf, ns_gd, nI_clamp, nI_add, pk_sub, pk_mul, ns_m1a, ns_m1b, ns_m1c, ns_m1d, ns_m1e, ns_m1f, ns_m1g, ns_un1, ns_un0, ns_day1, Option.bind_some, gi_si_self, gi_si_ne, gl_si, gi_sl, gl_sl_self, gl_sl_ne, if_true, if_false, ns_i0, ns_i1, ns_i2, ns_i3, ns_i4, ns_i5, ns_i6, ns_i7, ns_i8, ns_i9, ns_i10, ns_i11, ns_i12, ns_i13, ns_i20, ns_i23, ns_i24, ns_i31, ns_i50, ns_i60, ns_i99, ns_i100, ns_i144, ns_i200, ns_i255, ns_i700, ns_i880, ns_i899, ns_i900, ns_i901, ns_i999, ns_i1000, ns_i1440, ns_i4095, ns_i1000000, g2, e1]
    · refine ⟨(nI c, m0), ?_, by rw [if_neg cf]; rfl, i1⟩
      simp (disch := omega) only [↓reduceIte, ↓ns_m1, ns_let, ns_lef, ns_ltt, ns_ltf, ns_eqt, ns_eqf, ns_gd, nI_clamp, nI_add, pk_sub, pk_mul, ns_m1a, ns_m1b, ns_m1c, ns_m1d, ns_m1e, ns_m1f, ns_m1g, ns_un1, ns_un0, ns_day1, Option.bind_some, gi_si_self, gi_si_ne, gl_si, gi_sl, gl_sl_self, gl_sl_ne, if_true, if_false, ns_i0, ns_i1, ns_i2, ns_i3, ns_i4, ns_i5, ns_i6, ns_i7, ns_i8, ns_i9, ns_i10, ns_i11, ns_i12, ns_i13, ns_i20, ns_i23, ns_i24, ns_i31, ns_i50, ns_i60, ns_i99, ns_i100, ns_i144, ns_i200, ns_i255, ns_i700, ns_i880, ns_i899, ns_i900, ns_i901, ns_i999, ns_i1000, ns_i1440, ns_i4095, ns_i1000000, g2]
      rw [e_X12_account_49]
      simp (disch := omega) only [↓reduceIte, ↓ns_m1, ns_let, ns_lef, ns_ltt, ns_ltf, ns_eqt, ns_eqf, ns_gd, nI_clamp, nI_add, pk_sub, pk_mul, ns_m1a, ns_m1b, ns_m1c, ns_m1d, ns_m1e, ns_m1f, ns_m1g, ns_un1, ns_un0, ns_day1, Option.bind_some, gi_si_self, gi_si_ne, gl_si, gi_sl, gl_sl_self, gl_sl_ne, if_true, if_false, ns_i0, ns_i1, ns_i2, ns_i3, ns_i4, ns_i5, ns_i6, ns_i7, ns_i8, ns_i9, ns_i10, ns_i11, ns_i12, ns_i13, ns_i20, ns_i23, ns_i24, ns_i31, ns_i50, ns_i60, ns_i99, ns_i100, ns_i144, ns_i200, ns_i255, ns_i700, ns_i880, ns_i899, ns_i900, ns_i901, ns_i999, ns_i1000, ns_i1440, ns_i4095, ns_i1000000, g71]) (s := (nI 0, m)) ⟨rfl, hm⟩
  have hx : x = nI (fls_ P (owe_ W z P F C O k a d) f P.length) := hx
  have e : f_X12_account_34 (nI f) (nI a) (nI d) k (nI 0) (nI 0) m = f_X12_account_34 (nI f) (nI a) (nI d) k x (nI P.length) m1 := e
  have g2 : gi_ m1 106 57 = nI P.length := k1.1.1.1
  refine ⟨m1, ?_, k1⟩
  rw [e, e_X12_account_34, hx]
  simp (disch := omega) only [↓reduceIte, ↓ns_m1, ns_let, ns_lef, ns_ltt, ns_ltf, ns_eqt, ns_eqf, ns_gd, nI_clamp, nI_add, pk_sub, pk_mul, ns_m1a, ns_m1b, ns_m1c, ns_m1d, ns_m1e, ns_m1f, ns_m1g, ns_un1, ns_un0, ns_day1, Option.bind_some, gi_si_self, gi_si_ne, gl_si, gi_sl, gl_sl_self, gl_sl_ne, if_true, if_false, ns_i0, ns_i1, ns_i2, ns_i3, ns_i4, ns_i5, ns_i6, ns_i7, ns_i8, ns_i9, ns_i10, ns_i11, ns_i12, ns_i13, ns_i20, ns_i23, ns_i24, ns_i31, ns_i50, ns_i60, ns_i99, ns_i100, ns_i144, ns_i200, ns_i255, ns_i700, ns_i880, ns_i899, ns_i900, ns_i901, ns_i999, ns_i1000, ns_i1440, ns_i4095, ns_i1000000, g2]
theorem account_m {W : List (Nat × Nat × Nat)} {P : pl_} {F : List fa_} {T : Nat} {C : List (Nat × Nat × Nat)} (hk : kok_ W P F T C) (h2 : rok2_ F) {z : Nat} (hz : z < 4096) {O : List od_} (hO : oko_ O) {m : fm_} (hm : km9_ W z P F T C O m) (hPf : ∀ q ∈ P, q.2 < 10) (x y w k : Int32) : ∃ m1, f_X12_account x y w k m = some (sac_ W z P F C O x y w k, m1) ∧ km9_ W z P F T C O m1 := by
  unfold f_X12_account sac_
  rw [iss_m]
  simp only [Option.bind_some]
  rcases nat_ix x (n := 10) (by omega) with ⟨e1, _⟩ | ⟨f, hf, rfl, e1, -⟩
  · rw [if_pos (bu_0 e1), e1]; exact ⟨m, rfl, hm⟩
  rw [if_neg (bu_ne e1), e1, day_m]
  simp only [Option.bind_some]
  rcases nat_ix y (n := 100) (by omega) with ⟨e2, _⟩ | ⟨a, ha, rfl, e2, -⟩
  · rw [if_pos (bu_0 e2), e2]; exact ⟨m, rfl, hm⟩
  rw [if_neg (bu_ne e2), e2, day_m]
  simp only [Option.bind_some]
  rcases nat_ix w (n := 100) (by omega) with ⟨e3, _⟩ | ⟨d, hd, rfl, e3, -⟩
  · rw [if_pos (bu_0 e3), e3]; exact ⟨m, rfl, hm⟩
  rw [if_neg (bu_ne e3), e3]
  simp only
  by_cases c : a ≤ d
  · obtain ⟨m1, q1, k1⟩ := account_m1 hk h2 hz hO hd (k := k) hm hPf hf ha
    simp only [if_pos c]
    refine ⟨m1, ?_, k1⟩
    simp (disch := omega) only [↓reduceIte, ↓ns_m1, ns_let, ns_lef, ns_ltt, ns_ltf, ns_eqt, ns_eqf, ns_gd, nI_clamp, nI_add, pk_sub, pk_mul, ns_m1a, ns_m1b, ns_m1c, ns_m1d, ns_m1e, ns_m1f, ns_m1g, ns_un1, ns_un0, ns_day1, Option.bind_some, gi_si_self, gi_si_ne, gl_si, gi_sl, gl_sl_self, gl_sl_ne, if_true, if_false, ns_i0, ns_i1, ns_i2, ns_i3, ns_i4, ns_i5, ns_i6, ns_i7, ns_i8, ns_i9, ns_i10, ns_i11, ns_i12, ns_i13, ns_i20, ns_i23, ns_i24, ns_i31, ns_i50, ns_i60, ns_i99, ns_i100, ns_i144, ns_i200, ns_i255, ns_i700, ns_i880, ns_i899, ns_i900, ns_i901, ns_i999, ns_i1000, ns_i1440, ns_i4095, ns_i1000000, q1]
  · simp only [if_neg c]
    refine ⟨m, ?_, hm⟩
    simp (disch := omega) only [↓reduceIte, ↓ns_m1, ns_let, ns_lef, ns_ltt, ns_ltf, ns_eqt, ns_eqf, ns_gd, nI_clamp, nI_add, pk_sub, pk_mul, ns_m1a, ns_m1b, ns_m1c, ns_m1d, ns_m1e, ns_m1f, ns_m1g, ns_un1, ns_un0, ns_day1, Option.bind_some, gi_si_self, gi_si_ne, gl_si, gi_sl, gl_sl_self, gl_sl_ne, if_true, if_false, ns_i0, ns_i1, ns_i2, ns_i3, ns_i4, ns_i5, ns_i6, ns_i7, ns_i8, ns_i9, ns_i10, ns_i11, ns_i12, ns_i13, ns_i20, ns_i23, ns_i24, ns_i31, ns_i50, ns_i60, ns_i99, ns_i100, ns_i144, ns_i200, ns_i255, ns_i700, ns_i880, ns_i899, ns_i900, ns_i901, ns_i999, ns_i1000, ns_i1440, ns_i4095, ns_i1000000]
theorem back_m {W : List (Nat × Nat × Nat)} {P : pl_} {F : List fa_} {T : Nat} {C : List (Nat × Nat × Nat)} (hk : kok_ W P F T C) (h2 : rok2_ F) {z : Nat} (hz : z < 4096) {O : List od_} (hO : oko_ O) {m : fm_} (hm : km9_ W z P F T C O m) (hPf : ∀ q ∈ P, q.2 < 10) (x y w k l : Int32) : ∃ m1, f_X12_back x y w k l m = some (sbk_ W z P F C O x y w k l, m1) ∧ km9_ W z P F T C O m1 := by
  obtain ⟨m1, q1, k1⟩ := account_m hk h2 hz hO hm hPf x y w k
  obtain ⟨m2, q2, k2⟩ := account_m hk h2 hz hO k1 hPf x y w l
  unfold f_X12_back sbk_
  unfold sac_ at q1 q2
  rw [iss_m]
  simp only [Option.bind_some]
  rcases nat_ix x (n := 10) (by omega) with ⟨e1, _⟩ | ⟨f, hf, rfl, e1, -⟩
  · rw [if_pos (bu_0 e1), e1]; exact ⟨m, rfl, hm⟩
  rw [if_neg (bu_ne e1), e1, day_m]
  simp only [Option.bind_some]
  rcases nat_ix y (n := 100) (by omega) with ⟨e2, _⟩ | ⟨a, ha, rfl, e2, -⟩
  · rw [if_pos (bu_0 e2), e2]; exact ⟨m, rfl, hm⟩
  rw [if_neg (bu_ne e2), e2, day_m]
  simp only [Option.bind_some]
  rcases nat_ix w (n := 100) (by omega) with ⟨e3, _⟩ | ⟨d, hd, rfl, e3, -⟩
  · rw [if_pos (bu_0 e3), e3]; exact ⟨m, rfl, hm⟩
  rw [if_neg (bu_ne e3), e3]
  simp only [e1, e2, e3] at q1 q2 ⊢
  by_cases c : a ≤ d
  · simp only [if_pos c] at q1 q2 ⊢
    rw [if_pos (nI_le c (by omega)), q1]
    simp only [Option.bind_some]
    rw [q2]
    exact ⟨m2, rfl, k2⟩
  · simp only [if_neg c]
    rw [if_neg (nI_ge (by omega) (by omega))]
    exact ⟨m, rfl, hm⟩
