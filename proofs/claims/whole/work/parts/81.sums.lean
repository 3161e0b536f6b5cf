/-! ===== sums over days, the class ===== -/
def nen_ (en : Nat → Option Nat) : Nat → Nat
  | 0 => 0
  | n + 1 => nen_ en n + (match en n with | none => 0 | some _ => 1)
def csm_ (en : Nat → Option Nat) (cd : Nat → Nat → Nat → Nat) (a : Nat) : Nat → Nat
  | 0 => 0
  | n + 1 => csm_ en cd a n + (if a ≤ n then (match en n with | none => 0 | some v => cd n v (nen_ en n)) else 0)
theorem nen_b {en : Nat → Option Nat} : ∀ n, nen_ en n ≤ n
  | 0 => Nat.le_refl _
  | n + 1 => by
    have := nen_b (en := en) n
    unfold nen_
    cases en n with
    | none => show nen_ en n + 0 ≤ _; omega
    | some v => show nen_ en n + 1 ≤ _; omega
theorem csm_b {en : Nat → Option Nat} {cd : Nat → Nat → Nat → Nat} (h : ∀ d v n, cd d v n ≤ 999) {a : Nat} : ∀ n, csm_ en cd a n ≤ 999 * n
  | 0 => Nat.zero_le _
  | n + 1 => by
    have := csm_b (en := en) h (a := a) n
    unfold csm_
    by_cases c : a ≤ n
    · rw [if_pos c]
      cases en n with
      | none => show csm_ en cd a n + 0 ≤ _; omega
      | some v =>
        show csm_ en cd a n + cd n v (nen_ en n) ≤ _
        have := h n v (nen_ en n)
        omega
    · rw [if_neg c]; omega
theorem enl_b {mn : Nat → Nat} {op : Nat → Bool} {n : Nat} : ∀ (l : List Nat) (b : Option Nat), (∀ r ∈ l, mn r < n) → (∀ x, b = some x → x < n) → ∀ x, enl_ mn op l b = some x → x < n
  | [], _, _, hb, x, h => hb x h
  | r :: l, b, hl, hb, x, h => enl_b l _ (fun u hu => hl u (List.mem_cons_of_mem _ hu)) (by
      by_cases c : op r = true
      · rw [if_pos c]; exact enst_b (hl r (List.mem_cons_self ..)) hb
      · rw [if_neg c]; exact hb) x h
theorem enm_b {W : List (Nat × Nat × Nat)} {z : Nat} {P : pl_} {F : List fa_} (h2 : rok2_ F) {C : List (Nat × Nat × Nat)} {O : List od_} {d : Nat} {k : Int32} {p v : Nat} (h : enm_ W z P F C O d k p = some v) : v < 1440 ∧ ∃ j, inf_ O d O.length = some j := by
  unfold enm_ at h
  cases e : inf_ O d O.length with
  | none => rw [e] at h; cases h
  | some j =>
    rw [e] at h
    simp only at h
    refine ⟨?_, j, rfl⟩
    cases e2 : O[j]? with
    | none => rw [e2] at h; cases h
    | some o =>
      rw [e2] at h
      refine enl_b _ _ (fun r hr => ?_) (fun x hx => by cases hx) v h
      obtain ⟨q, hq, hq1, _⟩ := isrd_u (rdn_u _ _ hr).2
      exact mnt_2 h2 hq hq1
/-- all that the class needs to count and sum up to day d -/
def kc9_ (W : List (Nat × Nat × Nat)) (z : Nat) (P : pl_) (F : List fa_) (T : Nat) (C : List (Nat × Nat × Nat)) (O : List od_) (d : Nat) (k : Int32) (m : fm_) : Prop := kwc_ W P F T C m ∧ gi_ m 6 4 = nI z ∧ loc_ O m ∧ ∀ e, e ≤ d → chs_ W P F C e k m
theorem kc9_fr {W : List (Nat × Nat × Nat)} {z : Nat} {P : pl_} {F : List fa_} {T : Nat} {C : List (Nat × Nat × Nat)} {O : List od_} (hO : O.length ≤ 6) {d : Nat} {k : Int32} {m m1 : fm_} (h : kc9_ W z P F T C O d k m) (hs : sa_ w_X2_sumOf m m1) : kc9_ W z P F T C O d k m1 := ⟨kwc_ag h.1 (sa_ag (by rfl) hs), (sa_gi hs (by rfl)).trans h.2.1, loc_ag hO h.2.2.1 (sa_ag (by rfl) hs), fun e he => chs_cg (h.2.2.2 e he) (sa_gi hs (by rfl)) fun r _ => sa_gi hs (by rfl)⟩
theorem eah_c {W : List (Nat × Nat × Nat)} {P : pl_} {F : List fa_} {T : Nat} {C : List (Nat × Nat × Nat)} (hk : kok_ W P F T C) (h2 : rok2_ F) {z : Nat} (hz : z < 4096) {O : List od_} (hO : oko_ O) {d : Nat} (hd : d < 100) {k : Int32} {m : fm_} (hm : kc9_ W z P F T C O d k m) {p : Nat} (hp : p < P.length) : f_X2_entriesAhead (nI p) (nI d) m = some (nI (nen_ (fun e => enm_ W z P F C O e k p) d), m) := by
  obtain ⟨x, e, hx⟩ := lp0_ (n := d) (F := fun i x => f_X2_entriesAhead_5 (nI p) (nI d) x (nI i) m) (I := fun i x => x = nI (nen_ (fun e => enm_ W z P F C O e k p) i)) (fun i x hi hx => by
    have hx : x = nI (nen_ (fun e => enm_ W z P F C O e k p) i) := hx
    subst hx
    have en := ent_c hk h2 hz hO hm.1 hm.2.1 hm.2.2.1 (show i < 100 by omega) hp (hm.2.2.2 i (by omega))
    have hb := nen_b (en := fun e => enm_ W z P F C O e k p) i
    refine ⟨nI (nen_ (fun e => enm_ W z P F C O e k p) (i + 1)), ?_, rfl⟩
    show f_X2_entriesAhead_5 (nI p) (nI d) (nI (nen_ (fun e => enm_ W z P F C O e k p) i)) (nI i) m = f_X2_entriesAhead_5 (nI p) (nI d) (nI (nen_ (fun e => enm_ W z P F C O e k p) i + (match enm_ W z P F C O i k p with | none => 0 | some _ => 1))) (nI (i + 1)) m
    rw [e_X2_entriesAhead_5]
    cases e : enm_ W z P F C O i k p with
    | none =>
      rw [e] at en
      have en : f_X2_entryMinute (nI p) (nI i) m = some (-1, m) := en
      simp (disch := omega) only [↓reduceIte, ↓ns_m1, ns_let, ns_lef, ns_ltt, ns_ltf, ns_eqt, ns_eqf, ns_gd, nI_clamp, nI_add, pk_sub, pk_mul, ns_m1a, ns_m1b, ns_m1c, ns_m1d, ns_m1e, ns_m1f, ns_m1g, ns_un1, ns_un0, ns_day1, Option.bind_some, gi_si_self, gi_si_ne, gl_si, gi_sl, gl_sl_self, gl_sl_ne, if_true, if_false, ns_i0, ns_i1, ns_i2, ns_i3, ns_i4, ns_i5, ns_i6, ns_i7, ns_i8, ns_i9, ns_i10, ns_i11, ns_i12, ns_i13, ns_i20, ns_i23, ns_i24, ns_i31, ns_i50, ns_i60, ns_i99, ns_i100, ns_i144, ns_i200, ns_i255, ns_i700, ns_i880, ns_i899, ns_i900, ns_i901, ns_i999, ns_i1000, ns_i1440, ns_i4095, ns_i1000000, en, Nat.add_zero]
    | some v =>
      rw [e] at en
      have en : f_X2_entryMinute (nI p) (nI i) m = some (nI v, m) := en
      have := (enm_b h2 e).1
      simp (disch := omega) only [↓reduceIte, ↓ns_m1, ns_let, ns_lef, ns_ltt, ns_ltf, ns_eqt, ns_eqf, ns_gd, nI_clamp, nI_add, pk_sub, pk_mul, ns_m1a, ns_m1b, ns_m1c, ns_m1d, ns_m1e, ns_m1f, ns_m1g, ns_un1, ns_un0, ns_day1, Option.bind_some, gi_si_self, gi_si_ne, gl_si, gi_sl, gl_sl_self, gl_sl_ne, if_true, if_false, ns_i0, ns_i1, ns_i2, ns_i3, ns_i4, ns_i5, ns_i6, ns_i7, ns_i8, ns_i9, ns_i10, ns_i11, ns_i12, ns_i13, ns_i20, ns_i23, ns_i24, ns_i31, ns_i50, ns_i60, ns_i99, ns_i100, ns_i144, ns_i200, ns_i255, ns_i700, ns_i880, ns_i899, ns_i900, ns_i901, ns_i999, ns_i1000, ns_i1440, ns_i4095, ns_i1000000, en]) (s := nI 0) rfl
  have hx : x = nI (nen_ (fun e => enm_ W z P F C O e k p) d) := hx
  have e : f_X2_entriesAhead_5 (nI p) (nI d) (nI 0) (nI 0) m = f_X2_entriesAhead_5 (nI p) (nI d) x (nI d) m := e
  show f_X2_entriesAhead_5 (nI p) (nI d) (nI 0) (nI 0) m = _
  rw [e, e_X2_entriesAhead_5, hx]
  simp (disch := omega) only [↓reduceIte, ↓ns_m1, ns_let, ns_lef, ns_ltt, ns_ltf, ns_eqt, ns_eqf, ns_gd, nI_clamp, nI_add, pk_sub, pk_mul, ns_m1a, ns_m1b, ns_m1c, ns_m1d, ns_m1e, ns_m1f, ns_m1g, ns_un1, ns_un0, ns_day1, Option.bind_some, gi_si_self, gi_si_ne, gl_si, gi_sl, gl_sl_self, gl_sl_ne, if_true, if_false, ns_i0, ns_i1, ns_i2, ns_i3, ns_i4, ns_i5, ns_i6, ns_i7, ns_i8, ns_i9, ns_i10, ns_i11, ns_i12, ns_i13, ns_i20, ns_i23, ns_i24, ns_i31, ns_i50, ns_i60, ns_i99, ns_i100, ns_i144, ns_i200, ns_i255, ns_i700, ns_i880, ns_i899, ns_i900, ns_i901, ns_i999, ns_i1000, ns_i1440, ns_i4095, ns_i1000000]
theorem sum_c {W : List (Nat × Nat × Nat)} {P : pl_} {F : List fa_} {T : Nat} {C : List (Nat × Nat × Nat)} (hk : kok_ W P F T C) (h2 : rok2_ F) {z : Nat} (hz : z < 4096) {O : List od_} (hO : oko_ O) {d : Nat} (hd : d < 100) {k : Int32} {m : fm_} (hm : kc9_ W z P F T C O d k m) {p a : Nat} (hp : p < P.length) (ha : a ≤ 100) : ∃ m1, f_X2_sumOf (nI p) (nI a) (nI d) k m = some (nI (csm_ (fun e => enm_ W z P F C O e k p) (fun e v n => cdu_ O F p e k v n) a (d + 1)), m1) := by
  have hP := hk.2.1
  obtain ⟨⟨x, m1⟩, e, hx, _⟩ := lp0_ (S := Int32 × fm_) (n := d + 1) (F := fun i s => f_X2_sumOf_9 (nI p) (nI a) (nI d) k s.1 (nI (nen_ (fun e => enm_ W z P F C O e k p) i)) (nI i) s.2) (I := fun i s => s.1 = nI (csm_ (fun e => enm_ W z P F C O e k p) (fun e v n => cdu_ O F p e k v n) a i) ∧ kc9_ W z P F T C O d k s.2) (fun i s hi hI => by
    obtain ⟨x, m0⟩ := s
    obtain ⟨hx, i1⟩ := hI
    have hx : x = nI (csm_ (fun e => enm_ W z P F C O e k p) (fun e v n => cdu_ O F p e k v n) a i) := hx
    subst hx
    have i1 : kc9_ W z P F T C O d k m0 := i1
    have en := ent_c hk h2 hz hO i1.1 i1.2.1 i1.2.2.1 (show i < 100 by omega) hp (i1.2.2.2 i (by omega))
    have hb := nen_b (en := fun e => enm_ W z P F C O e k p) i
    have hc := csm_b (en := fun e => enm_ W z P F C O e k p) (cd := fun e v n => cdu_ O F p e k v n) (fun d v n => cdu_b hO.1) (a := a) i
    show ∃ s' : Int32 × fm_, f_X2_sumOf_9 (nI p) (nI a) (nI d) k (nI (csm_ (fun e => enm_ W z P F C O e k p) (fun e v n => cdu_ O F p e k v n) a i)) (nI (nen_ (fun e => enm_ W z P F C O e k p) i)) (nI i) m0 = f_X2_sumOf_9 (nI p) (nI a) (nI d) k s'.1 (nI (nen_ (fun e => enm_ W z P F C O e k p) i + (match enm_ W z P F C O i k p with | none => 0 | some _ => 1))) (nI (i + 1)) s'.2 ∧ s'.1 = nI (csm_ (fun e => enm_ W z P F C O e k p) (fun e v n => cdu_ O F p e k v n) a i + (if a ≤ i then (match enm_ W z P F C O i k p with | none => 0 | some v => cdu_ O F p i k v (nen_ (fun e => enm_ W z P F C O e k p) i)) else 0)) ∧ kc9_ W z P F T C O d k s'.2
    generalize nen_ (fun e => enm_ W z P F C O e k p) i = n at hb
    generalize csm_ (fun e => enm_ W z P F C O e k p) (fun e v n => cdu_ O F p e k v n) a i = c at hc
    rw [e_X2_sumOf_9]
    cases e : enm_ W z P F C O i k p with
    | none =>
      rw [e] at en
      have en : f_X2_entryMinute (nI p) (nI i) m0 = some (-1, m0) := en
      refine ⟨(nI c, m0), ?_, ?_, i1⟩
      · simp (disch := omega) only [↓reduceIte, ↓ns_m1, ns_let, ns_lef, ns_ltt, ns_ltf, ns_eqt, ns_eqf, ns_gd, nI_clamp, nI_add, pk_sub, pk_mul, ns_m1a, ns_m1b, ns_m1c, ns_m1d, ns_m1e, ns_m1f, ns_m1g, ns_un1, ns_un0, ns_day1, Option.bind_some, gi_si_self, gi_si_ne, gl_si, gi_sl, gl_sl_self, gl_sl_ne, if_true, if_false, ns_i0, ns_i1, ns_i2, ns_i3, ns_i4, ns_i5, ns_i6, ns_i7, ns_i8, ns_i9, ns_i10, ns_i11, ns_i12, ns_i13, ns_i20, ns_i23, ns_i24, ns_i31, ns_i50, ns_i60, ns_i99, ns_i100, ns_i144, ns_i200, ns_i255, ns_i700, ns_i880, ns_i899, ns_i900, ns_i901, ns_i999, ns_i1000, ns_i1440, ns_i4095, ns_i1000000, en, Nat.add_zero]
      · show nI c = nI (c + (if a ≤ i then 0 else 0))
        by_cases q : a ≤ i
        · rw [if_pos q]; rfl
        · rw [if_neg q]; rfl
    | some v =>
      rw [e] at en
      have en : f_X2_entryMinute (nI p) (nI i) m0 = some (nI v, m0) := en
      have hv := (enm_b h2 e).1
      by_cases q : a ≤ i
      · obtain ⟨m1, e1, a1⟩ := ask_c hk.2.2.1 i1.1.2.1 (show p < 10 by omega) (show i < 100 by omega) k
        have s1 : sa_ w_X2_sumOf m0 (si_ (si_ m1 93 5 (nI v)) 93 6 (nI n)) := sa_si (by rfl) (sa_si (by rfl) (sa_up (by rfl) (fr_X2_ask e1)))
        have k1 := kc9_fr hO.1.1 i1 s1
        obtain ⟨m2, e2⟩ := cdu_c hO hk.2.2.1 k1.2.2.1 k1.1.2.1 (show p < 10 by omega) (show i < 100 by omega) (v := v) (n := n) (by omega) (by omega) k (fun w w1 w7 => by
          by_cases c7 : w = 7
          · subst c7; rw [gi_si_self]; rfl
          rw [gi_si_ne (by omega)]
          by_cases c6 : w = 6
          · subst c6; rw [gi_si_self]; rfl
          rw [gi_si_ne (by omega), a1 w w1 (by omega), uwf_5 (by omega)])
        have k2 := kc9_fr hO.1.1 k1 (sa_up (by rfl) (fr_X2_chargeDue e2))
        have b1 := cdu_b hO.1 (F := F) (p := p) (d := i) (k := k) (v := v) (n := n)
        refine ⟨(nI (c + cdu_ O F p i k v n), m2), ?_, ?_, k2⟩
        · simp (disch := omega) only [↓reduceIte, ↓ns_m1, ns_let, ns_lef, ns_ltt, ns_ltf, ns_eqt, ns_eqf, ns_gd, nI_clamp, nI_add, pk_sub, pk_mul, ns_m1a, ns_m1b, ns_m1c, ns_m1d, ns_m1e, ns_m1f, ns_m1g, ns_un1, ns_un0, ns_day1, Option.bind_some, gi_si_self, gi_si_ne, gl_si, gi_sl, gl_sl_self, gl_sl_ne, if_true, if_false, ns_i0, ns_i1, ns_i2, ns_i3, ns_i4, ns_i5, ns_i6, ns_i7, ns_i8, ns_i9, ns_i10, ns_i11, ns_i12, ns_i13, ns_i20, ns_i23, ns_i24, ns_i31, ns_i50, ns_i60, ns_i99, ns_i100, ns_i144, ns_i200, ns_i255, ns_i700, ns_i880, ns_i899, ns_i900, ns_i901, ns_i999, ns_i1000, ns_i1440, ns_i4095, ns_i1000000, en, e1, e2]
        · rw [if_pos q]
      · refine ⟨(nI c, m0), ?_, ?_, i1⟩
        · simp (disch := omega) only [↓reduceIte, ↓ns_m1, ns_let, ns_lef, ns_ltt, ns_ltf, ns_eqt, ns_eqf, ns_gd, nI_clamp, nI_add, pk_sub, pk_mul, ns_m1a, ns_m1b, ns_m1c, ns_m1d, ns_m1e, ns_m1f, ns_m1g, ns_un1, ns_un0, ns_day1, Option.bind_some, gi_si_self, gi_si_ne, gl_si, gi_sl, gl_sl_self, gl_sl_ne, if_true, if_false, ns_i0, ns_i1, ns_i2, ns_i3, ns_i4, ns_i5, ns_i6, ns_i7, ns_i8, ns_i9, ns_i10, ns_i11, ns_i12, ns_i13, ns_i20, ns_i23, ns_i24, ns_i31, ns_i50, ns_i60, ns_i99, ns_i100, ns_i144, ns_i200, ns_i255, ns_i700, ns_i880, ns_i899, ns_i900, ns_i901, ns_i999, ns_i1000, ns_i1440, ns_i4095, ns_i1000000, en]
        · rw [if_neg q]; rfl) (s := (nI 0, m)) ⟨rfl, hm⟩
  have hx : x = nI (csm_ (fun e => enm_ W z P F C O e k p) (fun e v n => cdu_ O F p e k v n) a (d + 1)) := hx
  have e : f_X2_sumOf_9 (nI p) (nI a) (nI d) k (nI 0) (nI 0) (nI 0) m = f_X2_sumOf_9 (nI p) (nI a) (nI d) k x (nI (nen_ (fun e => enm_ W z P F C O e k p) (d + 1))) (nI (d + 1)) m1 := e
  refine ⟨m1, ?_⟩
  show f_X2_sumOf_9 (nI p) (nI a) (nI d) k (nI 0) (nI 0) (nI 0) m = _
  rw [e, e_X2_sumOf_9, hx]
  simp (disch := omega) only [↓reduceIte, ↓ns_m1, ns_let, ns_lef, ns_ltt, ns_ltf, ns_eqt, ns_eqf, ns_gd, nI_clamp, nI_add, pk_sub, pk_mul, ns_m1a, ns_m1b, ns_m1c, ns_m1d, ns_m1e, ns_m1f, ns_m1g, ns_un1, ns_un0, ns_day1, Option.bind_some, gi_si_self, gi_si_ne, gl_si, gi_sl, gl_sl_self, gl_sl_ne, if_true, if_false, ns_i0, ns_i1, ns_i2, ns_i3, ns_i4, ns_i5, ns_i6, ns_i7, ns_i8, ns_i9, ns_i10, ns_i11, ns_i12, ns_i13, ns_i20, ns_i23, ns_i24, ns_i31, ns_i50, ns_i60, ns_i99, ns_i100, ns_i144, ns_i200, ns_i255, ns_i700, ns_i880, ns_i899, ns_i900, ns_i901, ns_i999, ns_i1000, ns_i1440, ns_i4095, ns_i1000000]
