/-! ===== isDouble, the reference ===== -/
theorem mem_rdk {F : List fa_} {d : Nat} {k : Int32} {a : Nat} {q : fa_} (hq : F[a]? = some q) : a ∈ rdk_ F d k F.length ↔ q.1 = 1 ∧ q.2.2.2.2.1 = d ∧ cn_ q k = true := by
  constructor
  · intro h
    obtain ⟨_, u, e, e1, e2, e3⟩ := rdk_mem h
    rw [hq] at e
    cases e
    exact ⟨e1, e2, e3⟩
  · rintro ⟨h1, h2, h3⟩
    subst h2
    exact rdk_in hq h1 (List.getElem?_eq_some_iff.mp hq).1 h3
theorem exa_m {W : List (Nat × Nat × Nat)} {P : pl_} {F : List fa_} {T : Nat} {C : List (Nat × Nat × Nat)} (hk : kok_ W P F T C) {m : fm_} (hm : kwm_ W P F T C m) {r p : Nat} {q : fa_} (hq : F[r]? = some q) (h1 : q.1 = 1) (hp : p < P.length) : f_X12_price (nI r) (nI p) m = some (nI (lkn_ (fq_ F r).2.2.2.2.2.2 (psg_ P p)), m) := by
  have hrl := (List.getElem?_eq_some_iff.mp hq).1
  have hl := hk.2.2.1.1
  have hPl := hk.2.1
  have g := (hm.2.1.2.2 r q hq).2.2.2.2.2.1 h1
  rw [lk_mall (show r < 200 by omega) (show p < 10 by omega) g.2 (psg_m hm.1 hp), lkn_e, fq_s hq]
theorem dm80_ {W : List (Nat × Nat × Nat)} {P : pl_} {F : List fa_} {T : Nat} {C : List (Nat × Nat × Nat)} (hk : kok_ W P F T C) {m : fm_} (hm : kwm_ W P F T C m) {d p a : Nat} {qa : fa_} (hd : d < 100) (hp : p < P.length) (k : Int32) (ha : F[a]? = some qa) (ha1 : qa.1 = 1) : ∀ (c j : Nat) (v : Bool), j + c = a → ∃ v' : Bool, f_X12_isDouble_80 (nI p) (nI d) k (b01_ v) (nI a) (nI j) m = f_X12_isDouble_23 (nI p) (nI d) k (b01_ v') (nI (a + 1)) m ∧ (v' = true ↔ v = true ∨ ∃ b : Nat, j ≤ b ∧ b < a ∧ b ∈ rdk_ F d k F.length ∧ exa_ F P p b ∧ tgr_ W F C a b = false) := by
  have hal := (List.getElem?_eq_some_iff.mp ha).1
  have hl := hk.2.2.1.1
  have e1t : b01_ true = nI 1 := rfl
  have e0t : b01_ false = nI 0 := rfl
  intro c
  induction c with
  | zero =>
    intro j v hj
    refine ⟨v, ?_, ⟨fun h => Or.inl h, fun h => ?_⟩⟩
    · rw [e_X12_isDouble_80]
      simp (disch := omega) only [↓reduceIte, ↓ns_m1, ns_let, ns_lef, ns_ltt, ns_ltf, ns_eqt, ns_eqf, ns_gd, nI_clamp, nI_add, pk_sub, pk_mul, ns_m1a, ns_m1b, ns_m1c, ns_m1d, ns_m1e, ns_m1f, ns_m1g, ns_un1, ns_un0, ns_day1, Option.bind_some, gi_si_self, gi_si_ne, gl_si, gi_sl, gl_sl_self, gl_sl_ne, if_true, if_false, ns_i0, ns_i1, ns_i2, ns_i3, ns_i4, ns_i5, ns_i6, ns_i7, ns_i8, ns_i9, ns_i10, ns_i11, ns_i12, ns_i13, ns_i20, ns_i23, ns_i24, ns_i31, ns_i50, ns_i60, ns_i99, ns_i100, ns_i144, ns_i200, ns_i255, ns_i700, ns_i880, ns_i899, ns_i900, ns_i901, ns_i999, ns_i1000, ns_i1440, ns_i4095, ns_i1000000]
    · rcases h with h | ⟨b, h1, h2, _⟩
      · exact h
      · omega
  | succ c ih =>
    intro j v hj
    have hjl : j < F.length := by omega
    have hq := List.getElem?_eq_getElem hjl
    generalize F[j] = q at hq
    have hw := hk.2.2.1.2.2 q (List.mem_of_getElem? hq)
    have w1 := hw.1
    have w2 := hw.2.2.2.2.1
    obtain ⟨g1, g2, g3, g4, g5, g6, g7⟩ := hm.2.1.2.2 j q hq
    have mem := mem_rdk (d := d) (k := k) hq
    have ct := cnt_m hk.2.2.1 hm.2.1 hq k
    have fin : ∀ v1 : Bool, (v1 = true ↔ v = true ∨ (j ∈ rdk_ F d k F.length ∧ exa_ F P p j ∧ tgr_ W F C a j = false)) → f_X12_isDouble_80 (nI p) (nI d) k (b01_ v) (nI a) (nI j) m = f_X12_isDouble_80 (nI p) (nI d) k (b01_ v1) (nI a) (nI (j + 1)) m → ∃ v' : Bool, f_X12_isDouble_80 (nI p) (nI d) k (b01_ v) (nI a) (nI j) m = f_X12_isDouble_23 (nI p) (nI d) k (b01_ v') (nI (a + 1)) m ∧ (v' = true ↔ v = true ∨ ∃ b : Nat, j ≤ b ∧ b < a ∧ b ∈ rdk_ F d k F.length ∧ exa_ F P p b ∧ tgr_ W F C a b = false) := fun v1 hv1 hs => by
      obtain ⟨v', h1, h2⟩ := ih (j + 1) v1 (by omega)
      refine ⟨v', by rw [hs, h1], ?_⟩
      rw [h2, hv1]
      constructor
      · rintro ((h | h) | ⟨b, b1, b2, b3⟩)
        · exact Or.inl h
        · exact Or.inr ⟨j, Nat.le_refl _, by omega, h⟩
        · exact Or.inr ⟨b, by omega, b2, b3⟩
      · rintro (h | ⟨b, b1, b2, b3⟩)
        · exact Or.inl (Or.inl h)
        · by_cases e : b = j
          · rw [e] at b3; exact Or.inl (Or.inr b3)
          · exact Or.inr ⟨b, by omega, b2, b3⟩
    cases v with
    | true =>
      refine fin true (by simp) ?_
      rw [e_X12_isDouble_80]
      simp (disch := omega) only [↓reduceIte, ↓ns_m1, ns_let, ns_lef, ns_ltt, ns_ltf, ns_eqt, ns_eqf, ns_gd, nI_clamp, nI_add, pk_sub, pk_mul, ns_m1a, ns_m1b, ns_m1c, ns_m1d, ns_m1e, ns_m1f, ns_m1g, ns_un1, ns_un0, ns_day1, Option.bind_some, gi_si_self, gi_si_ne, gl_si, gi_sl, gl_sl_self, gl_sl_ne, if_true, if_false, ns_i0, ns_i1, ns_i2, ns_i3, ns_i4, ns_i5, ns_i6, ns_i7, ns_i8, ns_i9, ns_i10, ns_i11, ns_i12, ns_i13, ns_i20, ns_i23, ns_i24, ns_i31, ns_i50, ns_i60, ns_i99, ns_i100, ns_i144, ns_i200, ns_i255, ns_i700, ns_i880, ns_i899, ns_i900, ns_i901, ns_i999, ns_i1000, ns_i1440, ns_i4095, ns_i1000000, e1t]
    | false =>
      by_cases c1 : q.1 = 1
      · by_cases c2 : q.2.2.2.2.1 = d
        · by_cases c3 : cn_ q k = true
          · have eb : b01_ (cn_ q k) = nI 1 := by rw [c3]; rfl
            have pr := exa_m hk hm hq c1 hp
            have lb := lkn_b (fq_ F j).2.2.2.2.2.2 (psg_ P p)
            have tg := tog_m hk hm ha ha1 hq c1
            by_cases c4 : lkn_ (fq_ F j).2.2.2.2.2.2 (psg_ P p) = 0
            · cases c5 : tgr_ W F C a j with
              | true =>
                rw [c5] at tg
                refine fin false (by simp [c5]) ?_
                rw [e_X12_isDouble_80]
                simp (disch := omega) only [↓reduceIte, ↓ns_m1, ns_let, ns_lef, ns_ltt, ns_ltf, ns_eqt, ns_eqf, ns_gd, nI_clamp, nI_add, pk_sub, pk_mul, ns_m1a, ns_m1b, ns_m1c, ns_m1d, ns_m1e, ns_m1f, ns_m1g, ns_un1, ns_un0, ns_day1, Option.bind_some, gi_si_self, gi_si_ne, gl_si, gi_sl, gl_sl_self, gl_sl_ne, if_true, if_false, ns_i0, ns_i1, ns_i2, ns_i3, ns_i4, ns_i5, ns_i6, ns_i7, ns_i8, ns_i9, ns_i10, ns_i11, ns_i12, ns_i13, ns_i20, ns_i23, ns_i24, ns_i31, ns_i50, ns_i60, ns_i99, ns_i100, ns_i144, ns_i200, ns_i255, ns_i700, ns_i880, ns_i899, ns_i900, ns_i901, ns_i999, ns_i1000, ns_i1440, ns_i4095, ns_i1000000, e0t, g1, g5, ct, eb, pr, tg, e1t]
              | false =>
                rw [c5] at tg
                refine fin true ⟨fun _ => Or.inr ⟨mem.mpr ⟨c1, c2, c3⟩, c4, c5⟩, fun _ => rfl⟩ ?_
                rw [e_X12_isDouble_80]
                simp (disch := omega) only [↓reduceIte, ↓ns_m1, ns_let, ns_lef, ns_ltt, ns_ltf, ns_eqt, ns_eqf, ns_gd, nI_clamp, nI_add, pk_sub, pk_mul, ns_m1a, ns_m1b, ns_m1c, ns_m1d, ns_m1e, ns_m1f, ns_m1g, ns_un1, ns_un0, ns_day1, Option.bind_some, gi_si_self, gi_si_ne, gl_si, gi_sl, gl_sl_self, gl_sl_ne, if_true, if_false, ns_i0, ns_i1, ns_i2, ns_i3, ns_i4, ns_i5, ns_i6, ns_i7, ns_i8, ns_i9, ns_i10, ns_i11, ns_i12, ns_i13, ns_i20, ns_i23, ns_i24, ns_i31, ns_i50, ns_i60, ns_i99, ns_i100, ns_i144, ns_i200, ns_i255, ns_i700, ns_i880, ns_i899, ns_i900, ns_i901, ns_i999, ns_i1000, ns_i1440, ns_i4095, ns_i1000000, e0t, g1, g5, ct, eb, pr, tg, e1t]
            · refine fin false ⟨fun h => (by cases h), fun h => ?_⟩ ?_
              · rcases h with h | h
                · exact h
                · exact absurd h.2.1 c4
              · rw [e_X12_isDouble_80]
                simp (disch := omega) only [↓reduceIte, ↓ns_m1, ns_let, ns_lef, ns_ltt, ns_ltf, ns_eqt, ns_eqf, ns_gd, nI_clamp, nI_add, pk_sub, pk_mul, ns_m1a, ns_m1b, ns_m1c, ns_m1d, ns_m1e, ns_m1f, ns_m1g, ns_un1, ns_un0, ns_day1, Option.bind_some, gi_si_self, gi_si_ne, gl_si, gi_sl, gl_sl_self, gl_sl_ne, if_true, if_false, ns_i0, ns_i1, ns_i2, ns_i3, ns_i4, ns_i5, ns_i6, ns_i7, ns_i8, ns_i9, ns_i10, ns_i11, ns_i12, ns_i13, ns_i20, ns_i23, ns_i24, ns_i31, ns_i50, ns_i60, ns_i99, ns_i100, ns_i144, ns_i200, ns_i255, ns_i700, ns_i880, ns_i899, ns_i900, ns_i901, ns_i999, ns_i1000, ns_i1440, ns_i4095, ns_i1000000, e0t, g1, g5, ct, eb, pr]
          · have eb : b01_ (cn_ q k) = nI 0 := by rw [Bool.eq_false_iff.mpr c3]; rfl
            refine fin false ⟨fun h => (by cases h), fun h => ?_⟩ ?_
            · rcases h with h | h
              · exact h
              · exact absurd (mem.mp h.1).2.2 c3
            · rw [e_X12_isDouble_80]
              simp (disch := omega) only [↓reduceIte, ↓ns_m1, ns_let, ns_lef, ns_ltt, ns_ltf, ns_eqt, ns_eqf, ns_gd, nI_clamp, nI_add, pk_sub, pk_mul, ns_m1a, ns_m1b, ns_m1c, ns_m1d, ns_m1e, ns_m1f, ns_m1g, ns_un1, ns_un0, ns_day1, Option.bind_some, gi_si_self, gi_si_ne, gl_si, gi_sl, gl_sl_self, gl_sl_ne, if_true, if_false, ns_i0, ns_i1, ns_i2, ns_i3, ns_i4, ns_i5, ns_i6, ns_i7, ns_i8, ns_i9, ns_i10, ns_i11, ns_i12, ns_i13, ns_i20, ns_i23, ns_i24, ns_i31, ns_i50, ns_i60, ns_i99, ns_i100, ns_i144, ns_i200, ns_i255, ns_i700, ns_i880, ns_i899, ns_i900, ns_i901, ns_i999, ns_i1000, ns_i1440, ns_i4095, ns_i1000000, e0t, g1, g5, ct, eb]
        · refine fin false ⟨fun h => (by cases h), fun h => ?_⟩ ?_
          · rcases h with h | h
            · exact h
            · exact absurd (mem.mp h.1).2.1 c2
          · rw [e_X12_isDouble_80]
            simp (disch := omega) only [↓reduceIte, ↓ns_m1, ns_let, ns_lef, ns_ltt, ns_ltf, ns_eqt, ns_eqf, ns_gd, nI_clamp, nI_add, pk_sub, pk_mul, ns_m1a, ns_m1b, ns_m1c, ns_m1d, ns_m1e, ns_m1f, ns_m1g, ns_un1, ns_un0, ns_day1, Option.bind_some, gi_si_self, gi_si_ne, gl_si, gi_sl, gl_sl_self, gl_sl_ne, if_true, if_false, ns_i0, ns_i1, ns_i2, ns_i3, ns_i4, ns_i5, ns_i6, ns_i7, ns_i8, ns_i9, ns_i10, ns_i11, ns_i12, ns_i13, ns_i20, ns_i23, ns_i24, ns_i31, ns_i50, ns_i60, ns_i99, ns_i100, ns_i144, ns_i200, ns_i255, ns_i700, ns_i880, ns_i899, ns_i900, ns_i901, ns_i999, ns_i1000, ns_i1440, ns_i4095, ns_i1000000, e0t, g1, g5]
      · refine fin false ⟨fun h => (by cases h), fun h => ?_⟩ ?_
        · rcases h with h | h
          · exact h
          · exact absurd (mem.mp h.1).1 c1
        · rw [e_X12_isDouble_80]
          simp (disch := omega) only [↓reduceIte, ↓ns_m1, ns_let, ns_lef, ns_ltt, ns_ltf, ns_eqt, ns_eqf, ns_gd, nI_clamp, nI_add, pk_sub, pk_mul, ns_m1a, ns_m1b, ns_m1c, ns_m1d, ns_m1e, ns_m1f, ns_m1g, ns_un1, ns_un0, ns_day1, Option.bind_some, gi_si_self, gi_si_ne, gl_si, gi_sl, gl_sl_self, gl_sl_ne, if_true, if_false, ns_i0, ns_i1, ns_i2, ns_i3, ns_i4, ns_i5, ns_i6, ns_i7, ns_i8, ns_i9, ns_i10, ns_i11, ns_i12, ns_i13, ns_i20, ns_i23, ns_i24, ns_i31, ns_i50, ns_i60, ns_i99, ns_i100, ns_i144, ns_i200, ns_i255, ns_i700, ns_i880, ns_i899, ns_i900, ns_i901, ns_i999, ns_i1000, ns_i1440, ns_i4095, ns_i1000000, e0t, g1]
theorem dm23_ {W : List (Nat × Nat × Nat)} {P : pl_} {F : List fa_} {T : Nat} {C : List (Nat × Nat × Nat)} (hk : kok_ W P F T C) {m : fm_} (hm : kwm_ W P F T C m) {d p : Nat} (hd : d < 100) (hp : p < P.length) (k : Int32) : ∀ (c n : Nat) (v : Bool), n + c = F.length → ∃ v' : Bool, f_X12_isDouble_23 (nI p) (nI d) k (b01_ v) (nI n) m = some (b01_ v', m) ∧ (v' = true ↔ v = true ∨ ∃ a b : Nat, n ≤ a ∧ a < F.length ∧ b < a ∧ a ∈ rdk_ F d k F.length ∧ b ∈ rdk_ F d k F.length ∧ exa_ F P p a ∧ exa_ F P p b ∧ tgr_ W F C a b = false) := by
  have hl := hk.2.2.1.1
  have e1t : b01_ true = nI 1 := rfl
  have e0t : b01_ false = nI 0 := rfl
  intro c
  induction c with
  | zero =>
    intro n v hn
    refine ⟨v, ?_, ⟨fun h => Or.inl h, fun h => ?_⟩⟩
    · rw [e_X12_isDouble_23]
      cases v with
      | true =>
        simp (disch := omega) only [↓reduceIte, ↓ns_m1, ns_let, ns_lef, ns_ltt, ns_ltf, ns_eqt, ns_eqf, ns_gd, nI_clamp, nI_add, pk_sub, pk_mul, ns_m1a, ns_m1b, ns_m1c, ns_m1d, ns_m1e, ns_m1f, ns_m1g, ns_un1, ns_un0, ns_day1, Option.bind_some, gi_si_self, gi_si_ne, gl_si, gi_sl, gl_sl_self, gl_sl_ne, if_true, if_false, ns_i0, ns_i1, ns_i2, ns_i3, ns_i4, ns_i5, ns_i6, ns_i7, ns_i8, ns_i9, ns_i10, ns_i11, ns_i12, ns_i13, ns_i20, ns_i23, ns_i24, ns_i31, ns_i50, ns_i60, ns_i99, ns_i100, ns_i144, ns_i200, ns_i255, ns_i700, ns_i880, ns_i899, ns_i900, ns_i901, ns_i999, ns_i1000, ns_i1440, ns_i4095, ns_i1000000, hm.2.1.1, e1t]
      | false =>
        simp (disch := omega) only [↓reduceIte, ↓ns_m1, ns_let, ns_lef, ns_ltt, ns_ltf, ns_eqt, ns_eqf, ns_gd, nI_clamp, nI_add, pk_sub, pk_mul, ns_m1a, ns_m1b, ns_m1c, ns_m1d, ns_m1e, ns_m1f, ns_m1g, ns_un1, ns_un0, ns_day1, Option.bind_some, gi_si_self, gi_si_ne, gl_si, gi_sl, gl_sl_self, gl_sl_ne, if_true, if_false, ns_i0, ns_i1, ns_i2, ns_i3, ns_i4, ns_i5, ns_i6, ns_i7, ns_i8, ns_i9, ns_i10, ns_i11, ns_i12, ns_i13, ns_i20, ns_i23, ns_i24, ns_i31, ns_i50, ns_i60, ns_i99, ns_i100, ns_i144, ns_i200, ns_i255, ns_i700, ns_i880, ns_i899, ns_i900, ns_i901, ns_i999, ns_i1000, ns_i1440, ns_i4095, ns_i1000000, hm.2.1.1, e0t]
    · rcases h with h | ⟨a, b, h1, h2, _⟩
      · exact h
      · omega
  | succ c ih =>
    intro n v hn
    have hnl : n < F.length := by omega
    have hq := List.getElem?_eq_getElem hnl
    generalize F[n] = q at hq
    have hw := hk.2.2.1.2.2 q (List.mem_of_getElem? hq)
    have w1 := hw.1
    have w2 := hw.2.2.2.2.1
    obtain ⟨g1, g2, g3, g4, g5, g6, g7⟩ := hm.2.1.2.2 n q hq
    have mem := mem_rdk (d := d) (k := k) hq
    have ct := cnt_m hk.2.2.1 hm.2.1 hq k
    have fin : ∀ v1 : Bool, (v1 = true ↔ v = true ∨ ∃ b : Nat, b < n ∧ n ∈ rdk_ F d k F.length ∧ b ∈ rdk_ F d k F.length ∧ exa_ F P p n ∧ exa_ F P p b ∧ tgr_ W F C n b = false) → f_X12_isDouble_23 (nI p) (nI d) k (b01_ v) (nI n) m = f_X12_isDouble_23 (nI p) (nI d) k (b01_ v1) (nI (n + 1)) m → ∃ v' : Bool, f_X12_isDouble_23 (nI p) (nI d) k (b01_ v) (nI n) m = some (b01_ v', m) ∧ (v' = true ↔ v = true ∨ ∃ a b : Nat, n ≤ a ∧ a < F.length ∧ b < a ∧ a ∈ rdk_ F d k F.length ∧ b ∈ rdk_ F d k F.length ∧ exa_ F P p a ∧ exa_ F P p b ∧ tgr_ W F C a b = false) := fun v1 hv1 hs => by
      obtain ⟨v', h1, h2⟩ := ih (n + 1) v1 (by omega)
      refine ⟨v', by rw [hs, h1], ?_⟩
      rw [h2, hv1]
      constructor
      · rintro ((h | ⟨b, b1, b2⟩) | ⟨a, b, b1, b2⟩)
        · exact Or.inl h
        · exact Or.inr ⟨n, b, Nat.le_refl _, hnl, b1, b2⟩
        · exact Or.inr ⟨a, b, by omega, b2⟩
      · rintro (h | ⟨a, b, b1, b2, b3, b4⟩)
        · exact Or.inl (Or.inl h)
        · by_cases e : a = n
          · rw [e] at b3 b4; exact Or.inl (Or.inr ⟨b, b3, b4⟩)
          · exact Or.inr ⟨a, b, by omega, b2, b3, b4⟩
    have no : ¬ (n ∈ rdk_ F d k F.length ∧ exa_ F P p n) → (v = true ↔ v = true ∨ ∃ b : Nat, b < n ∧ n ∈ rdk_ F d k F.length ∧ b ∈ rdk_ F d k F.length ∧ exa_ F P p n ∧ exa_ F P p b ∧ tgr_ W F C n b = false) := fun hno => ⟨fun h => Or.inl h, fun h => by
      rcases h with h | ⟨b, _, b2, _, b4, _⟩
      · exact h
      · exact absurd ⟨b2, b4⟩ hno⟩
    by_cases c1 : q.1 = 1
    · by_cases c2 : q.2.2.2.2.1 = d
      · by_cases c3 : cn_ q k = true
        · have eb : b01_ (cn_ q k) = nI 1 := by rw [c3]; rfl
          have pr := exa_m hk hm hq c1 hp
          have lb := lkn_b (fq_ F n).2.2.2.2.2.2 (psg_ P p)
          by_cases c4 : lkn_ (fq_ F n).2.2.2.2.2.2 (psg_ P p) = 0
          · obtain ⟨v1, h1, h2⟩ := dm80_ hk hm hd hp k hq c1 n 0 v (by omega)
            refine fin v1 ?_ ?_
            · rw [h2]
              constructor
              · rintro (h | ⟨b, _, b2, b3, b4, b5⟩)
                · exact Or.inl h
                · exact Or.inr ⟨b, b2, mem.mpr ⟨c1, c2, c3⟩, b3, c4, b4, b5⟩
              · rintro (h | ⟨b, b1, _, b3, _, b5, b6⟩)
                · exact Or.inl h
                · exact Or.inr ⟨b, Nat.zero_le _, b1, b3, b5, b6⟩
            · rw [e_X12_isDouble_23]
              simp (disch := omega) only [↓reduceIte, ↓ns_m1, ns_let, ns_lef, ns_ltt, ns_ltf, ns_eqt, ns_eqf, ns_gd, nI_clamp, nI_add, pk_sub, pk_mul, ns_m1a, ns_m1b, ns_m1c, ns_m1d, ns_m1e, ns_m1f, ns_m1g, ns_un1, ns_un0, ns_day1, Option.bind_some, gi_si_self, gi_si_ne, gl_si, gi_sl, gl_sl_self, gl_sl_ne, if_true, if_false, ns_i0, ns_i1, ns_i2, ns_i3, ns_i4, ns_i5, ns_i6, ns_i7, ns_i8, ns_i9, ns_i10, ns_i11, ns_i12, ns_i13, ns_i20, ns_i23, ns_i24, ns_i31, ns_i50, ns_i60, ns_i99, ns_i100, ns_i144, ns_i200, ns_i255, ns_i700, ns_i880, ns_i899, ns_i900, ns_i901, ns_i999, ns_i1000, ns_i1440, ns_i4095, ns_i1000000, hm.2.1.1, g1, g5, ct, eb, pr, h1]
          · refine fin v (no fun x => c4 x.2) ?_
            rw [e_X12_isDouble_23]
            simp (disch := omega) only [↓reduceIte, ↓ns_m1, ns_let, ns_lef, ns_ltt, ns_ltf, ns_eqt, ns_eqf, ns_gd, nI_clamp, nI_add, pk_sub, pk_mul, ns_m1a, ns_m1b, ns_m1c, ns_m1d, ns_m1e, ns_m1f, ns_m1g, ns_un1, ns_un0, ns_day1, Option.bind_some, gi_si_self, gi_si_ne, gl_si, gi_sl, gl_sl_self, gl_sl_ne, if_true, if_false, ns_i0, ns_i1, ns_i2, ns_i3, ns_i4, ns_i5, ns_i6, ns_i7, ns_i8, ns_i9, ns_i10, ns_i11, ns_i12, ns_i13, ns_i20, ns_i23, ns_i24, ns_i31, ns_i50, ns_i60, ns_i99, ns_i100, ns_i144, ns_i200, ns_i255, ns_i700, ns_i880, ns_i899, ns_i900, ns_i901, ns_i999, ns_i1000, ns_i1440, ns_i4095, ns_i1000000, hm.2.1.1, g1, g5, ct, eb, pr]
        · have eb : b01_ (cn_ q k) = nI 0 := by rw [Bool.eq_false_iff.mpr c3]; rfl
          refine fin v (no fun x => c3 (mem.mp x.1).2.2) ?_
          rw [e_X12_isDouble_23]
          simp (disch := omega) only [↓reduceIte, ↓ns_m1, ns_let, ns_lef, ns_ltt, ns_ltf, ns_eqt, ns_eqf, ns_gd, nI_clamp, nI_add, pk_sub, pk_mul, ns_m1a, ns_m1b, ns_m1c, ns_m1d, ns_m1e, ns_m1f, ns_m1g, ns_un1, ns_un0, ns_day1, Option.bind_some, gi_si_self, gi_si_ne, gl_si, gi_sl, gl_sl_self, gl_sl_ne, if_true, if_false, ns_i0, ns_i1, ns_i2, ns_i3, ns_i4, ns_i5, ns_i6, ns_i7, ns_i8, ns_i9, ns_i10, ns_i11, ns_i12, ns_i13, ns_i20, ns_i23, ns_i24, ns_i31, ns_i50, ns_i60, ns_i99, ns_i100, ns_i144, ns_i200, ns_i255, ns_i700, ns_i880, ns_i899, ns_i900, ns_i901, ns_i999, ns_i1000, ns_i1440, ns_i4095, ns_i1000000, hm.2.1.1, g1, g5, ct, eb]
      · refine fin v (no fun x => c2 (mem.mp x.1).2.1) ?_
        rw [e_X12_isDouble_23]
        simp (disch := omega) only [↓reduceIte, ↓ns_m1, ns_let, ns_lef, ns_ltt, ns_ltf, ns_eqt, ns_eqf, ns_gd, nI_clamp, nI_add, pk_sub, pk_mul, ns_m1a, ns_m1b, ns_m1c, ns_m1d, ns_m1e, ns_m1f, ns_m1g, ns_un1, ns_un0, ns_day1, Option.bind_some, gi_si_self, gi_si_ne, gl_si, gi_sl, gl_sl_self, gl_sl_ne, if_true, if_false, ns_i0, ns_i1, ns_i2, ns_i3, ns_i4, ns_i5, ns_i6, ns_i7, ns_i8, ns_i9, ns_i10, ns_i11, ns_i12, ns_i13, ns_i20, ns_i23, ns_i24, ns_i31, ns_i50, ns_i60, ns_i99, ns_i100, ns_i144, ns_i200, ns_i255, ns_i700, ns_i880, ns_i899, ns_i900, ns_i901, ns_i999, ns_i1000, ns_i1440, ns_i4095, ns_i1000000, hm.2.1.1, g1, g5]
    · refine fin v (no fun x => c1 (mem.mp x.1).1) ?_
      rw [e_X12_isDouble_23]
      simp (disch := omega) only [↓reduceIte, ↓ns_m1, ns_let, ns_lef, ns_ltt, ns_ltf, ns_eqt, ns_eqf, ns_gd, nI_clamp, nI_add, pk_sub, pk_mul, ns_m1a, ns_m1b, ns_m1c, ns_m1d, ns_m1e, ns_m1f, ns_m1g, ns_un1, ns_un0, ns_day1, Option.bind_some, gi_si_self, gi_si_ne, gl_si, gi_sl, gl_sl_self, gl_sl_ne, if_true, if_false, ns_i0, ns_i1, ns_i2, ns_i3, ns_i4, ns_i5, ns_i6, ns_i7, ns_i8, ns_i9, ns_i10, ns_i11, ns_i12, ns_i13, ns_i20, ns_i23, ns_i24, ns_i31, ns_i50, ns_i60, ns_i99, ns_i100, ns_i144, ns_i200, ns_i255, ns_i700, ns_i880, ns_i899, ns_i900, ns_i901, ns_i999, ns_i1000, ns_i1440, ns_i4095, ns_i1000000, hm.2.1.1, g1]
/-- what isDouble must answer -/
def sdo_ (W : List (Nat × Nat × Nat)) (P : pl_) (F : List fa_) (C : List (Nat × Nat × Nat)) (x y k r : Int32) : Prop := match nat_ x P.length, nat_ y 100 with
  | some p, some d => ∃ v : Bool, r = b01_ v ∧ (v = true ↔ dbl_ W P F C (rdk_ F d k F.length) p F.length)
  | _, _ => r = -1
theorem sdo_u {W : List (Nat × Nat × Nat)} {P : pl_} {F : List fa_} {C : List (Nat × Nat × Nat)} {x y k r s : Int32} (h1 : sdo_ W P F C x y k r) (h2 : sdo_ W P F C x y k s) : r = s := by
  unfold sdo_ at h1 h2
  cases e1 : nat_ x P.length with
  | none => rw [e1] at h1 h2; exact h1.trans h2.symm
  | some p =>
    cases e2 : nat_ y 100 with
    | none => rw [e1, e2] at h1 h2; exact h1.trans h2.symm
    | some d =>
      rw [e1, e2] at h1 h2
      obtain ⟨v, a1, a2⟩ := h1
      obtain ⟨u, b1, b2⟩ := h2
      rw [a1, b1, Bool.eq_iff_iff.mpr (a2.trans b2.symm)]
theorem double_c {W : List (Nat × Nat × Nat)} {P : pl_} {F : List fa_} {T : Nat} {C : List (Nat × Nat × Nat)} (hk : kok_ W P F T C) {m : fm_} (hm : kwc_ W P F T C m) (x y k : Int32) : ∃ r m1, f_X11_isDouble x y k m = some (r, m1) ∧ sdo_ W P F C x y k r ∧ kwc_ W P F T C m1 := by
  have hPl := hk.2.1
  unfold f_X11_isDouble sdo_
  rw [ipd_c hm.1]
  rcases nat_ix x (n := P.length) (by omega) with ⟨e1, _⟩ | ⟨p, hp, rfl, e1, -⟩
  · rw [e1]
    exact ⟨-1, m, rfl, rfl, hm⟩
  rcases nat_ix y (n := 100) (by omega) with ⟨e2, _⟩ | ⟨d, hd, rfl, e2, -⟩
  · rw [e1, e2]
    exact ⟨-1, m, rfl, rfl, hm⟩
  obtain ⟨v, m1, q1, q2, q3⟩ := dou_c hk hm hd hp k
  rw [e1, e2]
  refine ⟨b01_ v, m1, ?_, ⟨v, rfl, q2⟩, q3⟩
  cases v with
  | true =>
    have q1 : f_X6_twoBear (nI p) (nI d) k m = some (nI 1, m1) := q1
    simp only [Option.isSome_some, Bool.and_self, if_true, Option.bind_some]
    simp (disch := omega) only [↓reduceIte, ↓ns_m1, ns_let, ns_lef, ns_ltt, ns_ltf, ns_eqt, ns_eqf, ns_gd, nI_clamp, nI_add, pk_sub, pk_mul, ns_m1a, ns_m1b, ns_m1c, ns_m1d, ns_m1e, ns_m1f, ns_m1g, ns_un1, ns_un0, ns_day1, Option.bind_some, gi_si_self, gi_si_ne, gl_si, gi_sl, gl_sl_self, gl_sl_ne, if_true, if_false, ns_i0, ns_i1, ns_i2, ns_i3, ns_i4, ns_i5, ns_i6, ns_i7, ns_i8, ns_i9, ns_i10, ns_i11, ns_i12, ns_i13, ns_i20, ns_i23, ns_i24, ns_i31, ns_i50, ns_i60, ns_i99, ns_i100, ns_i144, ns_i200, ns_i255, ns_i700, ns_i880, ns_i899, ns_i900, ns_i901, ns_i999, ns_i1000, ns_i1440, ns_i4095, ns_i1000000, q1]
    rfl
  | false =>
    have q1 : f_X6_twoBear (nI p) (nI d) k m = some (nI 0, m1) := q1
    simp only [Option.isSome_some, Bool.and_self, if_true, Option.bind_some]
    simp (disch := omega) only [↓reduceIte, ↓ns_m1, ns_let, ns_lef, ns_ltt, ns_ltf, ns_eqt, ns_eqf, ns_gd, nI_clamp, nI_add, pk_sub, pk_mul, ns_m1a, ns_m1b, ns_m1c, ns_m1d, ns_m1e, ns_m1f, ns_m1g, ns_un1, ns_un0, ns_day1, Option.bind_some, gi_si_self, gi_si_ne, gl_si, gi_sl, gl_sl_self, gl_sl_ne, if_true, if_false, ns_i0, ns_i1, ns_i2, ns_i3, ns_i4, ns_i5, ns_i6, ns_i7, ns_i8, ns_i9, ns_i10, ns_i11, ns_i12, ns_i13, ns_i20, ns_i23, ns_i24, ns_i31, ns_i50, ns_i60, ns_i99, ns_i100, ns_i144, ns_i200, ns_i255, ns_i700, ns_i880, ns_i899, ns_i900, ns_i901, ns_i999, ns_i1000, ns_i1440, ns_i4095, ns_i1000000, q1]
    rfl
theorem double_m {W : List (Nat × Nat × Nat)} {P : pl_} {F : List fa_} {T : Nat} {C : List (Nat × Nat × Nat)} (hk : kok_ W P F T C) {m : fm_} (hm : kwm_ W P F T C m) (x y k : Int32) : ∃ r, f_X12_isDouble x y k m = some (r, m) ∧ sdo_ W P F C x y k r := by
  have hPl := hk.2.1
  unfold f_X12_isDouble sdo_
  rw [isp_m hm.1]
  simp only [Option.bind_some]
  rcases nat_ix x (n := P.length) (by omega) with ⟨e1, _⟩ | ⟨p, hp, rfl, e1, -⟩
  · rw [if_pos (bu_0 e1), e1]
    exact ⟨-1, rfl, rfl⟩
  rw [if_neg (bu_ne e1), e1, day_m]
  simp only [Option.bind_some]
  rcases nat_ix y (n := 100) (by omega) with ⟨e2, _⟩ | ⟨d, hd, rfl, e2, -⟩
  · rw [if_pos (bu_0 e2), e2]
    exact ⟨-1, rfl, rfl⟩
  rw [if_neg (bu_ne e2), e2]
  obtain ⟨v, q1, q2⟩ := dm23_ hk hm hd hp k F.length 0 false (by omega)
  refine ⟨b01_ v, q1, v, rfl, ?_⟩
  rw [q2]
  constructor
  · rintro (h | ⟨a, b, _, h2, h3, h4, h5, h6⟩)
    · cases h
    · exact ⟨a, b, h4, h5, h3, h2, h6⟩
  · rintro ⟨a, b, h1, h2, h3, h4, h5⟩
    exact Or.inr ⟨a, b, Nat.zero_le _, h4, h3, h1, h2, h5⟩
