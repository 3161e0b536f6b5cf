/-! ===== the reference: operands and signs ===== -/
theorem nam_m {L : List Nat} {t : tkn_} {r : List tkn_} {m : fm_} (h : rsn_ L (t :: r) m) : f_X12_named m = some (if 120 ≤ t.1 then nI (t.1 - 119) else -1, m) := by
  have hh := rsn_h h
  have hb := srk_b hh.2.2.2.2.1
  unfold f_X12_named
  rw [hh.1]
  by_cases c1 : srk_ t.1 = 1
  · rw [if_pos (show nI (srk_ t.1) = 1 by rw [c1]; rfl)]
    have hw := hh.2.2.2.2.2.2 c1
    have w16 := hw 16 (by omega)
    have w17 := hw 17 (by omega)
    have w18 := hw 18 (by omega)
    have w19 := hw 19 (by omega)
    have w20 := hw 20 (by omega)
    have w21 := hw 21 (by omega)
    have w22 := hw 22 (by omega)
    have w3 := hw 3 (by omega)
    rw [show kd_ 16 = 120 from rfl, show Int64.ofNat (pkw_ (wdn_ 16) 0) = 1718969708 from rfl] at w16
    rw [show kd_ 17 = 121 from rfl, show Int64.ofNat (pkw_ (wdn_ 17) 0) = 1852797549 from rfl] at w17
    rw [show kd_ 18 = 122 from rfl, show Int64.ofNat (pkw_ (wdn_ 18) 0) = 1802071652 from rfl] at w18
    rw [show kd_ 19 = 123 from rfl, show Int64.ofNat (pkw_ (wdn_ 19) 0) = 1752132965 from rfl] at w19
    rw [show kd_ 20 = 124 from rfl, show Int64.ofNat (pkw_ (wdn_ 20) 0) = 6578553 from rfl] at w20
    rw [show kd_ 21 = 125 from rfl, show Int64.ofNat (pkw_ (wdn_ 21) 0) = 120299592184933 from rfl] at w21
    rw [show kd_ 22 = 126 from rfl, show Int64.ofNat (pkw_ (wdn_ 22) 0) = 28550419062547827 from rfl] at w22
    rw [show kd_ 3 = 127 from rfl, show Int64.ofNat (pkw_ (wdn_ 3) 0) = 427020088179 from rfl] at w3
    have ht := hh.2.2.2.2.1
    by_cases c : 120 ≤ t.1
    · rw [if_pos c]
      have : t.1 = 120 ∨ t.1 = 121 ∨ t.1 = 122 ∨ t.1 = 123 ∨ t.1 = 124 ∨ t.1 = 125 ∨ t.1 = 126 ∨ t.1 = 127 := by omega
      rcases this with e | e | e | e | e | e | e | e
      · rw [if_pos ((lg_cmp_eq _ _).mpr (w16.mpr e)), e]; rfl
      · rw [if_neg (fun q => by have := w16.mp ((lg_cmp_eq _ _).mp q); omega), if_pos ((lg_cmp_eq _ _).mpr (w17.mpr e)), e]; rfl
      · rw [if_neg (fun q => by have := w16.mp ((lg_cmp_eq _ _).mp q); omega), if_neg (fun q => by have := w17.mp ((lg_cmp_eq _ _).mp q); omega), if_pos ((lg_cmp_eq _ _).mpr (w18.mpr e)), e]; rfl
      · rw [if_neg (fun q => by have := w16.mp ((lg_cmp_eq _ _).mp q); omega), if_neg (fun q => by have := w17.mp ((lg_cmp_eq _ _).mp q); omega), if_neg (fun q => by have := w18.mp ((lg_cmp_eq _ _).mp q); omega), if_pos ((lg_cmp_eq _ _).mpr (w19.mpr e)), e]; rfl
      · rw [if_neg (fun q => by have := w16.mp ((lg_cmp_eq _ _).mp q); omega), if_neg (fun q => by have := w17.mp ((lg_cmp_eq _ _).mp q); omega), if_neg (fun q => by have := w18.mp ((lg_cmp_eq _ _).mp q); omega), if_neg (fun q => by have := w19.mp ((lg_cmp_eq _ _).mp q); omega), if_pos ((lg_cmp_eq _ _).mpr (w20.mpr e)), e]; rfl
      · rw [if_neg (fun q => by have := w16.mp ((lg_cmp_eq _ _).mp q); omega), if_neg (fun q => by have := w17.mp ((lg_cmp_eq _ _).mp q); omega), if_neg (fun q => by have := w18.mp ((lg_cmp_eq _ _).mp q); omega), if_neg (fun q => by have := w19.mp ((lg_cmp_eq _ _).mp q); omega), if_neg (fun q => by have := w20.mp ((lg_cmp_eq _ _).mp q); omega), if_pos ((lg_cmp_eq _ _).mpr (w21.mpr e)), e]; rfl
      · rw [if_neg (fun q => by have := w16.mp ((lg_cmp_eq _ _).mp q); omega), if_neg (fun q => by have := w17.mp ((lg_cmp_eq _ _).mp q); omega), if_neg (fun q => by have := w18.mp ((lg_cmp_eq _ _).mp q); omega), if_neg (fun q => by have := w19.mp ((lg_cmp_eq _ _).mp q); omega), if_neg (fun q => by have := w20.mp ((lg_cmp_eq _ _).mp q); omega), if_neg (fun q => by have := w21.mp ((lg_cmp_eq _ _).mp q); omega), if_pos ((lg_cmp_eq _ _).mpr (w22.mpr e)), e]; rfl
      · rw [if_neg (fun q => by have := w16.mp ((lg_cmp_eq _ _).mp q); omega), if_neg (fun q => by have := w17.mp ((lg_cmp_eq _ _).mp q); omega), if_neg (fun q => by have := w18.mp ((lg_cmp_eq _ _).mp q); omega), if_neg (fun q => by have := w19.mp ((lg_cmp_eq _ _).mp q); omega), if_neg (fun q => by have := w20.mp ((lg_cmp_eq _ _).mp q); omega), if_neg (fun q => by have := w21.mp ((lg_cmp_eq _ _).mp q); omega), if_neg (fun q => by have := w22.mp ((lg_cmp_eq _ _).mp q); omega), if_pos ((lg_cmp_eq _ _).mpr (w3.mpr e)), e]; rfl
    · rw [if_neg c, if_neg (fun q => by have := w16.mp ((lg_cmp_eq _ _).mp q); omega), if_neg (fun q => by have := w17.mp ((lg_cmp_eq _ _).mp q); omega), if_neg (fun q => by have := w18.mp ((lg_cmp_eq _ _).mp q); omega), if_neg (fun q => by have := w19.mp ((lg_cmp_eq _ _).mp q); omega), if_neg (fun q => by have := w20.mp ((lg_cmp_eq _ _).mp q); omega), if_neg (fun q => by have := w21.mp ((lg_cmp_eq _ _).mp q); omega), if_neg (fun q => by have := w22.mp ((lg_cmp_eq _ _).mp q); omega), if_neg (fun q => by have := w3.mp ((lg_cmp_eq _ _).mp q); omega)]
  · rw [if_neg (show ¬ nI (srk_ t.1) = 1 from show ¬ nI (srk_ t.1) = nI 1 from fun q => c1 ((nI_eq (by omega) (by omega)).mp q)), if_neg (fun q => c1 (srk_w (by omega)))]
def mym_ (ol : Nat) (al : Nat → Bool) : Prop := ∀ (m : fm_), gi_ m 106 54 = nI ol → (f_X12_mayAsk (-1) m = some (1, m) ∧ ∀ k, 1 ≤ k → k ≤ 8 → f_X12_mayAsk (nI k) m = some (b01_ (al k), m))
theorem mym_1 : mym_ 0 alc_ := fun m h => by
  unfold f_X12_mayAsk
  rw [h]
  refine ⟨rfl, fun k h1 h2 => ?_⟩
  have : k = 1 ∨ k = 2 ∨ k = 3 ∨ k = 4 ∨ k = 5 ∨ k = 6 ∨ k = 7 ∨ k = 8 := by omega
  rcases this with e | e | e | e | e | e | e | e <;> subst e <;> rfl
theorem mym_2 : mym_ 6 alf_ := fun m h => by
  unfold f_X12_mayAsk
  rw [h]
  refine ⟨rfl, fun k h1 h2 => ?_⟩
  have : k = 1 ∨ k = 2 ∨ k = 3 ∨ k = 4 ∨ k = 5 ∨ k = 6 ∨ k = 7 ∨ k = 8 := by omega
  rcases this with e | e | e | e | e | e | e | e <;> subst e <;> rfl
theorem mym_3 : mym_ 7 ala_ := fun m h => by
  unfold f_X12_mayAsk
  rw [h]
  refine ⟨rfl, fun k h1 h2 => ?_⟩
  have : k = 1 ∨ k = 2 ∨ k = 3 ∨ k = 4 ∨ k = 5 ∨ k = 6 ∨ k = 7 ∨ k = 8 := by omega
  rcases this with e | e | e | e | e | e | e | e <;> subst e <;> rfl
/-- a unit, where none opens -/
theorem opr_m {L : List Nat} {j ol b u : Nat} (hj : j < 6) {al : Nat → Bool} (hal : mym_ ol al) {K : List Nat} {S : cd_} {t : tkn_} {r : List tkn_} {m : fm_} (h : rt0_ L j ol b u K S (t :: r) m) (hb : b + S.length ≤ 700) (hu : u ≤ 50) {now : Nat} (hn : now ≤ 2) (ho : now = 0 → ¬ t.1 = 40 ∧ ¬ t.1 = 114) : (∃ f m1, runt_ al u (t :: r) = .inl f ∧ f_X12_operand (nI now) m = some (nI now, m1) ∧ flm_ f m1 ∧ mfr_ (700 * j + b) m m1) ∨ (∃ q m1, runt_ al u (t :: r) = .inr (q, r) ∧ f_X12_operand (nI now) m = some (nI (if now = 2 then 4 else 3), m1) ∧ rt0_ L j ol b (u + 1) K (S ++ [q]) r m1 ∧ mfr_ (700 * j + b) m m1) := by
  have hr := h.1
  have hh := rsn_h hr
  have hsb := srk_b hh.2.2.2.2.1
  have h2 : gi_ m 106 2 = nI 0 := hh.2.2.2.1
  have h6 := hh.1
  have hna := nam_m hr
  have h50 := h.2.2.2.1
  have h54 := h.2.2.1
  have hwd : ∃ z : Nat, f_X12_isWord 7237492 m = some (nI z, m) ∧ z ≤ 1 ∧ (z = 1 → t.1 = 114) := by
    have := isw_m hr (k := 15) (c := 7237492) (by omega) (by rfl)
    by_cases c : t.1 = kd_ 15
    · exact ⟨1, by rw [this, decide_eq_true c]; rfl, by omega, fun _ => c⟩
    · exact ⟨0, by rw [this, decide_eq_false c]; rfl, by omega, fun q => by omega⟩
  obtain ⟨z, hz1, hz2, hz3⟩ := hwd
  have s40 : srk_ t.1 = 40 → t.1 = 40 := fun q => (srk_e (by omega) (by omega) (by omega)).mp q
  have s2 : srk_ t.1 = 2 ↔ t.1 = 2 := srk_e (by omega) (by omega) (by omega)
  obtain ⟨m8, x1, x2, x4, _⟩ := wrg_m hr (c := 2) (by omega) (by omega)
  have x3 := flm_g x2
  have w89 : ∀ a c d : Int32, f_X12_operand_89 (nI now) a c d m = some (nI now, m8) := fun a c d => by
    rw [e_X12_operand_89, show (2 : Int32) = nI 2 from rfl, x1, Option.bind_some, e_X12_operand_115, if_neg x3.1]
  rw [runt_l]
  by_cases c1 : t.1 = 2 ∨ 120 ≤ t.1
  · have h17 : f_X12_operand (nI now) m = f_X12_operand_76 (nI now) (if 120 ≤ t.1 then nI (t.1 - 119) else -1) (nI 1) (nI 0) m := by
      have i17 : ∀ x2 : Int32, f_X12_operand_17 (nI now) x2 m = f_X12_operand_76 (nI now) x2 (nI 1) (nI 0) m := fun x2 => by
        by_cases d : now = 0
        · have hz0 : z = 0 := by
            have := ho d
            have : ¬ z = 1 := fun q => this.2 (hz3 q)
            omega
          have := (ho d).1
          have e40 : ¬ srk_ t.1 = 40 := fun q => this (s40 q)
          rw [hz0] at hz1
          rw [e_X12_operand_17, show (40 : Int32) = nI 40 from rfl]
          simp (disch := omega) only [↓reduceIte, ↓ns_m1, ns_let, ns_lef, ns_ltt, ns_ltf, ns_eqt, ns_eqf, ns_gd, nI_clamp, nI_add, pk_sub, pk_mul, ns_m1a, ns_m1b, ns_m1c, ns_m1d, ns_m1e, ns_m1f, ns_m1g, ns_un1, ns_un0, ns_day1, Option.bind_some, gi_si_self, gi_si_ne, gl_si, gi_sl, gl_sl_self, gl_sl_ne, if_true, if_false, ns_i0, ns_i1, ns_i2, ns_i3, ns_i4, ns_i5, ns_i6, ns_i7, ns_i8, ns_i9, ns_i10, ns_i11, ns_i12, ns_i13, ns_i20, ns_i23, ns_i24, ns_i31, ns_i50, ns_i60, ns_i99, ns_i100, ns_i144, ns_i200, ns_i255, ns_i700, ns_i880, ns_i899, ns_i900, ns_i901, ns_i999, ns_i1000, ns_i1440, ns_i4095, ns_i1000000, e_X12_operand_50, e_X12_operand_62, h6, hz1]
        · rw [e_X12_operand_17]
          simp (disch := omega) only [↓reduceIte, ↓ns_m1, ns_let, ns_lef, ns_ltt, ns_ltf, ns_eqt, ns_eqf, ns_gd, nI_clamp, nI_add, pk_sub, pk_mul, ns_m1a, ns_m1b, ns_m1c, ns_m1d, ns_m1e, ns_m1f, ns_m1g, ns_un1, ns_un0, ns_day1, Option.bind_some, gi_si_self, gi_si_ne, gl_si, gi_sl, gl_sl_self, gl_sl_ne, if_true, if_false, ns_i0, ns_i1, ns_i2, ns_i3, ns_i4, ns_i5, ns_i6, ns_i7, ns_i8, ns_i9, ns_i10, ns_i11, ns_i12, ns_i13, ns_i20, ns_i23, ns_i24, ns_i31, ns_i50, ns_i60, ns_i99, ns_i100, ns_i144, ns_i200, ns_i255, ns_i700, ns_i880, ns_i899, ns_i900, ns_i901, ns_i999, ns_i1000, ns_i1440, ns_i4095, ns_i1000000, e_X12_operand_50, e_X12_operand_62, h6]
      unfold f_X12_operand
      rw [hna, Option.bind_some]
      dsimp only
      rw [h6]
      by_cases d : t.1 = 2
      · rw [if_pos (show nI (srk_ t.1) = 2 by rw [s2.mpr d]; rfl)]
        exact i17 _
      · have d2 : 120 ≤ t.1 := c1.resolve_left d
        rw [if_neg (show ¬ nI (srk_ t.1) = 2 from show ¬ nI (srk_ t.1) = nI 2 from fun q => d (s2.mp ((nI_eq (by omega) (by omega)).mp q))), if_pos d2, if_neg (nI_pos (by omega))]
        exact i17 _
    rw [h17, e_X12_operand_76, if_neg (show ¬ nI 1 = 0 by decide), h50]
    by_cases c2 : u < 50
    · rw [if_pos ⟨c1, c2⟩, if_neg (show ¬ nI u = 50 from show ¬ nI u = nI 50 from fun q => by have := (nI_eq (by omega) (by omega)).mp q; omega), e_X12_operand_97, if_neg (show ¬ nI 1 = 0 by decide)]
      have i1 : rt0_ L j ol b (u + 1) K S (t :: r) (si_ m 106 50 (nI (u + 1))) := by
        obtain ⟨a1, a2, a3, a4, a5, a6, a7, a8, a9⟩ := h
        refine ⟨rsn_si a1 (by omega) (by omega), ?_, ?_, gi_si_self, ?_, rws_g a6 (fun a k q => gi_si_ne (by omega)), ?_, stk_si a8 (by omega), ?_⟩
        · rw [gi_si_ne (by omega)]; exact a2
        · rw [gi_si_ne (by omega)]; exact a3
        · rw [gi_si_ne (by omega)]; exact a5
        · rw [gi_si_ne (by omega)]; exact a7
        · rw [gi_si_ne (by omega)]; exact a9
      have eu : nI u + 1 = nI (u + 1) := by
        show nI u + nI 1 = _
        rw [nI_add]
      have tail : ∀ (q : Nat × Nat), (q.1 = 0 → q.2 = t.2.1 ∧ t.1 = 2) → ∃ m3, (Option.bind (f_X12_step (nI q.1) (gi_ m 106 8) (si_ m 106 50 (nI (u + 1)))) fun q7 => (Option.bind (f_X12_next q7.2) fun q10 => (if nI now = 2 then ((some (4, q10.2))) else ((some (3, q10.2)))))) = some (nI (if now = 2 then 4 else 3), m3) ∧ rt0_ L j ol b (u + 1) K (S ++ [q]) r m3 ∧ mfr_ (700 * j + b) m m3 := by
        intro q hq
        obtain ⟨m2, y1, y2, y3⟩ := stp_m hj i1 hb q.1 q.2 (x := gi_ m 106 8) (fun z => by
          have := hq z
          rw [hh.2.1 (Or.inl this.2), this.1])
        obtain ⟨m3, z1, z2, z3⟩ := nxt_m y2 (by omega)
        refine ⟨m3, ?_, z2, mfr_t (fun a k k1 k2 k3 => gi_si_ne (by omega)) (mfr_t y3 (z3 _))⟩
        rw [y1, Option.bind_some]
        dsimp only
        rw [z1, Option.bind_some]
        by_cases d : now = 2
        · rw [if_pos d, if_pos (show nI now = 2 by rw [d]; rfl)]; rfl
        · rw [if_neg d, if_neg (show ¬ nI now = 2 from show ¬ nI now = nI 2 from fun q => d ((nI_eq (by omega) (by omega)).mp q))]; rfl
      by_cases d : t.1 = 2
      · rw [if_pos d, if_neg (show ¬ 120 ≤ t.1 by omega), (hal m h54).1, Option.bind_some, if_neg (show ¬ (1 : Int32) = 0 by decide), e_X12_operand_115, h2, if_pos (show nI 0 ≤ 0 by decide), if_pos (show nI 0 = 0 from rfl), if_pos (show (-1 : Int32) < 0 by decide), h50, eu]
        obtain ⟨m3, k1, k2, k3⟩ := tail (0, t.2.1) (fun _ => ⟨rfl, d⟩)
        exact Or.inr ⟨(0, t.2.1), m3, rfl, k1, k2, k3⟩
      · have d2 : 120 ≤ t.1 := c1.resolve_left d
        have ht := hh.2.2.2.2.1
        rw [if_neg d, if_pos d2, (hal m h54).2 (t.1 - 119) (by omega) (by omega), Option.bind_some]
        dsimp only
        by_cases c3 : al (t.1 - 119) = true
        · rw [if_pos c3, c3, if_neg (show ¬ b01_ true = 0 by decide), e_X12_operand_115, h2, if_pos (show nI 0 ≤ 0 by decide), if_pos (show nI 0 = 0 from rfl), if_neg (nI_pos (by omega)), h50, eu]
          obtain ⟨m3, k1, k2, k3⟩ := tail (t.1 - 119, 0) (fun q => by have q : t.1 - 119 = 0 := q; omega)
          exact Or.inr ⟨(t.1 - 119, 0), m3, rfl, k1, k2, k3⟩
        · have c5 := Bool.eq_false_iff.mpr c3
          obtain ⟨m7, v1, v2, v4, _⟩ := wrg_m hr (c := 6) (by omega) (by omega)
          have v1 : f_X12_wrong 6 m = some (0, m7) := v1
          rw [if_neg c3, c5, if_pos (show b01_ false = 0 by decide), v1, Option.bind_some, e_X12_operand_115, if_neg (flm_g v2).1]
          exact Or.inl ⟨_, m7, rfl, rfl, v2, mfr_w v4⟩
    · rw [if_neg (fun q => c2 q.2), if_pos (show nI u = 50 by rw [show u = 50 by omega]; rfl), w89]
      exact Or.inl ⟨_, m8, rfl, rfl, x2, mfr_w x4⟩
  · have h120 : ¬ 120 ≤ t.1 := fun q => c1 (Or.inr q)
    have h2t : ¬ t.1 = 2 := fun q => c1 (Or.inl q)
    rw [if_neg (fun q => c1 q.1)]
    have : f_X12_operand (nI now) m = f_X12_operand_89 (nI now) (-1) (nI 0) (nI 0) m := by
      have n2 : ¬ srk_ t.1 = 2 := fun q => h2t (s2.mp q)
      have hna2 : f_X12_named m = some (M1_, m) := by rw [hna, if_neg h120]; rfl
      have ml : (M1_ < nI 0) = True := eq_true (by decide)
      unfold f_X12_operand
      by_cases d : now = 0
      · have hz0 : z = 0 := by
          have := ho d
          have : ¬ z = 1 := fun q => this.2 (hz3 q)
          omega
        have := (ho d).1
        have e40 : ¬ srk_ t.1 = 40 := fun q => this (s40 q)
        rw [hz0] at hz1
        rw [show (40 : Int32) = nI 40 from rfl]
        simp (disch := omega) only [↓reduceIte, ↓ns_m1, ns_let, ns_lef, ns_ltt, ns_ltf, ns_eqt, ns_eqf, ns_gd, nI_clamp, nI_add, pk_sub, pk_mul, ns_m1a, ns_m1b, ns_m1c, ns_m1d, ns_m1e, ns_m1f, ns_m1g, ns_un1, ns_un0, ns_day1, Option.bind_some, gi_si_self, gi_si_ne, gl_si, gi_sl, gl_sl_self, gl_sl_ne, if_true, if_false, ns_i0, ns_i1, ns_i2, ns_i3, ns_i4, ns_i5, ns_i6, ns_i7, ns_i8, ns_i9, ns_i10, ns_i11, ns_i12, ns_i13, ns_i20, ns_i23, ns_i24, ns_i31, ns_i50, ns_i60, ns_i99, ns_i100, ns_i144, ns_i200, ns_i255, ns_i700, ns_i880, ns_i899, ns_i900, ns_i901, ns_i999, ns_i1000, ns_i1440, ns_i4095, ns_i1000000, e_X12_operand_50, h6, hz1, hna2, ml]
      · simp (disch := omega) only [↓reduceIte, ↓ns_m1, ns_let, ns_lef, ns_ltt, ns_ltf, ns_eqt, ns_eqf, ns_gd, nI_clamp, nI_add, pk_sub, pk_mul, ns_m1a, ns_m1b, ns_m1c, ns_m1d, ns_m1e, ns_m1f, ns_m1g, ns_un1, ns_un0, ns_day1, Option.bind_some, gi_si_self, gi_si_ne, gl_si, gi_sl, gl_sl_self, gl_sl_ne, if_true, if_false, ns_i0, ns_i1, ns_i2, ns_i3, ns_i4, ns_i5, ns_i6, ns_i7, ns_i8, ns_i9, ns_i10, ns_i11, ns_i12, ns_i13, ns_i20, ns_i23, ns_i24, ns_i31, ns_i50, ns_i60, ns_i99, ns_i100, ns_i144, ns_i200, ns_i255, ns_i700, ns_i880, ns_i899, ns_i900, ns_i901, ns_i999, ns_i1000, ns_i1440, ns_i4095, ns_i1000000, e_X12_operand_50, h6, hna2, ml]
    rw [this, w89]
    exact Or.inl ⟨_, m8, rfl, rfl, x2, mfr_w x4⟩
/-- what opens -/
theorem opo_m {L : List Nat} {j ol b u : Nat} {K : List Nat} {S : cd_} {t : tkn_} {r : List tkn_} {m : fm_} (h : rt0_ L j ol b u K S (t :: r) m) (hK : K.length < 400) (ho : t.1 = 40 ∨ t.1 = 114) : (7 ≤ dpk_ K → ∃ m1, f_X12_operand (nI 0) m = some (nI 0, m1) ∧ flm_ (flt_ 2 t) m1 ∧ ∀ s, mfr_ s m m1) ∧ (dpk_ K < 7 → ∃ m1, f_X12_operand (nI 0) m = some (nI 0, m1) ∧ rt0_ L j ol b u ((if t.1 = 40 then 28 else 20) :: K) S r m1 ∧ ∀ s, mfr_ s m m1) := by
  have hr := h.1
  have hh := rsn_h hr
  have hsb := srk_b hh.2.2.2.2.1
  have h2 : gi_ m 106 2 = nI 0 := hh.2.2.2.1
  have h6 := hh.1
  have hna : f_X12_named m = some (M1_, m) := by rw [nam_m hr, if_neg (by omega)]; rfl
  have h53 := h.2.2.2.2.2.2.2.2
  have hd := dpk_l K
  have ml : (M1_ < nI 0) = True := eq_true (by decide)
  have hz : f_X12_isWord 7237492 m = some (nI (if t.1 = 40 then 0 else 1), m) := by
    rw [isw_m hr (k := 15) (c := 7237492) (by omega) (by rfl)]
    by_cases c : t.1 = 40
    · rw [if_pos c, decide_eq_false (show ¬ t.1 = kd_ 15 from fun q => by have : t.1 = 114 := q; omega)]; rfl
    · rw [if_neg c, decide_eq_true (show t.1 = kd_ 15 from ho.resolve_left c)]; rfl
  have s40 : srk_ t.1 = 40 ↔ t.1 = 40 := srk_e (by omega) (by omega) (by omega)
  have s2 : ¬ srk_ t.1 = 2 := fun q => by
    have := (srk_e (k := t.1) (j := 2) (by omega) (by omega) (by omega)).mp q
    omega
  have h62 : f_X12_operand (nI 0) m = f_X12_operand_62 (nI 0) M1_ (nI 0) (nI 1) m := by
    unfold f_X12_operand
    rw [show (40 : Int32) = nI 40 from rfl]
    by_cases c : t.1 = 40
    · have := s40.mpr c
      simp (disch := omega) only [↓reduceIte, ↓ns_m1, ns_let, ns_lef, ns_ltt, ns_ltf, ns_eqt, ns_eqf, ns_gd, nI_clamp, nI_add, pk_sub, pk_mul, ns_m1a, ns_m1b, ns_m1c, ns_m1d, ns_m1e, ns_m1f, ns_m1g, ns_un1, ns_un0, ns_day1, Option.bind_some, gi_si_self, gi_si_ne, gl_si, gi_sl, gl_sl_self, gl_sl_ne, if_true, if_false, ns_i0, ns_i1, ns_i2, ns_i3, ns_i4, ns_i5, ns_i6, ns_i7, ns_i8, ns_i9, ns_i10, ns_i11, ns_i12, ns_i13, ns_i20, ns_i23, ns_i24, ns_i31, ns_i50, ns_i60, ns_i99, ns_i100, ns_i144, ns_i200, ns_i255, ns_i700, ns_i880, ns_i899, ns_i900, ns_i901, ns_i999, ns_i1000, ns_i1440, ns_i4095, ns_i1000000, e_X12_operand_46, h6, hna, ml]
    · have : ¬ srk_ t.1 = 40 := fun q => c (s40.mp q)
      rw [if_neg c] at hz
      simp (disch := omega) only [↓reduceIte, ↓ns_m1, ns_let, ns_lef, ns_ltt, ns_ltf, ns_eqt, ns_eqf, ns_gd, nI_clamp, nI_add, pk_sub, pk_mul, ns_m1a, ns_m1b, ns_m1c, ns_m1d, ns_m1e, ns_m1f, ns_m1g, ns_un1, ns_un0, ns_day1, Option.bind_some, gi_si_self, gi_si_ne, gl_si, gi_sl, gl_sl_self, gl_sl_ne, if_true, if_false, ns_i0, ns_i1, ns_i2, ns_i3, ns_i4, ns_i5, ns_i6, ns_i7, ns_i8, ns_i9, ns_i10, ns_i11, ns_i12, ns_i13, ns_i20, ns_i23, ns_i24, ns_i31, ns_i50, ns_i60, ns_i99, ns_i100, ns_i144, ns_i200, ns_i255, ns_i700, ns_i880, ns_i899, ns_i900, ns_i901, ns_i999, ns_i1000, ns_i1440, ns_i4095, ns_i1000000, e_X12_operand_46, h6, hna, ml, hz]
  rw [h62]
  refine ⟨fun h7 => ?_, fun h7 => ?_⟩
  · obtain ⟨m8, x1, x2, x4, _⟩ := wrg_m hr (c := 2) (by omega) (by omega)
    have x3 := flm_g x2
    have x1 : f_X12_wrong 2 m = some (0, m8) := x1
    refine ⟨m8, ?_, x2, fun s => mfr_w x4⟩
    rw [e_X12_operand_62, if_neg (show ¬ nI 1 = 0 by decide), h53, if_pos (show (7 : Int32) ≤ nI (dpk_ K) from show nI 7 ≤ nI (dpk_ K) from nI_le h7 (by omega)), e_X12_operand_89, x1, Option.bind_some, e_X12_operand_115, if_neg x3.1]
  · rw [e_X12_operand_62, if_neg (show ¬ nI 1 = 0 by decide), h53, if_neg (show ¬ (7 : Int32) ≤ nI (dpk_ K) from show ¬ nI 7 ≤ nI (dpk_ K) from nI_ge h7 (by omega)), e_X12_operand_76, if_pos (show nI 0 = 0 from rfl), e_X12_operand_97, if_pos (show nI 0 = 0 from rfl), e_X12_operand_115, h2, if_pos (show nI 0 ≤ 0 by decide), if_neg (show ¬ nI 1 = 0 by decide), h6]
    by_cases c : t.1 = 40
    · obtain ⟨m1, a1, a2, a3⟩ := hld_m h hK (x := 28) (by omega)
      have a1 : f_X12_hold 28 m = some (0, m1) := a1
      obtain ⟨m2, b1, b2, b3⟩ := nxt_m a2 (by omega)
      refine ⟨m2, ?_, ?_, fun s => mfr_t (a3 s) (b3 s)⟩
      · rw [if_pos (show nI (srk_ t.1) = 40 by rw [s40.mpr c]; rfl), a1, Option.bind_some]
        dsimp only
        rw [b1]
        rfl
      · rw [if_pos c]; exact b2
    · obtain ⟨m1, a1, a2, a3⟩ := hld_m h hK (x := 20) (by omega)
      have a1 : f_X12_hold 20 m = some (0, m1) := a1
      obtain ⟨m2, b1, b2, b3⟩ := nxt_m a2 (by omega)
      refine ⟨m2, ?_, ?_, fun s => mfr_t (a3 s) (b3 s)⟩
      · rw [if_neg (show ¬ nI (srk_ t.1) = 40 from show ¬ nI (srk_ t.1) = nI 40 from fun q => c (s40.mp ((nI_eq (by omega) (by omega)).mp q))), a1, Option.bind_some]
        dsimp only
        rw [b1]
        rfl
      · rw [if_neg c]; exact b2
