/-! ===== the reference reads a line of a map ===== -/
theorem rsn_si {L : List Nat} {ts : List tkn_} {m : fm_} (h : rsn_ L ts m) {a k : Nat} {x : Int32} (h7 : ¬ a = 107) (h6 : a = 106 → 10 ≤ k) : rsn_ L ts (si_ m a k x) := by
  obtain ⟨⟨t, r, h1, h2, h3, h4, h5, i, h8, h9⟩, hf, hw, b1, b2, b3⟩ := h
  refine ⟨⟨t, r, h1, ?_, fun q => ?_, ?_, h5, i, ?_, h9⟩, ⟨?_, ?_⟩, hw, b1, ?_, fun j b hj => ⟨(b3 j b hj).1, ?_⟩⟩
  · rw [gi_si_ne (by omega)]; exact h2
  · rw [gi_si_ne (by omega)]; exact h3 q
  · rw [gi_si_ne (by omega)]; exact h4
  · rw [gi_si_ne (by omega)]; exact h8
  · rw [gi_si_ne (by omega)]; exact hf.1
  · rw [gi_si_ne (by omega)]; exact hf.2
  · rw [gi_si_ne (by omega)]; exact b2
  · rw [gi_si_ne (by omega)]; exact (b3 j b hj).2
theorem flm_si {f : Nat × Nat} {m : fm_} (h : flm_ f m) {a k : Nat} {x : Int32} (h6 : a = 106 → 10 ≤ k) : flm_ f (si_ m a k x) := by
  obtain ⟨h1, h2, h3⟩ := h
  exact ⟨by rw [gi_si_ne (by omega)]; exact h1, by rw [gi_si_ne (by omega)]; exact h2, h3⟩
theorem rfw_g {m m1 : fm_} (h : sa_ rfw_ m m1) : ∀ a k, (¬ a = 106 ∨ 10 ≤ k) → gi_ m1 a k = gi_ m a k := fun a k ha => sa_gi h (by
  cases hq : wi_ rfw_ a k with
  | false => rfl
  | true =>
    obtain ⟨q, hq, q1, q2, q3⟩ := wi_mem.mp hq
    have : ∀ q ∈ rfw_, q.1 = 106 ∧ q.2.1 = 106 ∧ 1 ≤ q.2.2 ∧ q.2.2 ≤ 10 := by decide
    have := this q hq
    omega)
theorem twm_fr {w : tw_} {m m1 : fm_} (h : twd_ w m) (hf : ∀ a k, (¬ a = 106 ∨ 10 ≤ k) → gi_ m1 a k = gi_ m a k) : twd_ w m1 := by
  obtain ⟨h1, h2, h3, h4, h5, h6⟩ := h
  exact ⟨(hf _ _ (by omega)).trans h1, fun j q hj => ⟨(hf _ _ (by omega)).trans (h2 j q hj).1, (hf _ _ (by omega)).trans (h2 j q hj).2.1, (hf _ _ (by omega)).trans (h2 j q hj).2.2⟩, (hf _ _ (by omega)).trans h3, (hf _ _ (by omega)).trans h4, fun j q hj => ⟨(hf _ _ (by omega)).trans (h5 j q hj).1, (hf _ _ (by omega)).trans (h5 j q hj).2.1, (hf _ _ (by omega)).trans (h5 j q hj).2.2⟩, (hf _ _ (by omega)).trans h6⟩
theorem r295_f {f : Nat × Nat} {m : fm_} (h : flm_ f m) : ∃ m1, f_X12_readLine_295 m = some (0, m1) ∧ flm_ f m1 := by
  refine ⟨si_ m 106 20 (gi_ m 106 20 + 1), ?_, flm_si h (by omega)⟩
  rw [e_X12_readLine_295, wen_f h]
  rfl
theorem r295_m {L : List Nat} {ts : List tkn_} {m : fm_} (h : rsn_ L ts m) {w : tw_} (hw : twd_ w m) {n : Nat} (hn : gi_ m 106 20 = nI n) : (∃ f m1, tqk_ 59 ts = .inl f ∧ f_X12_readLine_295 m = some (0, m1) ∧ flm_ f m1) ∨ (∃ r m1, tqk_ 59 ts = .inr r ∧ f_X12_readLine_295 m = some (0, m1) ∧ rsn_ L r m1 ∧ twd_ w m1 ∧ gi_ m1 106 20 = nI (n + 1)) := by
  rw [e_X12_readLine_295]
  rcases wen_m h with ⟨f, m1, a1, a2, a3, _⟩ | ⟨r, m1, a1, a2, a3, a4⟩
  · refine Or.inl ⟨f, _, a1, by rw [a2]; rfl, flm_si a3 (by omega)⟩
  · have g := rfw_g a4
    have g20 : gi_ m1 106 20 = nI n := (g _ _ (by omega)).trans hn
    have e : gi_ m1 106 20 + 1 = nI (n + 1) := by
      rw [g20]
      show nI n + nI 1 = _
      rw [nI_add]
    refine Or.inr ⟨r, si_ m1 106 20 (nI (n + 1)), a1, by rw [a2, Option.bind_some, ← e], rsn_si a3 (by omega) (by omega), ?_, gi_si_self⟩
    have t1 := twm_fr hw g
    obtain ⟨h1, h2, h3, h4, h5, h6⟩ := t1
    refine ⟨?_, fun j q hj => ?_, ?_, ?_, fun j q hj => ?_, ?_⟩
    · rw [gi_si_ne (by omega)]; exact h1
    · rw [gi_si_ne (by omega), gi_si_ne (by omega), gi_si_ne (by omega)]; exact h2 j q hj
    · rw [gi_si_ne (by omega)]; exact h3
    · rw [gi_si_ne (by omega)]; exact h4
    · rw [gi_si_ne (by omega), gi_si_ne (by omega), gi_si_ne (by omega)]; exact h5 j q hj
    · rw [gi_si_ne (by omega)]; exact h6
theorem r290_m {L : List Nat} {t : tkn_} {r : List tkn_} {m : fm_} (h : rsn_ L (t :: r) m) : ∃ m1, f_X12_readLine_290 m = some (0, m1) ∧ flm_ (flt_ 2 t) m1 := by
  obtain ⟨m1, e1, e2, _⟩ := wrg_m h (c := 2) (by omega) (by omega)
  have e1 : f_X12_wrong 2 m = some (0, m1) := e1
  obtain ⟨m2, f1, f2⟩ := r295_f e2
  refine ⟨m2, ?_, f2⟩
  rw [e_X12_readLine_290, e1, Option.bind_some]
  exact f1
theorem rway_m {L : List Nat} {w : tw_} (hw : twk_ w) {x : tkn_} {r : List tkn_} {m : fm_} (h : rsn_ L (x :: r) m) (hx : x.1 = 100) (hl : ¬ 24 ≤ w.1.length) (hm : twd_ w m) {n : Nat} (hn : gi_ m 106 20 = nI n) : (∃ f m1, rway_ w x r = .inl f ∧ f_X12_readLine m = some (0, m1) ∧ flm_ f m1) ∨ (∃ w1 r1 m1, rway_ w x r = .inr (w1, r1) ∧ f_X12_readLine m = some (0, m1) ∧ rsn_ L r1 m1 ∧ twd_ w1 m1 ∧ gi_ m1 106 20 = nI (n + 1)) := by
  unfold rway_ f_X12_readLine
  rw [isw_m h (k := 0) (by omega) (by rfl), Option.bind_some, decide_eq_true (show x.1 = kd_ 0 from hx), if_neg (show ¬ b01_ true = 0 by decide)]
  simp only
  rw [hm.1, if_neg (show ¬ (24 : Int32) ≤ nI w.1.length from show ¬ nI 24 ≤ nI w.1.length from nI_ge (by omega) (by omega)), if_neg hl]
  obtain ⟨m1, e1, e2, e3⟩ := nxs_m h (by omega)
  have e1 : f_X12_next m = some (nI 0, m1) := e1
  have c1 : gi_ m1 106 16 = nI w.1.length := (rfw_g e3 _ _ (by omega)).trans hm.1
  rcases pnt_m e2 (z := 0) (by omega) with ⟨f, y, m2, a1, a2, a3, a4⟩ | ⟨a, ra, m2, a1, a2, a3, a4, a5, a6⟩
  · have c2 : gi_ m2 106 16 = nI w.1.length := (rfw_g a4 _ _ (by omega)).trans c1
    have p1 : ∀ u, f_X12_point u (si_ m2 108 w.1.length y) = some (nI 0, si_ m2 108 w.1.length y) := fun u => pnt_f (flm_si a3 (by omega)) u
    have p2 : f_X12_told (nI 1) (nI 99) (si_ (si_ m2 108 w.1.length y) 109 w.1.length (nI 0)) = some (nI 0, _) := tld_f (flm_si (flm_si a3 (by omega)) (by omega)) _ _
    obtain ⟨m9, z1, z2⟩ := r295_f (m := si_ (si_ (si_ (si_ m2 108 w.1.length y) 109 w.1.length (nI 0)) 110 w.1.length (nI 0)) 106 16 (nI (w.1.length + 1))) (flm_si (flm_si (flm_si (flm_si a3 (by omega)) (by omega)) (by omega)) (by omega))
    refine Or.inl ⟨f, m9, by rw [a1]; rfl, ?_, z2⟩
    simp (disch := omega) only [↓reduceIte, ↓ns_m1, ns_let, ns_lef, ns_ltt, ns_ltf, ns_eqt, ns_eqf, ns_gd, nI_clamp, nI_add, pk_sub, pk_mul, ns_m1a, ns_m1b, ns_m1c, ns_m1d, ns_m1e, ns_m1f, ns_m1g, ns_un1, ns_un0, ns_day1, Option.bind_some, gi_si_self, gi_si_ne, gl_si, gi_sl, gl_sl_self, gl_sl_ne, if_true, if_false, ns_i0, ns_i1, ns_i2, ns_i3, ns_i4, ns_i5, ns_i6, ns_i7, ns_i8, ns_i9, ns_i10, ns_i11, ns_i12, ns_i13, ns_i20, ns_i23, ns_i24, ns_i31, ns_i50, ns_i60, ns_i99, ns_i100, ns_i144, ns_i200, ns_i255, ns_i700, ns_i880, ns_i899, ns_i900, ns_i901, ns_i999, ns_i1000, ns_i1440, ns_i4095, ns_i1000000, e1, a2, c1, c2, p1, p2, z1]
  · have c2 : gi_ m2 106 16 = nI w.1.length := (rfw_g a6 _ _ (by omega)).trans c1
    have hpa := pw12 a2
    rw [a1, sbd_r]
    have i1 : rsn_ L ra (si_ m2 108 w.1.length (nI a)) := rsn_si a5 (by omega) (by omega)
    rcases pnt_m i1 hpa.1 with ⟨f, y, m3, b1, b2, b3, b4⟩ | ⟨b, rb, m3, b1, b2, b3, b4, b5, b6⟩
    · have c3 : gi_ m3 106 16 = nI w.1.length := (rfw_g b4 _ _ (by omega)).trans (by rw [gi_si_ne (by omega)]; exact c2)
      have p2 : f_X12_told (nI 1) (nI 99) (si_ m3 109 w.1.length y) = some (nI 0, _) := tld_f (flm_si b3 (by omega)) _ _
      obtain ⟨m9, z1, z2⟩ := r295_f (m := si_ (si_ (si_ m3 109 w.1.length y) 110 w.1.length (nI 0)) 106 16 (nI (w.1.length + 1))) (flm_si (flm_si (flm_si b3 (by omega)) (by omega)) (by omega))
      refine Or.inl ⟨f, m9, by rw [b1]; rfl, ?_, z2⟩
      simp (disch := omega) only [↓reduceIte, ↓ns_m1, ns_let, ns_lef, ns_ltt, ns_ltf, ns_eqt, ns_eqf, ns_gd, nI_clamp, nI_add, pk_sub, pk_mul, ns_m1a, ns_m1b, ns_m1c, ns_m1d, ns_m1e, ns_m1f, ns_m1g, ns_un1, ns_un0, ns_day1, Option.bind_some, gi_si_self, gi_si_ne, gl_si, gi_sl, gl_sl_self, gl_sl_ne, if_true, if_false, ns_i0, ns_i1, ns_i2, ns_i3, ns_i4, ns_i5, ns_i6, ns_i7, ns_i8, ns_i9, ns_i10, ns_i11, ns_i12, ns_i13, ns_i20, ns_i23, ns_i24, ns_i31, ns_i50, ns_i60, ns_i99, ns_i100, ns_i144, ns_i200, ns_i255, ns_i700, ns_i880, ns_i899, ns_i900, ns_i901, ns_i999, ns_i1000, ns_i1440, ns_i4095, ns_i1000000, e1, a4, c1, c2, c3, ns_shl, b2, p2, z1]
    · have c3 : gi_ m3 106 16 = nI w.1.length := (rfw_g b6 _ _ (by omega)).trans (by rw [gi_si_ne (by omega)]; exact c2)
      rw [b1, sbd_r]
      have i2 : rsn_ L rb (si_ m3 109 w.1.length (nI b)) := rsn_si b5 (by omega) (by omega)
      rcases tld_m i2 (lo := 1) (hi := 99) (by omega) (by omega) with ⟨f, y, m4, d1, d2, d3, d4⟩ | ⟨v, rv, m4, d1, d2, d3, d4, d5, d6⟩
      · have c4 : gi_ m4 106 16 = nI w.1.length := (rfw_g d4 _ _ (by omega)).trans (by rw [gi_si_ne (by omega)]; exact c3)
        obtain ⟨m9, z1, z2⟩ := r295_f (m := si_ (si_ m4 110 w.1.length y) 106 16 (nI (w.1.length + 1))) (flm_si (flm_si d3 (by omega)) (by omega))
        refine Or.inl ⟨f, m9, by rw [d1]; rfl, ?_, z2⟩
        simp (disch := omega) only [↓reduceIte, ↓ns_m1, ns_let, ns_lef, ns_ltt, ns_ltf, ns_eqt, ns_eqf, ns_gd, nI_clamp, nI_add, pk_sub, pk_mul, ns_m1a, ns_m1b, ns_m1c, ns_m1d, ns_m1e, ns_m1f, ns_m1g, ns_un1, ns_un0, ns_day1, Option.bind_some, gi_si_self, gi_si_ne, gl_si, gi_sl, gl_sl_self, gl_sl_ne, if_true, if_false, ns_i0, ns_i1, ns_i2, ns_i3, ns_i4, ns_i5, ns_i6, ns_i7, ns_i8, ns_i9, ns_i10, ns_i11, ns_i12, ns_i13, ns_i20, ns_i23, ns_i24, ns_i31, ns_i50, ns_i60, ns_i99, ns_i100, ns_i144, ns_i200, ns_i255, ns_i700, ns_i880, ns_i899, ns_i900, ns_i901, ns_i999, ns_i1000, ns_i1440, ns_i4095, ns_i1000000, e1, a4, c1, c2, c3, c4, ns_shl, b4, d2, z1]
      · have c4 : gi_ m4 106 16 = nI w.1.length := (rfw_g d6 _ _ (by omega)).trans (by rw [gi_si_ne (by omega)]; exact c3)
        rw [d1, sbd_r]
        have key : ∀ a k, (¬ a = 106 ∨ 10 ≤ k) → ¬ (a = 108 ∧ k = w.1.length) → ¬ (a = 109 ∧ k = w.1.length) → gi_ m4 a k = gi_ m a k := fun a k h1 h2 h3 => by
          rw [rfw_g d6 a k h1, gi_si_ne h3, rfw_g b6 a k h1, gi_si_ne h2, rfw_g a6 a k h1, rfw_g e3 a k h1]
        have k8 : gi_ m4 108 w.1.length = nI a := by
          rw [rfw_g d6 _ _ (by omega), gi_si_ne (by omega), rfw_g b6 _ _ (by omega), gi_si_self]
        have k9 : gi_ m4 109 w.1.length = nI b := by
          rw [rfw_g d6 _ _ (by omega), gi_si_self]
        have i3 : rsn_ L rv (si_ (si_ m4 110 w.1.length (nI v)) 106 16 (nI (w.1.length + 1))) := rsn_si (rsn_si d5 (by omega) (by omega)) (by omega) (by omega)
        obtain ⟨q1, q2, q3, q4, q5, q6⟩ := hm
        have i4 : twd_ (w.1 ++ [(a, b, v)], w.2) (si_ (si_ m4 110 w.1.length (nI v)) 106 16 (nI (w.1.length + 1))) := by
          refine ⟨?_, fun j q hj => ?_, ?_, ?_, fun j q hj => ?_, ?_⟩
          · rw [gi_si_self, List.length_append]; rfl
          · rcases app_q hj with ⟨z1, z2⟩ | ⟨z1, z2⟩
            · obtain ⟨y1, y2, y3⟩ := q2 j q z2
              refine ⟨?_, ?_, ?_⟩
              · rw [gi_si_ne (by omega), gi_si_ne (by omega), key _ _ (by omega) (by omega) (by omega)]; exact y1
              · rw [gi_si_ne (by omega), gi_si_ne (by omega), key _ _ (by omega) (by omega) (by omega)]; exact y2
              · rw [gi_si_ne (by omega), gi_si_ne (by omega), key _ _ (by omega) (by omega) (by omega)]; exact y3
            · subst z1
              subst z2
              refine ⟨?_, ?_, ?_⟩
              · rw [gi_si_ne (by omega), gi_si_ne (by omega)]; exact k8
              · rw [gi_si_ne (by omega), gi_si_ne (by omega)]; exact k9
              · rw [gi_si_ne (by omega), gi_si_self]
          · rw [gi_si_ne (by omega), gi_si_ne (by omega), key _ _ (by omega) (by omega) (by omega)]; exact q3
          · rw [gi_si_ne (by omega), gi_si_ne (by omega), key _ _ (by omega) (by omega) (by omega)]; exact q4
          · obtain ⟨y1, y2, y3⟩ := q5 j q hj
            refine ⟨?_, ?_, ?_⟩
            · rw [gi_si_ne (by omega), gi_si_ne (by omega), key _ _ (by omega) (by omega) (by omega)]; exact y1
            · rw [gi_si_ne (by omega), gi_si_ne (by omega), key _ _ (by omega) (by omega) (by omega)]; exact y2
            · rw [gi_si_ne (by omega), gi_si_ne (by omega), key _ _ (by omega) (by omega) (by omega)]; exact y3
          · rw [gi_si_ne (by omega), gi_si_ne (by omega), key _ _ (by omega) (by omega) (by omega)]; exact q6
        have i5 : gi_ (si_ (si_ m4 110 w.1.length (nI v)) 106 16 (nI (w.1.length + 1))) 106 20 = nI n := by
          rw [gi_si_ne (by omega), gi_si_ne (by omega), key _ _ (by omega) (by omega) (by omega)]; exact hn
        rcases r295_m i3 i4 i5 with ⟨f, m9, z1, z2, z3⟩ | ⟨r9, m9, z1, z2, z3, z4, z5⟩
        · refine Or.inl ⟨f, m9, by rw [z1]; rfl, ?_, z3⟩
          simp (disch := omega) only [↓reduceIte, ↓ns_m1, ns_let, ns_lef, ns_ltt, ns_ltf, ns_eqt, ns_eqf, ns_gd, nI_clamp, nI_add, pk_sub, pk_mul, ns_m1a, ns_m1b, ns_m1c, ns_m1d, ns_m1e, ns_m1f, ns_m1g, ns_un1, ns_un0, ns_day1, Option.bind_some, gi_si_self, gi_si_ne, gl_si, gi_sl, gl_sl_self, gl_sl_ne, if_true, if_false, ns_i0, ns_i1, ns_i2, ns_i3, ns_i4, ns_i5, ns_i6, ns_i7, ns_i8, ns_i9, ns_i10, ns_i11, ns_i12, ns_i13, ns_i20, ns_i23, ns_i24, ns_i31, ns_i50, ns_i60, ns_i99, ns_i100, ns_i144, ns_i200, ns_i255, ns_i700, ns_i880, ns_i899, ns_i900, ns_i901, ns_i999, ns_i1000, ns_i1440, ns_i4095, ns_i1000000, e1, a4, c1, c2, c3, c4, ns_shl, b4, d4, z2]
        · refine Or.inr ⟨_, r9, m9, by rw [z1]; rfl, ?_, z3, z4, z5⟩
          simp (disch := omega) only [↓reduceIte, ↓ns_m1, ns_let, ns_lef, ns_ltt, ns_ltf, ns_eqt, ns_eqf, ns_gd, nI_clamp, nI_add, pk_sub, pk_mul, ns_m1a, ns_m1b, ns_m1c, ns_m1d, ns_m1e, ns_m1f, ns_m1g, ns_un1, ns_un0, ns_day1, Option.bind_some, gi_si_self, gi_si_ne, gl_si, gi_sl, gl_sl_self, gl_sl_ne, if_true, if_false, ns_i0, ns_i1, ns_i2, ns_i3, ns_i4, ns_i5, ns_i6, ns_i7, ns_i8, ns_i9, ns_i10, ns_i11, ns_i12, ns_i13, ns_i20, ns_i23, ns_i24, ns_i31, ns_i50, ns_i60, ns_i99, ns_i100, ns_i144, ns_i200, ns_i255, ns_i700, ns_i880, ns_i899, ns_i900, ns_i901, ns_i999, ns_i1000, ns_i1440, ns_i4095, ns_i1000000, e1, a4, c1, c2, c3, c4, ns_shl, b4, d4, z2]
