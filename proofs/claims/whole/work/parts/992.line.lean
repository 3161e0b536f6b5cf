theorem rcam_c {t : Nat} (ht : 6 ≤ t) {w : tw_} (hw : twk_ w) {x : tkn_} {r : List tkn_} {m : fm_} (h : csn_ (x :: r) m) (h2 : 2 ≤ x.1) (hc : twc_ t w m) : (∃ f m1, rcam_ w x r = .inl f ∧ f_X9_readCamera t m = some (nI 0, m1) ∧ flc_ f m1) ∨ (∃ w1 r1 m1, rcam_ w x r = .inr (w1, r1) ∧ f_X9_readCamera t m = some (nI 1, m1) ∧ csn_ r1 m1 ∧ twc_ t w1 m1 ∧ twk_ w1 ∧ r1.length + 3 ≤ r.length + 1) := by
  have hl := hw.2.2.1.1
  have hP := hw.2.2.2
  unfold rcam_ f_X9_readCamera
  by_cases c0 : 8 ≤ w.2.2.1.length
  · obtain ⟨m1, e1, e2, e3⟩ := fai_c h 2
    have e1 : f_X8_fail 2 m = some (0, m1) := e1
    refine Or.inl ⟨_, m1, if_pos c0, ?_, e2⟩
    rw [hc.2.2.2.1, if_neg (show ¬ nI w.2.2.1.length < 8 from show ¬ nI w.2.2.1.length < nI 8 from nI_nlt c0 (by omega)), e1]
    rfl
  · rw [if_neg c0, hc.2.2.2.1, if_pos (show nI w.2.2.1.length < 8 from show nI w.2.2.1.length < nI 8 from nI_lt (by omega) (by omega))]
    obtain ⟨m1, e1, e2, e3⟩ := stn_c h h2
    have g9 : gi_ m1 t 9 = nI w.2.2.2 := (tfw_6 e3 _ _ ht).trans hc.2.2.2.2.2
    rw [e1, Option.bind_some]
    simp only
    rw [g9]
    rcases tkp_c e2 hP with ⟨f, m2, a1, a2, a3, _⟩ | ⟨a, ra, m2, a1, a2, a3, a4, a5, a6⟩
    · refine Or.inl ⟨f, m2, by rw [a1]; rfl, ?_, a3⟩
      rw [a2]
      rfl
    · have hpa := pw12 a2
      rw [a1, sbd_r, a4, Option.bind_some, if_neg (show ¬ nI a = -1 from nm1_ (by omega))]
      rcases tak_c a5 (k := 103) (by omega) (by omega) with ⟨f, m3, b1, b2, b3, _⟩ | ⟨rb, m3, b1, b2, b3, b4⟩
      · have b2 : f_X8_take 103 m2 = some (0, m3) := b2
        refine Or.inl ⟨f, m3, by rw [b1]; rfl, ?_, b3⟩
        rw [b2]
        rfl
      · have b2 : f_X8_take 103 m2 = some (1, m3) := b2
        rw [b1, sbd_r, b2, Option.bind_some, if_neg (show ¬ (1 : Int32) = 0 by decide)]
        rcases tkn_c b3 (lo := 0) (hi := 1440) (by omega) (by omega) with ⟨f, m4, d1, d2, d3, _⟩ | ⟨v, rv, m4, d1, d2, d3, d4, d5, d6⟩
        · have d2 : f_X8_takeNumber 0 1440 m3 = some (-1, m4) := d2
          refine Or.inl ⟨f, m4, by rw [d1]; rfl, ?_, d3⟩
          rw [d2]
          rfl
        · have d4 : f_X8_takeNumber 0 1440 m3 = some (nI v, m4) := d4
          rw [d1, sbd_r, d4, Option.bind_some, if_neg (show ¬ nI v = -1 from nm1_ (by omega))]
          rcases tak_c d5 (k := 104) (by omega) (by omega) with ⟨f, m5, g1, g2, g3, _⟩ | ⟨re, m5, g1, g2, g3, g4⟩
          · have g2 : f_X8_take 104 m4 = some (0, m5) := g2
            refine Or.inl ⟨f, m5, by rw [g1]; rfl, ?_, g3⟩
            rw [g2]
            rfl
          · have g2 : f_X8_take 104 m4 = some (1, m5) := g2
            rw [g1, sbd_r, g2, Option.bind_some, if_neg (show ¬ (1 : Int32) = 0 by decide)]
            have en : nI v + 1 = nI (v + 1) := by
              show nI v + nI 1 = _
              rw [nI_add]
            simp only [en]
            rcases tkn_c g3 (lo := v + 1) (hi := 1440) (by omega) (by omega) with ⟨f, m6, j1, j2, j3, _⟩ | ⟨u, ru, m6, j1, j2, j3, j4, j5, j6⟩
            · have j2 : f_X8_takeNumber (nI (v + 1)) 1440 m5 = some (-1, m6) := j2
              refine Or.inl ⟨f, m6, by rw [j1]; rfl, ?_, j3⟩
              rw [j2]
              rfl
            · have j4 : f_X8_takeNumber (nI (v + 1)) 1440 m5 = some (nI u, m6) := j4
              rw [j1, sbd_r, j4, Option.bind_some, if_neg (show ¬ nI u = -1 from nm1_ (by omega))]
              rcases tak_c j5 (k := 59) (by omega) (by omega) with ⟨f, m7, k1, k2, k3, _⟩ | ⟨rz, m7, k1, k2, k3, k4⟩
              · have k2 : f_X8_take 59 m6 = some (0, m7) := k2
                refine Or.inl ⟨f, m7, by rw [k1]; rfl, ?_, k3⟩
                rw [k2]
                rfl
              · have k2 : f_X8_take 59 m6 = some (1, m7) := k2
                have hc5 : twc_ t w m7 := twc_fr ht hc fun a k ha => (tfw_6 k4 a k ha).trans ((tfw_6 j6 a k ha).trans ((tfw_6 g4 a k ha).trans ((tfw_6 d6 a k ha).trans ((tfw_6 b4 a k ha).trans ((tfw_6 a6 a k ha).trans (tfw_6 e3 a k ha))))))
                obtain ⟨q1, q2, q3, q4, q5, q6⟩ := hc5
                have ho : nI w.2.2.2 ||| nI (2 ^ a) = nI (w.2.2.2 ||| 2 ^ a) := nI_or (k := 12) hP hpa.1 (by omega)
                refine Or.inr ⟨(w.1, w.2.1, w.2.2.1 ++ [(a, v, u)], w.2.2.2 ||| 2 ^ a), rz, si_ (si_ (si_ (si_ (si_ m7 (t + 4) w.2.2.1.length (nI a)) (t + 5) w.2.2.1.length (nI v)) (t + 6) w.2.2.1.length (nI u)) t 9 (nI (w.2.2.2 ||| 2 ^ a))) t 8 (nI (w.2.2.1.length + 1)), by rw [k1]; rfl, ?_, ?_, ?_, ?_, ?_⟩
                · rw [k2, Option.bind_some, if_neg (show ¬ (1 : Int32) = 0 by decide)]
                  simp (disch := omega) only [↓reduceIte, ↓ns_m1, ns_let, ns_lef, ns_ltt, ns_ltf, ns_eqt, ns_eqf, ns_gd, nI_clamp, nI_add, pk_sub, pk_mul, ns_m1a, ns_m1b, ns_m1c, ns_m1d, ns_m1e, ns_m1f, ns_m1g, ns_un1, ns_un0, ns_day1, Option.bind_some, gi_si_self, gi_si_ne, gl_si, gi_sl, gl_sl_self, gl_sl_ne, if_true, if_false, ns_i0, ns_i1, ns_i2, ns_i3, ns_i4, ns_i5, ns_i6, ns_i7, ns_i8, ns_i9, ns_i10, ns_i11, ns_i12, ns_i13, ns_i20, ns_i23, ns_i24, ns_i31, ns_i50, ns_i60, ns_i99, ns_i100, ns_i144, ns_i200, ns_i255, ns_i700, ns_i880, ns_i899, ns_i900, ns_i901, ns_i999, ns_i1000, ns_i1440, ns_i4095, ns_i1000000, q4, q6, ns_shl, ho]
                · exact csn_si (csn_si (csn_si (csn_si (csn_si k3 (by omega)) (by omega)) (by omega)) ht) ht
                · refine ⟨?_, fun j q hj => ?_, ?_, ?_, fun j q hj => ?_, ?_⟩
                  · rw [gi_si_ne (by omega), gi_si_ne (by omega), gi_si_ne (by omega), gi_si_ne (by omega), gi_si_ne (by omega)]; exact q1
                  · obtain ⟨y1, y2, y3⟩ := q2 j q hj
                    refine ⟨?_, ?_, ?_⟩
                    · rw [gi_si_ne (by omega), gi_si_ne (by omega), gi_si_ne (by omega), gi_si_ne (by omega), gi_si_ne (by omega)]; exact y1
                    · rw [gi_si_ne (by omega), gi_si_ne (by omega), gi_si_ne (by omega), gi_si_ne (by omega), gi_si_ne (by omega)]; exact y2
                    · rw [gi_si_ne (by omega), gi_si_ne (by omega), gi_si_ne (by omega), gi_si_ne (by omega), gi_si_ne (by omega)]; exact y3
                  · rw [gi_si_ne (by omega), gi_si_ne (by omega), gi_si_ne (by omega), gi_si_ne (by omega), gi_si_ne (by omega)]; exact q3
                  · rw [gi_si_self, List.length_append]; rfl
                  · rcases app_q hj with ⟨z1, z2⟩ | ⟨z1, z2⟩
                    · obtain ⟨y1, y2, y3⟩ := q5 j q z2
                      refine ⟨?_, ?_, ?_⟩
                      · rw [gi_si_ne (by omega), gi_si_ne (by omega), gi_si_ne (by omega), gi_si_ne (by omega), gi_si_ne (by omega)]; exact y1
                      · rw [gi_si_ne (by omega), gi_si_ne (by omega), gi_si_ne (by omega), gi_si_ne (by omega), gi_si_ne (by omega)]; exact y2
                      · rw [gi_si_ne (by omega), gi_si_ne (by omega), gi_si_ne (by omega), gi_si_ne (by omega), gi_si_ne (by omega)]; exact y3
                    · subst z1
                      subst z2
                      refine ⟨?_, ?_, ?_⟩
                      · rw [gi_si_ne (by omega), gi_si_ne (by omega), gi_si_ne (by omega), gi_si_ne (by omega), gi_si_self]
                      · rw [gi_si_ne (by omega), gi_si_ne (by omega), gi_si_ne (by omega), gi_si_self]
                      · rw [gi_si_ne (by omega), gi_si_ne (by omega), gi_si_self]
                  · rw [gi_si_ne (by omega), gi_si_self]
                · exact ⟨hw.1, hw.2.1, cok_a hw.2.2.1 (by omega) a2 (by omega) j3, or12 hP hpa.1⟩
                · have i1 := stp_i a1
                  have i2 := stk_i b1
                  have i3 := stn_i d1
                  have i4 := stk_i g1
                  have i5 := stn_i j1
                  have i6 := stk_i k1
                  omega
theorem rlin_c {t : Nat} (ht : 6 ≤ t) {w : tw_} (hw : twk_ w) {ts : List tkn_} {m : fm_} (h : csn_ ts m) (hc : twc_ t w m) : (∃ f m1, rlin_ w ts = .inl f ∧ f_X9_readLine t m = some (nI 0, m1) ∧ flc_ f m1) ∨ (∃ w1 r m1, rlin_ w ts = .inr (w1, r) ∧ f_X9_readLine t m = some (nI 1, m1) ∧ csn_ r m1 ∧ twc_ t w1 m1 ∧ twk_ w1 ∧ r.length + 3 ≤ ts.length) := by
  cases ts with
  | nil => exact absurd h.2.2 id
  | cons x r =>
    have hx := h.2.2.1
    have bl0 : bl_ (nI 0) = true := by decide
    have bl1 : bl_ (nI 1) = true := by decide
    unfold f_X9_readLine
    rw [rlin_l, (knd_c h.1).1, Option.bind_some]
    simp only
    by_cases c1 : x.1 = 100
    · rw [if_pos c1, if_pos (show nI x.1 = 100 by rw [c1]; rfl)]
      rcases rway_c ht hw h (by omega) hc with ⟨f, m1, a1, a2, a3⟩ | ⟨w1, r1, m1, a1, a2, a3⟩
      · exact Or.inl ⟨f, m1, a1, by rw [a2, Option.bind_some, gd_t bl0], a3⟩
      · exact Or.inr ⟨w1, r1, m1, a1, by rw [a2, Option.bind_some, gd_t bl1], a3⟩
    · rw [if_neg c1, if_neg (show ¬ nI x.1 = 100 from show ¬ nI x.1 = nI 100 from fun q => c1 ((nI_eq (by omega) (by omega)).mp q))]
      by_cases c2 : x.1 = 101
      · rw [if_pos c2, if_pos (show nI x.1 = 101 by rw [c2]; rfl)]
        rcases rzon_c ht hw h (by omega) hc with ⟨f, m1, a1, a2, a3⟩ | ⟨w1, r1, m1, a1, a2, a3⟩
        · exact Or.inl ⟨f, m1, a1, by rw [a2, Option.bind_some, gd_t bl0], a3⟩
        · exact Or.inr ⟨w1, r1, m1, a1, by rw [a2, Option.bind_some, gd_t bl1], a3⟩
      · rw [if_neg c2, if_neg (show ¬ nI x.1 = 101 from show ¬ nI x.1 = nI 101 from fun q => c2 ((nI_eq (by omega) (by omega)).mp q))]
        by_cases c3 : x.1 = 102
        · rw [if_pos c3, if_pos (show nI x.1 = 102 by rw [c3]; rfl)]
          rcases rcam_c ht hw h (by omega) hc with ⟨f, m1, a1, a2, a3⟩ | ⟨w1, r1, m1, a1, a2, a3⟩
          · exact Or.inl ⟨f, m1, a1, by rw [a2, Option.bind_some, gd_t bl0], a3⟩
          · exact Or.inr ⟨w1, r1, m1, a1, by rw [a2, Option.bind_some, gd_t bl1], a3⟩
        · rw [if_neg c3, if_neg (show ¬ nI x.1 = 102 from show ¬ nI x.1 = nI 102 from fun q => c3 ((nI_eq (by omega) (by omega)).mp q))]
          obtain ⟨m1, e1, e2, e3⟩ := fai_c h 2
          have e1 : f_X8_fail 2 m = some (nI 0, m1) := e1
          exact Or.inl ⟨_, m1, rfl, by rw [e1, Option.bind_some, gd_t bl0], e2⟩
/-! lines -/
def rls_ : Nat → tw_ → List tkn_ → Nat → Sum (Nat × Nat) (tw_ × Nat)
  | 0, _, _, _ => .inl (1, 0)
  | n + 1, w, ts, k => match ts with
    | [] => .inl (1, 0)
    | t :: r => if t.1 = 0 then .inr (w, k) else sbd_ (rlin_ w (t :: r)) fun q => rls_ n q.1 q.2 (k + 1)
theorem rls_s {n : Nat} {w : tw_} {t : tkn_} {r : List tkn_} {k : Nat} : rls_ (n + 1) w (t :: r) k = if t.1 = 0 then .inr (w, k) else sbd_ (rlin_ w (t :: r)) fun q => rls_ n q.1 q.2 (k + 1) := rfl
theorem rls_c {t : Nat} (ht : 6 ≤ t) : ∀ (n : Nat) (ts : List tkn_) (w : tw_) (k : Nat) (m : fm_), ts.length ≤ n → 3 * k + ts.length ≤ 901 → csn_ ts m → twk_ w → twc_ t w m → (∃ f m1, rls_ n w ts k = .inl f ∧ f_X9_readLines_22 t (nI k) m = some (-1, m1) ∧ flc_ f m1) ∨ (∃ w1 k1 m1 r1, rls_ n w ts k = .inr (w1, k1) ∧ f_X9_readLines_22 t (nI k) m = some (nI k1, m1) ∧ csn_ r1 m1 ∧ twk_ w1 ∧ twc_ t w1 m1 ∧ k1 ≤ 900) := by
  intro n
  induction n with
  | zero =>
    intro ts w k m hn hk h
    cases ts with
    | nil => exact absurd h.2.2 id
    | cons x r => exact absurd hn (by rw [List.length_cons]; omega)
  | succ n ih =>
    intro ts w k m hn hk h hw hc
    cases ts with
    | nil => exact absurd h.2.2 id
    | cons x r =>
      have hx := h.2.2.1
      rw [List.length_cons] at hn hk
      rw [rls_s, e_X9_readLines_22, if_neg (show ¬ (900 : Int32) ≤ nI k from show ¬ nI 900 ≤ nI k from nI_ge (by omega) (by omega)), (knd_c h.1).1, Option.bind_some]
      simp only
      by_cases c1 : x.1 = 0
      · rw [if_pos c1, if_pos (show nI x.1 = 0 by rw [c1]; rfl)]
        exact Or.inr ⟨w, k, m, x :: r, rfl, rfl, h, hw, hc, by omega⟩
      · rw [if_neg c1, if_neg (show ¬ nI x.1 = 0 from show ¬ nI x.1 = nI 0 from fun q => c1 ((nI_eq (by omega) (by omega)).mp q))]
        rcases rlin_c ht hw h hc with ⟨f, m1, a1, a2, a3⟩ | ⟨w1, r1, m1, a1, a2, a3, a4, a5, a6⟩
        · refine Or.inl ⟨f, m1, by rw [a1]; rfl, ?_, a3⟩
          rw [a2]
          rfl
        · rw [List.length_cons] at a6
          have st : (Option.bind (f_X9_readLine t m) fun q8 => if q8.1 = 0 then some (-1, q8.2) else f_X9_readLines_22 t (nI k + 1) q8.2) = f_X9_readLines_22 t (nI (k + 1)) m1 := by
            rw [a2, Option.bind_some, if_neg (show ¬ nI 1 = 0 by decide)]
            show f_X9_readLines_22 t (nI k + nI 1) m1 = _
            rw [nI_add]
          rw [a1, sbd_r, st]
          exact ih r1 w1 (k + 1) m1 (by omega) (by omega) a3 a5 a4
