theorem rcam_m {L : List Nat} {w : tw_} (hw : twk_ w) {x : tkn_} {r : List tkn_} {m : fm_} (h : rsn_ L (x :: r) m) (hx : x.1 = 102) (hl : ¬ 8 ≤ w.2.2.1.length) (hm : twd_ w m) {n : Nat} (hn : gi_ m 106 20 = nI n) : (∃ f m1, rcam_ w x r = .inl f ∧ f_X12_readLine_159 m = some (0, m1) ∧ flm_ f m1) ∨ (∃ w1 r1 m1, rcam_ w x r = .inr (w1, r1) ∧ f_X12_readLine_159 m = some (0, m1) ∧ rsn_ L r1 m1 ∧ twd_ w1 m1 ∧ gi_ m1 106 20 = nI (n + 1)) := by
  have hP := hw.2.2.2
  have hgd : ∃ N, N = w.2.2.1.length := ⟨_, rfl⟩
  obtain ⟨N, hN⟩ := hgd
  unfold rcam_
  rw [e_X12_readLine_159, isw_m h (k := 2) (by omega) (by rfl), Option.bind_some, decide_eq_true (show x.1 = kd_ 2 from hx), if_neg (show ¬ b01_ true = 0 by decide)]
  simp only
  rw [hm.2.2.2.1, if_neg (show ¬ (8 : Int32) ≤ nI w.2.2.1.length from show ¬ nI 8 ≤ nI w.2.2.1.length from nI_ge (by omega) (by omega)), if_neg hl]
  obtain ⟨m1, e1, e2, e3⟩ := nxs_m h (by omega)
  have e1 : f_X12_next m = some (nI 0, m1) := e1
  have c1 : gi_ m1 106 17 = nI N := by rw [hN]; exact (rfw_g e3 _ _ (by omega)).trans hm.2.2.2.1
  have s1 : gi_ m1 106 19 = nI w.2.2.2 := (rfw_g e3 _ _ (by omega)).trans hm.2.2.2.2.2
  have hl : N < 8 := by omega
  rcases pnt_m e2 hP with ⟨f, y, m2, a1, a2, a3, a4⟩ | ⟨a, ra, m2, a1, a2, a3, a4, a5, a6⟩
  · have c2 : gi_ m2 106 17 = nI N := (rfw_g a4 _ _ (by omega)).trans c1
    have s2 : gi_ m2 106 19 = nI w.2.2.2 := (rfw_g a4 _ _ (by omega)).trans s1
    have f2 : flm_ f (si_ (si_ m2 111 N y) 106 19 (nI w.2.2.2 ||| nI 1 <<< (y &&& nI 31))) := flm_si (flm_si a3 (by omega)) (by omega)
    have f4 : flm_ f (si_ (si_ (si_ m2 111 N y) 106 19 (nI w.2.2.2 ||| nI 1 <<< (y &&& nI 31))) 112 N (nI 0)) := flm_si f2 (by omega)
    have p1 : ∀ c, f_X12_wantWord c _ = some (nI 0, _) := fun c => wnt_f f2 c
    have p2 : ∀ c d, f_X12_told c d _ = some (nI 0, _) := fun c d => tld_f f2 c d
    have p3 : ∀ c, f_X12_wantWord c _ = some (nI 0, _) := fun c => wnt_f f4 c
    have p4 : ∀ c d, f_X12_told c d _ = some (nI 0, _) := fun c d => tld_f f4 c d
    obtain ⟨m9, z1, z2⟩ := r295_f (m := si_ (si_ (si_ (si_ (si_ m2 111 N y) 106 19 (nI w.2.2.2 ||| nI 1 <<< (y &&& nI 31))) 112 N (nI 0)) 113 N (nI 0)) 106 17 (nI (N + 1))) (flm_si (flm_si f4 (by omega)) (by omega))
    refine Or.inl ⟨f, m9, by rw [a1]; rfl, ?_, z2⟩
    simp (disch := omega) only [↓reduceIte, ↓ns_m1, ns_let, ns_lef, ns_ltt, ns_ltf, ns_eqt, ns_eqf, ns_gd, nI_clamp, nI_add, pk_sub, pk_mul, ns_m1a, ns_m1b, ns_m1c, ns_m1d, ns_m1e, ns_m1f, ns_m1g, ns_un1, ns_un0, ns_day1, Option.bind_some, gi_si_self, gi_si_ne, gl_si, gi_sl, gl_sl_self, gl_sl_ne, if_true, if_false, ns_i0, ns_i1, ns_i2, ns_i3, ns_i4, ns_i5, ns_i6, ns_i7, ns_i8, ns_i9, ns_i10, ns_i11, ns_i12, ns_i13, ns_i20, ns_i23, ns_i24, ns_i31, ns_i50, ns_i60, ns_i99, ns_i100, ns_i144, ns_i200, ns_i255, ns_i700, ns_i880, ns_i899, ns_i900, ns_i901, ns_i999, ns_i1000, ns_i1440, ns_i4095, ns_i1000000, e1, a2, c1, c2, s1, s2, p1, p2, p3, p4, z1]
  · have c2 : gi_ m2 106 17 = nI N := (rfw_g a6 _ _ (by omega)).trans c1
    have s2 : gi_ m2 106 19 = nI w.2.2.2 := (rfw_g a6 _ _ (by omega)).trans s1
    have hpa := pw12 a2
    have ho : nI w.2.2.2 ||| nI (2 ^ a) = nI (w.2.2.2 ||| 2 ^ a) := nI_or (k := 12) hP hpa.1 (by omega)
    rw [a1, sbd_r]
    have i1 : rsn_ L ra (si_ (si_ m2 111 N (nI a)) 106 19 (nI (w.2.2.2 ||| 2 ^ a))) := rsn_si (rsn_si a5 (by omega) (by omega)) (by omega) (by omega)
    have c2' : gi_ (si_ (si_ m2 111 N (nI a)) 106 19 (nI (w.2.2.2 ||| 2 ^ a))) 106 17 = nI N := by rw [gi_si_ne (by omega), gi_si_ne (by omega)]; exact c2
    rcases wnt_m i1 (k := 9) (c := 1718775661) (by omega) (by rfl) with ⟨f, m3, b1, b2, b3, b4⟩ | ⟨rb, m3, b1, b2, b3, b4⟩
    · have b1 : tqk_ 103 ra = .inl f := b1
      have b2 : f_X12_wantWord 1718775661 (si_ (si_ m2 111 N (nI a)) 106 19 (nI (w.2.2.2 ||| 2 ^ a))) = some (nI 0, m3) := b2
      have c3 : gi_ m3 106 17 = nI N := (rfw_g b4 _ _ (by omega)).trans c2'
      have f4 : flm_ f (si_ m3 112 N (nI 0)) := flm_si b3 (by omega)
      have p2 : ∀ c d, f_X12_told c d _ = some (nI 0, _) := fun c d => tld_f b3 c d
      have p3 : ∀ c, f_X12_wantWord c _ = some (nI 0, _) := fun c => wnt_f f4 c
      have p4 : ∀ c d, f_X12_told c d _ = some (nI 0, _) := fun c d => tld_f f4 c d
      obtain ⟨m9, z1, z2⟩ := r295_f (m := si_ (si_ (si_ m3 112 N (nI 0)) 113 N (nI 0)) 106 17 (nI (N + 1))) (flm_si (flm_si f4 (by omega)) (by omega))
      refine Or.inl ⟨f, m9, by rw [b1]; rfl, ?_, z2⟩
      simp (disch := omega) only [↓reduceIte, ↓ns_m1, ns_let, ns_lef, ns_ltt, ns_ltf, ns_eqt, ns_eqf, ns_gd, nI_clamp, nI_add, pk_sub, pk_mul, ns_m1a, ns_m1b, ns_m1c, ns_m1d, ns_m1e, ns_m1f, ns_m1g, ns_un1, ns_un0, ns_day1, Option.bind_some, gi_si_self, gi_si_ne, gl_si, gi_sl, gl_sl_self, gl_sl_ne, if_true, if_false, ns_i0, ns_i1, ns_i2, ns_i3, ns_i4, ns_i5, ns_i6, ns_i7, ns_i8, ns_i9, ns_i10, ns_i11, ns_i12, ns_i13, ns_i20, ns_i23, ns_i24, ns_i31, ns_i50, ns_i60, ns_i99, ns_i100, ns_i144, ns_i200, ns_i255, ns_i700, ns_i880, ns_i899, ns_i900, ns_i901, ns_i999, ns_i1000, ns_i1440, ns_i4095, ns_i1000000, e1, a4, c1, c2, s1, s2, ns_shl, ho, b2, c3, p2, p3, p4, z1]
    · have b1 : tqk_ 103 ra = .inr rb := b1
      have b2 : f_X12_wantWord 1718775661 (si_ (si_ m2 111 N (nI a)) 106 19 (nI (w.2.2.2 ||| 2 ^ a))) = some (nI 0, m3) := b2
      have c3 : gi_ m3 106 17 = nI N := (rfw_g b4 _ _ (by omega)).trans c2'
      rw [b1, sbd_r]
      rcases tld_m b3 (lo := 0) (hi := 1440) (by omega) (by omega) with ⟨f, y, m4, d1, d2, d3, d4⟩ | ⟨v, rv, m4, d1, d2, d3, d4, d5, d6⟩
      · have c4 : gi_ m4 106 17 = nI N := (rfw_g d4 _ _ (by omega)).trans c3
        have f4 : flm_ f (si_ m4 112 N y) := flm_si d3 (by omega)
        have p3 : ∀ c, f_X12_wantWord c _ = some (nI 0, _) := fun c => wnt_f f4 c
        have p4 : ∀ c d, f_X12_told c d _ = some (nI 0, _) := fun c d => tld_f f4 c d
        obtain ⟨m9, z1, z2⟩ := r295_f (m := si_ (si_ (si_ m4 112 N y) 113 N (nI 0)) 106 17 (nI (N + 1))) (flm_si (flm_si f4 (by omega)) (by omega))
        refine Or.inl ⟨f, m9, by rw [d1]; rfl, ?_, z2⟩
        simp (disch := omega) only [↓reduceIte, ↓ns_m1, ns_let, ns_lef, ns_ltt, ns_ltf, ns_eqt, ns_eqf, ns_gd, nI_clamp, nI_add, pk_sub, pk_mul, ns_m1a, ns_m1b, ns_m1c, ns_m1d, ns_m1e, ns_m1f, ns_m1g, ns_un1, ns_un0, ns_day1, Option.bind_some, gi_si_self, gi_si_ne, gl_si, gi_sl, gl_sl_self, gl_sl_ne, if_true, if_false, ns_i0, ns_i1, ns_i2, ns_i3, ns_i4, ns_i5, ns_i6, ns_i7, ns_i8, ns_i9, ns_i10, ns_i11, ns_i12, ns_i13, ns_i20, ns_i23, ns_i24, ns_i31, ns_i50, ns_i60, ns_i99, ns_i100, ns_i144, ns_i200, ns_i255, ns_i700, ns_i880, ns_i899, ns_i900, ns_i901, ns_i999, ns_i1000, ns_i1440, ns_i4095, ns_i1000000, e1, a4, c1, c2, s1, s2, ns_shl, ho, b2, c3, d2, c4, p3, p4, z1]
      · have c4 : gi_ m4 106 17 = nI N := (rfw_g d6 _ _ (by omega)).trans c3
        rw [d1, sbd_r]
        have i4 : rsn_ L rv (si_ m4 112 N (nI v)) := rsn_si d5 (by omega) (by omega)
        have c4' : gi_ (si_ m4 112 N (nI v)) 106 17 = nI N := by rw [gi_si_ne (by omega)]; exact c4
        rcases wnt_m i4 (k := 10) (c := 29807) (by omega) (by rfl) with ⟨f, m5, g1, g2, g3, g4⟩ | ⟨re, m5, g1, g2, g3, g4⟩
        · have g1 : tqk_ 104 rv = .inl f := g1
          have g2 : f_X12_wantWord 29807 (si_ m4 112 N (nI v)) = some (nI 0, m5) := g2
          have c5 : gi_ m5 106 17 = nI N := (rfw_g g4 _ _ (by omega)).trans c4'
          have p4 : ∀ c d, f_X12_told c d _ = some (nI 0, _) := fun c d => tld_f g3 c d
          obtain ⟨m9, z1, z2⟩ := r295_f (m := si_ (si_ m5 113 N (nI 0)) 106 17 (nI (N + 1))) (flm_si (flm_si g3 (by omega)) (by omega))
          refine Or.inl ⟨f, m9, by rw [g1]; rfl, ?_, z2⟩
          simp (disch := omega) only [↓reduceIte, ↓ns_m1, ns_let, ns_lef, ns_ltt, ns_ltf, ns_eqt, ns_eqf, ns_gd, nI_clamp, nI_add, pk_sub, pk_mul, ns_m1a, ns_m1b, ns_m1c, ns_m1d, ns_m1e, ns_m1f, ns_m1g, ns_un1, ns_un0, ns_day1, Option.bind_some, gi_si_self, gi_si_ne, gl_si, gi_sl, gl_sl_self, gl_sl_ne, if_true, if_false, ns_i0, ns_i1, ns_i2, ns_i3, ns_i4, ns_i5, ns_i6, ns_i7, ns_i8, ns_i9, ns_i10, ns_i11, ns_i12, ns_i13, ns_i20, ns_i23, ns_i24, ns_i31, ns_i50, ns_i60, ns_i99, ns_i100, ns_i144, ns_i200, ns_i255, ns_i700, ns_i880, ns_i899, ns_i900, ns_i901, ns_i999, ns_i1000, ns_i1440, ns_i4095, ns_i1000000, e1, a4, c1, c2, s1, s2, ns_shl, ho, b2, c3, d4, c4, g2, c5, p4, z1]
        · have g1 : tqk_ 104 rv = .inr re := g1
          have g2 : f_X12_wantWord 29807 (si_ m4 112 N (nI v)) = some (nI 0, m5) := g2
          have c5 : gi_ m5 106 17 = nI N := (rfw_g g4 _ _ (by omega)).trans c4'
          have k12 : gi_ m5 112 N = nI v := by rw [rfw_g g4 _ _ (by omega), gi_si_self]
          rw [g1, sbd_r]
          rcases tld_m g3 (lo := v + 1) (hi := 1440) (by omega) (by omega) with ⟨f, y, m6, j1, j2, j3, j4⟩ | ⟨u, ru, m6, j1, j2, j3, j4, j5, j6⟩
          · have c6 : gi_ m6 106 17 = nI N := (rfw_g j4 _ _ (by omega)).trans c5
            obtain ⟨m9, z1, z2⟩ := r295_f (m := si_ (si_ m6 113 N y) 106 17 (nI (N + 1))) (flm_si (flm_si j3 (by omega)) (by omega))
            refine Or.inl ⟨f, m9, by rw [j1]; rfl, ?_, z2⟩
            simp (disch := omega) only [↓reduceIte, ↓ns_m1, ns_let, ns_lef, ns_ltt, ns_ltf, ns_eqt, ns_eqf, ns_gd, nI_clamp, nI_add, pk_sub, pk_mul, ns_m1a, ns_m1b, ns_m1c, ns_m1d, ns_m1e, ns_m1f, ns_m1g, ns_un1, ns_un0, ns_day1, Option.bind_some, gi_si_self, gi_si_ne, gl_si, gi_sl, gl_sl_self, gl_sl_ne, if_true, if_false, ns_i0, ns_i1, ns_i2, ns_i3, ns_i4, ns_i5, ns_i6, ns_i7, ns_i8, ns_i9, ns_i10, ns_i11, ns_i12, ns_i13, ns_i20, ns_i23, ns_i24, ns_i31, ns_i50, ns_i60, ns_i99, ns_i100, ns_i144, ns_i200, ns_i255, ns_i700, ns_i880, ns_i899, ns_i900, ns_i901, ns_i999, ns_i1000, ns_i1440, ns_i4095, ns_i1000000, e1, a4, c1, c2, s1, s2, ns_shl, ho, b2, c3, d4, c4, g2, c5, k12, j2, c6, z1]
          · have c6 : gi_ m6 106 17 = nI N := (rfw_g j6 _ _ (by omega)).trans c5
            rw [j1, sbd_r]
            have key : ∀ a k, (¬ a = 106 ∨ 10 ≤ k) → ¬ (a = 111 ∧ k = N) → ¬ (a = 112 ∧ k = N) → ¬ (a = 106 ∧ k = 19) → gi_ m6 a k = gi_ m a k := fun a k h1 h2 h3 h4 => by
              rw [rfw_g j6 a k h1, rfw_g g4 a k h1, gi_si_ne h3, rfw_g d6 a k h1, rfw_g b4 a k h1, gi_si_ne h4, gi_si_ne h2, rfw_g a6 a k h1, rfw_g e3 a k h1]
            have k1 : gi_ m6 111 N = nI a := by
              rw [rfw_g j6 _ _ (by omega), rfw_g g4 _ _ (by omega), gi_si_ne (by omega), rfw_g d6 _ _ (by omega), rfw_g b4 _ _ (by omega), gi_si_ne (by omega), gi_si_self]
            have k2 : gi_ m6 112 N = nI v := by rw [rfw_g j6 _ _ (by omega), k12]
            have k9 : gi_ m6 106 19 = nI (w.2.2.2 ||| 2 ^ a) := by
              rw [rfw_g j6 _ _ (by omega), rfw_g g4 _ _ (by omega), gi_si_ne (by omega), rfw_g d6 _ _ (by omega), rfw_g b4 _ _ (by omega), gi_si_self]
            have i7 : rsn_ L ru (si_ (si_ m6 113 N (nI u)) 106 17 (nI (N + 1))) := rsn_si (rsn_si j5 (by omega) (by omega)) (by omega) (by omega)
            obtain ⟨q1, q2, q3, q4, q5, q6⟩ := hm
            have i8 : twd_ (w.1, w.2.1, w.2.2.1 ++ [(a, v, u)], w.2.2.2 ||| 2 ^ a) (si_ (si_ m6 113 N (nI u)) 106 17 (nI (N + 1))) := by
              refine ⟨?_, fun j q hj => ?_, ?_, ?_, fun j q hj => ?_, ?_⟩
              · rw [gi_si_ne (by omega), gi_si_ne (by omega), key _ _ (by omega) (by omega) (by omega) (by omega)]; exact q1
              · obtain ⟨y1, y2, y3⟩ := q2 j q hj
                refine ⟨?_, ?_, ?_⟩
                · rw [gi_si_ne (by omega), gi_si_ne (by omega), key _ _ (by omega) (by omega) (by omega) (by omega)]; exact y1
                · rw [gi_si_ne (by omega), gi_si_ne (by omega), key _ _ (by omega) (by omega) (by omega) (by omega)]; exact y2
                · rw [gi_si_ne (by omega), gi_si_ne (by omega), key _ _ (by omega) (by omega) (by omega) (by omega)]; exact y3
              · rw [gi_si_ne (by omega), gi_si_ne (by omega), key _ _ (by omega) (by omega) (by omega) (by omega)]; exact q3
              · rw [gi_si_self, List.length_append, hN]; rfl
              · rcases app_q hj with ⟨z1, z2⟩ | ⟨z1, z2⟩
                · obtain ⟨y1, y2, y3⟩ := q5 j q z2
                  refine ⟨?_, ?_, ?_⟩
                  · rw [gi_si_ne (by omega), gi_si_ne (by omega), key _ _ (by omega) (by omega) (by omega) (by omega)]; exact y1
                  · rw [gi_si_ne (by omega), gi_si_ne (by omega), key _ _ (by omega) (by omega) (by omega) (by omega)]; exact y2
                  · rw [gi_si_ne (by omega), gi_si_ne (by omega), key _ _ (by omega) (by omega) (by omega) (by omega)]; exact y3
                · rw [← hN] at z1
                  subst z1
                  subst z2
                  refine ⟨?_, ?_, ?_⟩
                  · rw [gi_si_ne (by omega), gi_si_ne (by omega)]; exact k1
                  · rw [gi_si_ne (by omega), gi_si_ne (by omega)]; exact k2
                  · rw [gi_si_ne (by omega), gi_si_self]
              · rw [gi_si_ne (by omega), gi_si_ne (by omega)]; exact k9
            have i9 : gi_ (si_ (si_ m6 113 N (nI u)) 106 17 (nI (N + 1))) 106 20 = nI n := by
              rw [gi_si_ne (by omega), gi_si_ne (by omega), key _ _ (by omega) (by omega) (by omega) (by omega)]; exact hn
            rcases r295_m i7 i8 i9 with ⟨f, m9, z1, z2, z3⟩ | ⟨r9, m9, z1, z2, z3, z4, z5⟩
            · refine Or.inl ⟨f, m9, by rw [z1]; rfl, ?_, z3⟩
              simp (disch := omega) only [↓reduceIte, ↓ns_m1, ns_let, ns_lef, ns_ltt, ns_ltf, ns_eqt, ns_eqf, ns_gd, nI_clamp, nI_add, pk_sub, pk_mul, ns_m1a, ns_m1b, ns_m1c, ns_m1d, ns_m1e, ns_m1f, ns_m1g, ns_un1, ns_un0, ns_day1, Option.bind_some, gi_si_self, gi_si_ne, gl_si, gi_sl, gl_sl_self, gl_sl_ne, if_true, if_false, ns_i0, ns_i1, ns_i2, ns_i3, ns_i4, ns_i5, ns_i6, ns_i7, ns_i8, ns_i9, ns_i10, ns_i11, ns_i12, ns_i13, ns_i20, ns_i23, ns_i24, ns_i31, ns_i50, ns_i60, ns_i99, ns_i100, ns_i144, ns_i200, ns_i255, ns_i700, ns_i880, ns_i899, ns_i900, ns_i901, ns_i999, ns_i1000, ns_i1440, ns_i4095, ns_i1000000, e1, a4, c1, c2, s1, s2, ns_shl, ho, b2, c3, d4, c4, g2, c5, k12, j4, c6, z2]
            · refine Or.inr ⟨_, r9, m9, by rw [z1]; rfl, ?_, z3, z4, z5⟩
              simp (disch := omega) only [↓reduceIte, ↓ns_m1, ns_let, ns_lef, ns_ltt, ns_ltf, ns_eqt, ns_eqf, ns_gd, nI_clamp, nI_add, pk_sub, pk_mul, ns_m1a, ns_m1b, ns_m1c, ns_m1d, ns_m1e, ns_m1f, ns_m1g, ns_un1, ns_un0, ns_day1, Option.bind_some, gi_si_self, gi_si_ne, gl_si, gi_sl, gl_sl_self, gl_sl_ne, if_true, if_false, ns_i0, ns_i1, ns_i2, ns_i3, ns_i4, ns_i5, ns_i6, ns_i7, ns_i8, ns_i9, ns_i10, ns_i11, ns_i12, ns_i13, ns_i20, ns_i23, ns_i24, ns_i31, ns_i50, ns_i60, ns_i99, ns_i100, ns_i144, ns_i200, ns_i255, ns_i700, ns_i880, ns_i899, ns_i900, ns_i901, ns_i999, ns_i1000, ns_i1440, ns_i4095, ns_i1000000, e1, a4, c1, c2, s1, s2, ns_shl, ho, b2, c3, d4, c4, g2, c5, k12, j4, c6, z2]
theorem rlin_m {L : List Nat} {w : tw_} (hw : twk_ w) {ts : List tkn_} {m : fm_} (h : rsn_ L ts m) (hm : twd_ w m) {n : Nat} (hn : gi_ m 106 20 = nI n) : (∃ f m1, rlin_ w ts = .inl f ∧ f_X12_readLine m = some (0, m1) ∧ flm_ f m1) ∨ (∃ w1 r1 m1, rlin_ w ts = .inr (w1, r1) ∧ f_X12_readLine m = some (0, m1) ∧ rsn_ L r1 m1 ∧ twd_ w1 m1 ∧ gi_ m1 106 20 = nI (n + 1)) := by
  cases ts with
  | nil => exact absurd h.2.2.1 id
  | cons x r =>
    have h24 := hw.1.1
    have h4096 := hw.2.1
    have h8 := hw.2.2.1.1
    have w0 := isw_m h (k := 0) (c := 7823737) (by omega) (by rfl)
    have w1 := isw_m h (k := 1) (c := 2054123109) (by omega) (by rfl)
    have w2 := isw_m h (k := 2) (c := 109270098342497) (by omega) (by rfl)
    obtain ⟨m9, z1, z2⟩ := r290_m h
    have to159 : ¬ (x.1 = 102 ∧ ¬ 8 ≤ w.2.2.1.length) → f_X12_readLine_159 m = some (0, m9) := fun q => by
      rw [e_X12_readLine_159, w2, Option.bind_some]
      simp only
      by_cases c : x.1 = 102
      · rw [decide_eq_true (show x.1 = kd_ 2 from c), if_neg (show ¬ b01_ true = 0 by decide), hm.2.2.2.1, if_pos (show (8 : Int32) ≤ nI w.2.2.1.length from show nI 8 ≤ nI w.2.2.1.length from nI_le (by omega) (by omega))]
        exact z1
      · rw [decide_eq_false (show ¬ x.1 = kd_ 2 from c), if_pos (show b01_ false = 0 by decide)]
        exact z1
    have to90 : ¬ (x.1 = 101 ∧ w.2.1 = 0) → f_X12_readLine_90 m = f_X12_readLine_159 m := fun q => by
      rw [e_X12_readLine_90, w1, Option.bind_some]
      simp only
      by_cases c : x.1 = 101
      · rw [decide_eq_true (show x.1 = kd_ 1 from c), if_neg (show ¬ b01_ true = 0 by decide), hm.2.2.1, if_neg (show ¬ nI w.2.1 = 0 from show ¬ nI w.2.1 = nI 0 from fun e => q ⟨c, (nI_eq (by omega) (by omega)).mp e⟩)]
      · rw [decide_eq_false (show ¬ x.1 = kd_ 1 from c), if_pos (show b01_ false = 0 by decide)]
    have to0 : ¬ (x.1 = 100 ∧ ¬ 24 ≤ w.1.length) → f_X12_readLine m = f_X12_readLine_90 m := fun q => by
      unfold f_X12_readLine
      rw [w0, Option.bind_some]
      simp only
      by_cases c : x.1 = 100
      · rw [decide_eq_true (show x.1 = kd_ 0 from c), if_neg (show ¬ b01_ true = 0 by decide), hm.1, if_pos (show (24 : Int32) ≤ nI w.1.length from show nI 24 ≤ nI w.1.length from nI_le (by omega) (by omega))]
      · rw [decide_eq_false (show ¬ x.1 = kd_ 0 from c), if_pos (show b01_ false = 0 by decide)]
    rw [rlin_l]
    by_cases c1 : x.1 = 100
    · rw [if_pos c1]
      by_cases d1 : 24 ≤ w.1.length
      · refine Or.inl ⟨_, m9, by unfold rway_; rw [if_pos d1], ?_, z2⟩
        rw [to0 (fun q => q.2 d1), to90 (by omega), to159 (by omega)]
      · exact rway_m hw h c1 d1 hm hn
    · rw [if_neg c1, to0 (fun q => c1 q.1)]
      by_cases c2 : x.1 = 101
      · rw [if_pos c2]
        by_cases d2 : w.2.1 = 0
        · exact rzon_m hw h c2 d2 hm hn
        · refine Or.inl ⟨_, m9, by unfold rzon_; rw [if_neg d2], ?_, z2⟩
          rw [to90 (fun q => d2 q.2), to159 (by omega)]
      · rw [if_neg c2, to90 (fun q => c2 q.1)]
        by_cases c3 : x.1 = 102
        · rw [if_pos c3]
          by_cases d3 : 8 ≤ w.2.2.1.length
          · refine Or.inl ⟨_, m9, by unfold rcam_; rw [if_pos d3], ?_, z2⟩
            rw [to159 (fun q => q.2 d3)]
          · exact rcam_m hw h c3 d3 hm hn
        · rw [if_neg c3]
          exact Or.inl ⟨_, m9, rfl, to159 (fun q => c3 q.1), z2⟩
