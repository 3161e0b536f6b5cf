/-! ===== a day is chosen ===== -/
/-- what the class holds of a day as known at k -/
def chs_ (W : List (Nat × Nat × Nat)) (P : pl_) (F : List fa_) (C : List (Nat × Nat × Nat)) (d : Nat) (k : Int32) (m : fm_) : Prop := gi_ m 85 d = nI (knd_ W P F C (rdk_ F d k F.length)).1 ∧ (∀ j r : Nat, (rdk_ F d k F.length)[j]? = some r → gi_ m 86 r = ow_ P.length ((knd_ W P F C (rdk_ F d k F.length)).2 j)) ∧ ∀ r : Nat, r ∈ rdn_ F d F.length → ¬ r ∈ rdk_ F d k F.length → gi_ m 86 r = -1
theorem settle_ {W : List (Nat × Nat × Nat)} {P : pl_} {F : List fa_} {T : Nat} {C : List (Nat × Nat × Nat)} (hk : kok_ W P F T C) {d : Nat} (hd : d < 100) {k : Int32} {m : fm_} (h : off_ W P F T C (rdk_ F d k F.length) P.length m) : ∃ m1, f_X6_settle (nI d) m = some (0, m1) ∧ chs_ W P F C d k m1 ∧ (∀ e, ¬ e = d → gi_ m1 85 e = gi_ m 85 e) ∧ ∀ r : Nat, ¬ r ∈ rdn_ F d F.length → gi_ m1 86 r = gi_ m 86 r := by
  obtain ⟨hW, hP, hF, hC, hRk⟩ := id hk
  have hR := rds_rdk hRk d k
  have h7 := hRk.2 d
  have hFl := hF.1
  have sub : ∀ r, r ∈ rdk_ F d k F.length → r ∈ rdn_ F d F.length := fun r hr => (List.mem_filter.mp hr).1
  have inj : ∀ (i j r : Nat), (rdk_ F d k F.length)[i]? = some r → (rdk_ F d k F.length)[j]? = some r → i = j := fun i j r => rdk_inj
  have lt2 : ∀ r, r ∈ rdn_ F d F.length → r < 200 := fun r hr => by have := (rdn_u _ _ hr).1; omega
  unfold chs_ knd_
  generalize rdk_ F d k F.length = R at h hR sub inj
  have hl7 := hR.1
  have h128 := pw7 hl7
  have hpos := Nat.two_pow_pos R.length
  obtain ⟨h1, h2, h3, Wt, h4, h5⟩ := h
  have hB := deal_ hP hl7 h5
  obtain ⟨kq, _⟩ := kn_ok (pr := prr_ F P R) (tg := tgg_ W F C R) hP hl7
  generalize kn_ P.length (prr_ F P R) (tgg_ W F C R) R.length = K at hB kq
  have g90 := h4 (2 ^ R.length - 1) (by omega)
  rw [hB] at g90
  have c4 := cst_4 (W := W) (C := C) R.length kq.2
  have n7 := nv_7 hP hl7 fun j hj => (kq.2 j hj).1
  have eK := kq.1
  unfold wt_ at g90
  rw [← eK] at g90 c4
  have d1 : (K.1 * 19487171 + nv_ P.length K.2 R.length) / 19487171 = K.1 := by omega
  have d2 : K.1 * 19487171 + nv_ P.length K.2 R.length - K.1 * 19487171 = nv_ P.length K.2 R.length := by omega
  have sh : nI 1 <<< (nI R.length &&& nI 31) = nI (2 ^ R.length) := ns_shl (by omega)
  obtain ⟨m1, e1, w1, r1, c1, o1, n1⟩ := lp0_ (n := (rdn_ F d F.length).length) (F := fun i m => f_X6_settle_32 (nI d) (nI (K.1 * 19487171 + nv_ P.length K.2 R.length)) (nI (nv_ P.length K.2 R.length)) (nI i) m) (I := fun i m' => kwc_ W P F T C m' ∧ rowc_ R m' ∧ (∀ e, gi_ m' 85 e = gi_ (si_ m 85 d (nI K.1)) 85 e) ∧ (∀ r : Nat, ¬ r ∈ rdn_ F d F.length → gi_ m' 86 r = gi_ m 86 r) ∧ ∀ j r : Nat, j < i → (rdn_ F d F.length)[j]? = some r → gi_ m' 86 r = -1) (fun i m0 hi hI => by
    obtain ⟨i1, i2, i3, i4, i5⟩ := hI
    have er := List.getElem?_eq_getElem hi
    generalize (rdn_ F d F.length)[i] = r at er
    have hr := List.mem_of_getElem? er
    have r2 := lt2 r hr
    have rn := ron_ i1.2.2.1 hd
    have ro := ro1_ i1.2.2.1 hd h7 er
    show ∃ s', f_X6_settle_32 (nI d) (nI (K.1 * 19487171 + nv_ P.length K.2 R.length)) (nI (nv_ P.length K.2 R.length)) (nI i) m0 = f_X6_settle_32 (nI d) (nI (K.1 * 19487171 + nv_ P.length K.2 R.length)) (nI (nv_ P.length K.2 R.length)) (nI (i + 1)) s' ∧ _
    rw [e_X6_settle_32]
    simp (disch := omega) only [↓reduceIte, ↓ns_m1, ns_let, ns_lef, ns_ltt, ns_ltf, ns_eqt, ns_eqf, ns_gd, nI_clamp, nI_add, pk_sub, pk_mul, ns_m1a, ns_m1b, ns_m1c, ns_m1d, ns_m1e, ns_m1f, ns_m1g, ns_un1, ns_un0, ns_day1, Option.bind_some, gi_si_self, gi_si_ne, gl_si, gi_sl, gl_sl_self, gl_sl_ne, if_true, if_false, ns_i0, ns_i1, ns_i2, ns_i3, ns_i4, ns_i5, ns_i6, ns_i7, ns_i8, ns_i9, ns_i10, ns_i11, ns_i12, ns_i13, ns_i20, ns_i23, ns_i24, ns_i31, ns_i50, ns_i60, ns_i99, ns_i100, ns_i144, ns_i200, ns_i255, ns_i700, ns_i880, ns_i899, ns_i900, ns_i901, ns_i999, ns_i1000, ns_i1440, ns_i4095, ns_i1000000, rn, ro]
    refine ⟨_, rfl, kwc_ag i1 (sa_ag (w := [(86, 86, 0)]) (by rfl) (sa_si (by rfl) sa_rf)), ⟨(gi_si_ne (by omega)).trans i2.1, fun j r hj => (gi_si_ne (by omega)).trans (i2.2 j r hj)⟩, fun e => (gi_si_ne (by omega)).trans (i3 e), fun u hu => ?_, fun j u hj hu => ?_⟩
    · rw [gi_si_ne]
      · exact i4 u hu
      · intro q
        exact hu (by rw [q.2]; exact hr)
    · rw [gi_si]
      by_cases c : u = r
      · rw [if_pos ⟨rfl, c⟩]
      · rw [if_neg fun q => c q.2]
        by_cases c2 : j = i
        · rw [c2, er] at hu; cases hu; exact absurd rfl c
        · exact i5 j u (by omega) hu) (s := si_ m 85 d (nI K.1)) ⟨kwc_ag h1 (sa_ag (w := [(85, 85, 0)]) (by rfl) (sa_si (by rfl) sa_rf)), ⟨(gi_si_ne (by omega)).trans h2.1, fun j r hj => (gi_si_ne (by omega)).trans (h2.2 j r hj)⟩, fun e => rfl, fun r _ => gi_si_ne (by omega), fun j r hj => absurd hj (Nat.not_lt_zero _)⟩
  have e1 : f_X6_settle_32 (nI d) (nI (K.1 * 19487171 + nv_ P.length K.2 R.length)) (nI (nv_ P.length K.2 R.length)) (nI 0) (si_ m 85 d (nI K.1)) = f_X6_settle_32 (nI d) (nI (K.1 * 19487171 + nv_ P.length K.2 R.length)) (nI (nv_ P.length K.2 R.length)) (nI (rdn_ F d F.length).length) m1 := e1
  obtain ⟨m2, e2, o2, n2, f75⟩ := set75_ hP hl7 (fun r hr => lt2 r (sub r hr)) inj (a := K.2) (fun j hj => (kq.2 j hj).1) (x1 := nI d) (x2 := nI (K.1 * 19487171 + nv_ P.length K.2 R.length)) R.length m1 (Nat.le_refl _) r1
  have e3 : f_X6_settle (nI d) m = some (0, m2) := by
    unfold f_X6_settle
    simp (disch := omega) only [↓reduceIte, ↓ns_m1, ns_let, ns_lef, ns_ltt, ns_ltf, ns_eqt, ns_eqf, ns_gd, nI_clamp, nI_add, pk_sub, pk_mul, ns_m1a, ns_m1b, ns_m1c, ns_m1d, ns_m1e, ns_m1f, ns_m1g, ns_un1, ns_un0, ns_day1, Option.bind_some, gi_si_self, gi_si_ne, gl_si, gi_sl, gl_sl_self, gl_sl_ne, if_true, if_false, ns_i0, ns_i1, ns_i2, ns_i3, ns_i4, ns_i5, ns_i6, ns_i7, ns_i8, ns_i9, ns_i10, ns_i11, ns_i12, ns_i13, ns_i20, ns_i23, ns_i24, ns_i31, ns_i50, ns_i60, ns_i99, ns_i100, ns_i144, ns_i200, ns_i255, ns_i700, ns_i880, ns_i899, ns_i900, ns_i901, ns_i999, ns_i1000, ns_i1440, ns_i4095, ns_i1000000, h2.1, sh, g90, ns_iPW, pk_div, d1, d2, e1]
    rw [e_X6_settle_32]
    simp (disch := omega) only [↓reduceIte, ↓ns_m1, ns_let, ns_lef, ns_ltt, ns_ltf, ns_eqt, ns_eqf, ns_gd, nI_clamp, nI_add, pk_sub, pk_mul, ns_m1a, ns_m1b, ns_m1c, ns_m1d, ns_m1e, ns_m1f, ns_m1g, ns_un1, ns_un0, ns_day1, Option.bind_some, gi_si_self, gi_si_ne, gl_si, gi_sl, gl_sl_self, gl_sl_ne, if_true, if_false, ns_i0, ns_i1, ns_i2, ns_i3, ns_i4, ns_i5, ns_i6, ns_i7, ns_i8, ns_i9, ns_i10, ns_i11, ns_i12, ns_i13, ns_i20, ns_i23, ns_i24, ns_i31, ns_i50, ns_i60, ns_i99, ns_i100, ns_i144, ns_i200, ns_i255, ns_i700, ns_i880, ns_i899, ns_i900, ns_i901, ns_i999, ns_i1000, ns_i1440, ns_i4095, ns_i1000000, ron_ w1.2.2.1 hd, r1.1]
    rw [idx_s (by omega), e2]
    rfl
  refine ⟨m2, e3, ⟨?_, fun j r hj => o2 j r (List.getElem?_eq_some_iff.mp hj).1 hj, fun r hr hn => ?_⟩, fun e he => ?_, fun r hr => ?_⟩
  · rw [f75, c1, gi_si_self]
  · rw [n2 r fun j hj q => hn (List.mem_of_getElem? q)]
    obtain ⟨j, hj⟩ := List.getElem?_of_mem hr
    exact n1 j r (List.getElem?_eq_some_iff.mp hj).1 hj
  · rw [f75, c1, gi_si_ne (by omega)]
  · rw [n2 r fun j hj q => hr (sub r (List.mem_of_getElem? q)), o1 r hr]
/-- the cache: days whose stamp is the newest are chosen -/
def cch_ (W : List (Nat × Nat × Nat)) (P : pl_) (F : List fa_) (C : List (Nat × Nat × Nat)) (st : Nat) (m : fm_) : Prop := gi_ m 82 3 = nI st ∧ ∀ d, d < 100 → ∃ sd, gi_ m 83 d = nI sd ∧ sd ≤ st ∧ (sd = st → chs_ W P F C d (gi_ m 84 d) m)
theorem chs_cg {W : List (Nat × Nat × Nat)} {P : pl_} {F : List fa_} {C : List (Nat × Nat × Nat)} {d : Nat} {k : Int32} {m m1 : fm_} (h : chs_ W P F C d k m) (h1 : gi_ m1 85 d = gi_ m 85 d) (h2 : ∀ r, r ∈ rdn_ F d F.length → gi_ m1 86 r = gi_ m 86 r) : chs_ W P F C d k m1 :=
  ⟨h1.trans h.1, fun j r hj => (h2 r (List.mem_filter.mp (List.mem_of_getElem? hj)).1).trans (h.2.1 j r hj), fun r hr hn => (h2 r hr).trans (h.2.2 r hr hn)⟩
theorem rdn_dj {F : List fa_} {d e n r : Nat} (h1 : r ∈ rdn_ F d n) (h2 : r ∈ rdn_ F e n) : d = e := by
  obtain ⟨q, a1, _, a3⟩ := isrd_u (rdn_u _ _ h1).2
  obtain ⟨u, b1, _, b3⟩ := isrd_u (rdn_u _ _ h2).2
  rw [a1] at b1
  cases b1
  rw [← a3, ← b3]
theorem choose_c {W : List (Nat × Nat × Nat)} {P : pl_} {F : List fa_} {T : Nat} {C : List (Nat × Nat × Nat)} (hk : kok_ W P F T C) {st : Nat} (hst : st < 2 ^ 20) {m : fm_} (hm : kwc_ W P F T C m) (hc : cch_ W P F C st m) {d : Nat} (hd : d < 100) (k : Int32) : ∃ m1, f_X6_choose (nI d) k m = some (0, m1) ∧ kwc_ W P F T C m1 ∧ cch_ W P F C st m1 ∧ chs_ W P F C d k m1 := by
  obtain ⟨hW, hP, hF, hC, hRk⟩ := id hk
  have hPl := hm.1.2.2.1
  obtain ⟨c1, c2⟩ := hc
  obtain ⟨sd, s1, s2, s3⟩ := c2 d hd
  -- the choice made anew
  have anew : ∃ m1 q1 q2 q3, f_X6_gather (nI d) k (si_ (si_ m 83 d (nI st)) 84 d k) = some (0, q1) ∧ f_X6_markSetsByOne q1 = some (0, q2) ∧ f_X6_giveAllToNobody q2 = some (0, q3) ∧ f_X6_choose_64 (nI d) k (nI 0) q3 = some (0, m1) ∧ kwc_ W P F T C m1 ∧ cch_ W P F C st m1 ∧ chs_ W P F C d k m1 := by
    have sA : sa_ [(83, 83, 0), (84, 84, 0)] m (si_ (si_ m 83 d (nI st)) 84 d k) := sa_si (by rfl) (sa_si (by rfl) sa_rf)
    have w0 : kwc_ W P F T C (si_ (si_ m 83 d (nI st)) 84 d k) := kwc_ag hm (sa_ag (by rfl) sA)
    obtain ⟨q1, e1, w1, r1⟩ := gath_ hk w0 hd k
    have hR := rds_rdk hRk d k
    have f1 := fr_X6_gather e1
    obtain ⟨q2, e2, b2⟩ := mark_ hk w1 hR r1
    have f2 := fr_X6_markSetsByOne e2
    have w2 : kwc_ W P F T C q2 := kwc_ag w1 (sa_ag (by rfl) f2)
    have r2 : rowc_ (rdk_ F d k F.length) q2 := ⟨(sa_gi f2 (by rfl)).trans r1.1, fun j r hj => (sa_gi f2 (by rfl)).trans (r1.2 j r hj)⟩
    obtain ⟨q3, e3, n3⟩ := nob_ (pr := prr_ F P (rdk_ F d k F.length)) hP hR.1 r2.1
    have f3 := fr_X6_giveAllToNobody e3
    have o3 : off_ W P F T C (rdk_ F d k F.length) 0 q3 := ⟨kwc_ag w2 (sa_ag (by rfl) f3), ⟨(sa_gi f3 (by rfl)).trans r2.1, fun j r hj => (sa_gi f3 (by rfl)).trans (r2.2 j r hj)⟩, fun t ht => by
      obtain ⟨b, g1, g2⟩ := b2 t ht
      exact ⟨b, (sa_gi f3 (by rfl)).trans g1, g2⟩, _, n3, dok_0⟩
    obtain ⟨q4, e4, o4, f4⟩ := lp0_ (n := P.length) (F := fun p m => f_X6_choose_64 (nI d) k (nI p) m) (I := fun p m' => off_ W P F T C (rdk_ F d k F.length) p m' ∧ sa_ [(88, 88, 0), (90, 90, 0), (91, 91, 0)] q3 m') (fun p m0 hp hI => by
      obtain ⟨m1, e1, h1⟩ := offer1_ hk hR hp hI.1
      refine ⟨m1, ?_, h1, sa_t hI.2 (fr_X6_offer e1)⟩
      show f_X6_choose_64 (nI d) k (nI p) m0 = f_X6_choose_64 (nI d) k (nI (p + 1)) m1
      rw [e_X6_choose_64]
      have := hI.1.1.1.2.2.1
      simp (disch := omega) only [↓reduceIte, ↓ns_m1, ns_let, ns_lef, ns_ltt, ns_ltf, ns_eqt, ns_eqf, ns_gd, nI_clamp, nI_add, pk_sub, pk_mul, ns_m1a, ns_m1b, ns_m1c, ns_m1d, ns_m1e, ns_m1f, ns_m1g, ns_un1, ns_un0, ns_day1, Option.bind_some, gi_si_self, gi_si_ne, gl_si, gi_sl, gl_sl_self, gl_sl_ne, if_true, if_false, ns_i0, ns_i1, ns_i2, ns_i3, ns_i4, ns_i5, ns_i6, ns_i7, ns_i8, ns_i9, ns_i10, ns_i11, ns_i12, ns_i13, ns_i20, ns_i23, ns_i24, ns_i31, ns_i50, ns_i60, ns_i99, ns_i100, ns_i144, ns_i200, ns_i255, ns_i700, ns_i880, ns_i899, ns_i900, ns_i901, ns_i999, ns_i1000, ns_i1440, ns_i4095, ns_i1000000, this, e1]) (s := q3) ⟨o3, sa_rf⟩
    have e4 : f_X6_choose_64 (nI d) k (nI 0) q3 = f_X6_choose_64 (nI d) k (nI P.length) q4 := e4
    obtain ⟨q5, e5, h5, p5, o5⟩ := settle_ hk hd o4
    have f5 := fr_X6_settle e5
    have e6 : f_X6_choose_64 (nI d) k (nI 0) q3 = some (0, q5) := by
      rw [e4, e_X6_choose_64]
      have := o4.1.1.2.2.1
      simp (disch := omega) only [↓reduceIte, ↓ns_m1, ns_let, ns_lef, ns_ltt, ns_ltf, ns_eqt, ns_eqf, ns_gd, nI_clamp, nI_add, pk_sub, pk_mul, ns_m1a, ns_m1b, ns_m1c, ns_m1d, ns_m1e, ns_m1f, ns_m1g, ns_un1, ns_un0, ns_day1, Option.bind_some, gi_si_self, gi_si_ne, gl_si, gi_sl, gl_sl_self, gl_sl_ne, if_true, if_false, ns_i0, ns_i1, ns_i2, ns_i3, ns_i4, ns_i5, ns_i6, ns_i7, ns_i8, ns_i9, ns_i10, ns_i11, ns_i12, ns_i13, ns_i20, ns_i23, ns_i24, ns_i31, ns_i50, ns_i60, ns_i99, ns_i100, ns_i144, ns_i200, ns_i255, ns_i700, ns_i880, ns_i899, ns_i900, ns_i901, ns_i999, ns_i1000, ns_i1440, ns_i4095, ns_i1000000, this, e5]
    -- what stays, from m on
    have st1 : sa_ [(82, 82, 10), (87, 91, 0)] (si_ (si_ m 83 d (nI st)) 84 d k) q4 := sa_t (sa_t (sa_t (sa_up (by rfl) f1) (sa_up (by rfl) f2)) (sa_up (by rfl) f3)) (sa_up (by rfl) f4)
    refine ⟨q5, q1, q2, q3, e1, e2, e3, e6, kwc_ag o4.1 (sa_ag (by rfl) f5), ⟨?_, fun e he => ?_⟩, h5⟩
    · rw [sa_gi f5 (by rfl), sa_gi st1 (by rfl), gi_si_ne (by omega), gi_si_ne (by omega)]
      exact c1
    · by_cases ed : e = d
      · subst ed
        refine ⟨st, ?_, Nat.le_refl _, fun _ => ?_⟩
        · rw [sa_gi f5 (by rfl), sa_gi st1 (by rfl), gi_si_ne (by omega), gi_si_self]
        · have e84 : gi_ q5 84 e = k := by rw [sa_gi f5 (by rfl), sa_gi st1 (by rfl), gi_si_self]
          rw [e84]
          exact h5
      · obtain ⟨se, t1, t2, t3⟩ := c2 e he
        refine ⟨se, ?_, t2, fun q => ?_⟩
        · rw [sa_gi f5 (by rfl), sa_gi st1 (by rfl), gi_si_ne (by omega), gi_si_ne (by omega)]
          exact t1
        · have e84 : gi_ q5 84 e = gi_ m 84 e := by rw [sa_gi f5 (by rfl), sa_gi st1 (by rfl), gi_si_ne (by omega), gi_si_ne (by omega)]
          rw [e84]
          refine chs_cg (t3 q) ?_ fun r hr => ?_
          · rw [p5 e ed, sa_gi st1 (by rfl), gi_si_ne (by omega), gi_si_ne (by omega)]
          · rw [o5 r fun x => ed (rdn_dj hr x), sa_gi st1 (by rfl), gi_si_ne (by omega), gi_si_ne (by omega)]
  unfold f_X6_choose
  by_cases cs : sd = st
  · by_cases ck : gi_ m 84 d = k
    · refine ⟨m, ?_, hm, ⟨c1, c2⟩, ?_⟩
      · simp (disch := omega) only [↓reduceIte, ↓ns_m1, ns_let, ns_lef, ns_ltt, ns_ltf, ns_eqt, ns_eqf, ns_gd, nI_clamp, nI_add, pk_sub, pk_mul, ns_m1a, ns_m1b, ns_m1c, ns_m1d, ns_m1e, ns_m1f, ns_m1g, ns_un1, ns_un0, ns_day1, Option.bind_some, gi_si_self, gi_si_ne, gl_si, gi_sl, gl_sl_self, gl_sl_ne, if_true, if_false, ns_i0, ns_i1, ns_i2, ns_i3, ns_i4, ns_i5, ns_i6, ns_i7, ns_i8, ns_i9, ns_i10, ns_i11, ns_i12, ns_i13, ns_i20, ns_i23, ns_i24, ns_i31, ns_i50, ns_i60, ns_i99, ns_i100, ns_i144, ns_i200, ns_i255, ns_i700, ns_i880, ns_i899, ns_i900, ns_i901, ns_i999, ns_i1000, ns_i1440, ns_i4095, ns_i1000000, c1, s1, cs, ck]
      · have := s3 cs
        rw [ck] at this
        exact this
    · obtain ⟨m1, q1, q2, q3, e1, e2, e3, e4, h1, h2, h3⟩ := anew
      refine ⟨m1, ?_, h1, h2, h3⟩
      simp (disch := omega) only [↓reduceIte, ↓ns_m1, ns_let, ns_lef, ns_ltt, ns_ltf, ns_eqt, ns_eqf, ns_gd, nI_clamp, nI_add, pk_sub, pk_mul, ns_m1a, ns_m1b, ns_m1c, ns_m1d, ns_m1e, ns_m1f, ns_m1g, ns_un1, ns_un0, ns_day1, Option.bind_some, gi_si_self, gi_si_ne, gl_si, gi_sl, gl_sl_self, gl_sl_ne, if_true, if_false, ns_i0, ns_i1, ns_i2, ns_i3, ns_i4, ns_i5, ns_i6, ns_i7, ns_i8, ns_i9, ns_i10, ns_i11, ns_i12, ns_i13, ns_i20, ns_i23, ns_i24, ns_i31, ns_i50, ns_i60, ns_i99, ns_i100, ns_i144, ns_i200, ns_i255, ns_i700, ns_i880, ns_i899, ns_i900, ns_i901, ns_i999, ns_i1000, ns_i1440, ns_i4095, ns_i1000000, c1, s1, cs, ck, e1, e2, e3, e4]
  · obtain ⟨m1, q1, q2, q3, e1, e2, e3, e4, h1, h2, h3⟩ := anew
    refine ⟨m1, ?_, h1, h2, h3⟩
    simp (disch := omega) only [↓reduceIte, ↓ns_m1, ns_let, ns_lef, ns_ltt, ns_ltf, ns_eqt, ns_eqf, ns_gd, nI_clamp, nI_add, pk_sub, pk_mul, ns_m1a, ns_m1b, ns_m1c, ns_m1d, ns_m1e, ns_m1f, ns_m1g, ns_un1, ns_un0, ns_day1, Option.bind_some, gi_si_self, gi_si_ne, gl_si, gi_sl, gl_sl_self, gl_sl_ne, if_true, if_false, ns_i0, ns_i1, ns_i2, ns_i3, ns_i4, ns_i5, ns_i6, ns_i7, ns_i8, ns_i9, ns_i10, ns_i11, ns_i12, ns_i13, ns_i20, ns_i23, ns_i24, ns_i31, ns_i50, ns_i60, ns_i99, ns_i100, ns_i144, ns_i200, ns_i255, ns_i700, ns_i880, ns_i899, ns_i900, ns_i901, ns_i999, ns_i1000, ns_i1440, ns_i4095, ns_i1000000, c1, s1, e1, e2, e3, e4]
