/-! ===== map: the class ===== -/
def w0_ : tw_ := ([], 0, [], 0)
theorem twk_0 : twk_ w0_ := ⟨⟨by show 0 ≤ 24; omega, fun q hq => by cases hq⟩, by show 0 < 4096; omega, ⟨by show 0 ≤ 8; omega, fun q hq => by cases hq⟩, by show 0 < 4096; omega⟩
def wmf_ : List (Nat × Nat × Nat) := [(1, 1, 5), (1, 1, 6), (1, 1, 7), (1, 1, 8), (1, 1, 9), (3, 5, 0), (18, 18, 10), (18, 18, 4), (18, 18, 5), (18, 18, 9), (19, 24, 0)]
theorem rlines_c {t : Nat} (ht : 6 ≤ t) {ts : List tkn_} {m : fm_} (h : csn_ ts m) (hl : ts.length ≤ 901) : (∃ f m1, rls_ 901 w0_ ts 0 = .inl f ∧ f_X9_readLines t m = some (-1, m1) ∧ flc_ f m1) ∨ (∃ w k m1 r1, rls_ 901 w0_ ts 0 = .inr (w, k) ∧ f_X9_readLines t m = some (nI k, m1) ∧ csn_ r1 m1 ∧ twk_ w ∧ twc_ t w m1 ∧ k ≤ 900) := by
  refine rls_c ht 901 ts w0_ 0 (si_ (si_ (si_ (si_ m t 3 0) t 4 0) t 8 0) t 9 0) hl (by omega) (csn_si (csn_si (csn_si (csn_si h ht) ht) ht) ht) twk_0 ⟨?_, fun j q hj => ?_, ?_, ?_, fun j q hj => ?_, ?_⟩
  · rw [gi_si_ne (by omega), gi_si_ne (by omega), gi_si_ne (by omega), gi_si_self]; rfl
  · cases hj
  · rw [gi_si_ne (by omega), gi_si_ne (by omega), gi_si_self]; rfl
  · rw [gi_si_ne (by omega), gi_si_self]; rfl
  · cases hj
  · rw [gi_si_self]; rfl
theorem tkr_fr {w : List (Nat × Nat × Nat)} {ts : List tkn_} {m m1 : fm_} (h : tkr_ ts m) (hs : sa_ w m m1) (hd : dj_ [(1, 1, 6), (3, 3, 0), (4, 4, 0), (5, 5, 0)] w = true) : tkr_ ts m1 := by
  have hg := sa_ag hd hs
  exact ⟨(hg 1 5 (by rfl)).1.trans h.1, fun j t hj => ⟨(hg 3 j (by rfl)).1.trans (h.2 j t hj).1, (hg 4 j (by rfl)).1.trans (h.2 j t hj).2.1, (hg 5 j (by rfl)).1.trans (h.2 j t hj).2.2⟩⟩
theorem tc_bc9 {L : List Nat} {m : fm_} (h : tc_ L m) : bc9_ L m := ⟨h.1, h.2.2.1, fun j b hj => ⟨h.2.1 b (List.mem_of_getElem? hj), h.2.2.2 j b hj⟩⟩
theorem tc_0 {m : fm_} (h : gi_ m 1 4 = 0) : tc_ [] m := ⟨by show 0 ≤ 900; omega, fun x hx => (by cases hx), h, fun j x hj => (by cases hj)⟩
theorem map_c {L : List Nat} {m : fm_} (h : tc_ L m) {F : List fa_} {T : Nat} (hw : fw_ F T) (hf : fc_ F T m) {st : Nat} (hst : gi_ m 82 3 = nI st) : ∃ ts, Tk_ L ts 0 ∧ wts_ ts ∧ ts.length ≤ 901 ∧ ((∃ f m1, rls_ 901 w0_ ts 0 = .inl f ∧ f_X11_map m = some (-1, m1) ∧ flc_ f m1 ∧ tc_ [] m1 ∧ sa_ wmf_ m m1) ∨ (∃ w k m1, rls_ 901 w0_ ts 0 = .inr (w, k) ∧ f_X11_map m = some (nI k, m1) ∧ k ≤ 900 ∧ twk_ w ∧ twc_ 6 w m1 ∧ tabc_ w.1 w.2.1 m1 ∧ fc_ (F.map drp_) T m1 ∧ drc_ (F.map drp_) m1 ∧ gi_ m1 82 3 = nI (st + 1) ∧ gi_ m1 1 7 = nI 0 ∧ gi_ m1 1 8 = -1 ∧ gi_ m1 98 7 = nI 0 ∧ tc_ [] m1)) := by
  have hb := tc_bc9 h
  obtain ⟨m1, ts, e1, k1, k2, k3, k4, k5, k6⟩ := split_c hb
  have s1 := fr_X8_split e1
  have wt : wts_ ts := Tk_w hb.1 (fun j b hj => (hb.2.2 j b hj).1) ts 0 (by omega) k1
  refine ⟨ts, k1, wt, k3, ?_⟩
  have t1 : tkr_ ts (si_ m1 1 4 0) := tkr_fr (w := [(1, 1, 5)]) k2 (sa_si (by rfl) sa_rf) (by rfl)
  have n1 : csn_ ts (si_ m1 1 4 0) := ⟨⟨[], t1, by rw [gi_si_ne (by omega)]; exact k4, k3⟩, ⟨by rw [gi_si_ne (by omega)]; exact k5, by rw [gi_si_ne (by omega)]; exact k6⟩, wt⟩
  unfold f_X11_map
  rw [e1, Option.bind_some]
  rcases rlines_c (t := 18) (by omega) n1 k3 with ⟨f, m2, a1, a2, a3⟩ | ⟨w, k, m2, r2, a1, a2, a3, a4, a5, a6⟩
  · have s2 := fr_X9_readLines a2
    refine Or.inl ⟨f, m2, a1, ?_, a3, ?_, ?_⟩
    · simp only
      rw [a2, Option.bind_some, if_pos rfl]
    · refine tc_0 ?_
      have := sa_gi s2 (a := 1) (k := 4) (by rfl)
      rw [gi_si_self] at this
      exact this
    · exact sa_t (sa_up (by rfl) s1) (sa_t (sa_si (by rfl) sa_rf) (sa_up (by rfl) s2))
  · have s2 := fr_X9_readLines a2
    have t2 : tkr_ ts m2 := tkr_fr t1 s2 (by rfl)
    have s3 : sa_ [(1, 1, 7), (1, 1, 8), (1, 1, 9)] m2 (si_ (si_ (si_ m2 1 6 0) 1 7 0) 1 8 (-1)) := sa_si (by rfl) (sa_si (by rfl) (sa_si (by rfl) sa_rf))
    have t3 : tkr_ ts (si_ (si_ (si_ m2 1 6 0) 1 7 0) 1 8 (-1)) := tkr_fr t2 s3 (by rfl)
    have n3 : csn_ ts (si_ (si_ (si_ m2 1 6 0) 1 7 0) 1 8 (-1)) := by
      refine ⟨⟨[], t3, ?_, k3⟩, ⟨?_, gi_si_self⟩, wt⟩
      · rw [gi_si_ne (by omega), gi_si_ne (by omega), gi_si_self]; rfl
      · rw [gi_si_ne (by omega), gi_si_self]; rfl
    have er : f_X8_restart m2 = some (0, si_ (si_ (si_ m2 1 6 0) 1 7 0) 1 8 (-1)) := rfl
    generalize si_ (si_ (si_ m2 1 6 0) 1 7 0) 1 8 (-1) = m3 at s3 t3 n3 er
    rcases rlines_c (t := 6) (by omega) n3 k3 with ⟨f, m4, b1, b2, b3⟩ | ⟨w4, k4, m4, r4, b1, b2, b3, b4, b5, b6⟩
    · rw [a1] at b1; cases b1
    · rw [a1] at b1
      injection b1 with b1
      injection b1 with b7 b8
      subst b7
      subst b8
      have s4 := fr_X9_readLines b2
      obtain ⟨q1, q2, q3, q4, q5, q6⟩ := b5
      obtain ⟨m5, c1, c2⟩ := meas_c a4.1 a4.2.1 (m := m4) ⟨q1, q2⟩ q3
      have s5 := fr_X9_measure c1
      have g1 := sa_ag (d := fcd_) (by rfl) s1
      have g4 : fc_ F T m5 := by
        have x1 := fc_ag hf (sa_ag (by rfl) s1)
        have x2 : fc_ F T (si_ m1 1 4 0) := fc_ag x1 (sa_ag (w := [(1, 1, 5)]) (by rfl) (sa_si (by rfl) sa_rf))
        have x3 := fc_ag x2 (sa_ag (by rfl) s2)
        have x4 := fc_ag x3 (sa_ag (by rfl) s3)
        have x5 := fc_ag x4 (sa_ag (by rfl) s4)
        exact fc_ag x5 (sa_ag (by rfl) s5)
      obtain ⟨m6, d1, d2, d3⟩ := drop_c hw g4
      have s6 := fr_X1_dropReadings d1
      have e82 : gi_ m6 82 3 = nI st := by
        rw [sa_gi s6 (by rfl), sa_gi s5 (by rfl), sa_gi s4 (by rfl), sa_gi s3 (by rfl), sa_gi s2 (by rfl), gi_si_ne (by omega), sa_gi s1 (by rfl)]
        exact hst
      have ef : f_X6_forget m6 = some (0, si_ m6 82 3 (nI (st + 1))) := by
        unfold f_X6_forget
        rw [e82]
        show some (0, si_ m6 82 3 (nI st + nI 1)) = _
        rw [nI_add]
      have s7 : sa_ [(82, 82, 4), (98, 98, 8)] m6 (si_ (si_ m6 82 3 (nI (st + 1))) 98 7 (nI 0)) := sa_si (by rfl) (sa_si (by rfl) sa_rf)
      have s57 : sa_ [(73, 73, 0), (81, 81, 0), (82, 82, 4), (98, 98, 8)] m5 (si_ (si_ m6 82 3 (nI (st + 1))) 98 7 (nI 0)) := sa_t (sa_up (by rfl) s6) (sa_up (by rfl) s7)
      have s47 : sa_ [(13, 13, 0), (14, 14, 0), (15, 15, 0), (16, 16, 0), (17, 17, 0), (73, 73, 0), (81, 81, 0), (82, 82, 4), (98, 98, 8)] m4 (si_ (si_ m6 82 3 (nI (st + 1))) 98 7 (nI 0)) := sa_t (sa_up (by rfl) s5) (sa_up (by rfl) s57)
      refine Or.inr ⟨w, k, si_ (si_ m6 82 3 (nI (st + 1))) 98 7 (nI 0), a1, ?_, a6, a4, ⟨(sa_gi s47 (by rfl)).trans q1, fun j q hj => ?_, (sa_gi s47 (by rfl)).trans q3, (sa_gi s47 (by rfl)).trans q4, fun j q hj => ?_, (sa_gi s47 (by rfl)).trans q6⟩, ⟨ho_sa c2.1 s57 fun k => by rfl, tb_sa c2.2.1 s57 fun k => by rfl, tb_sa c2.2.2.1 s57 fun k => by rfl, tb_sa c2.2.2.2.1 s57 fun k => by rfl, tb_sa c2.2.2.2.2 s57 fun k => by rfl⟩, fc_ag d2 (sa_ag (by rfl) s7), ?_, ?_, ?_, ?_, gi_si_self, ?_⟩
      · dsimp only
        rw [a2, Option.bind_some, if_neg (show ¬ nI k = -1 from nm1_ (by omega)), er, Option.bind_some]
        dsimp only
        rw [b2, Option.bind_some]
        dsimp only
        rw [c1, Option.bind_some]
        dsimp only
        rw [d1, Option.bind_some]
        dsimp only
        rw [ef, Option.bind_some]
        rfl
      · exact ⟨(sa_gi s47 (by rfl)).trans (q2 j q hj).1, (sa_gi s47 (by rfl)).trans (q2 j q hj).2.1, (sa_gi s47 (by rfl)).trans (q2 j q hj).2.2⟩
      · exact ⟨(sa_gi s47 (by rfl)).trans (q5 j q hj).1, (sa_gi s47 (by rfl)).trans (q5 j q hj).2.1, (sa_gi s47 (by rfl)).trans (q5 j q hj).2.2⟩
      · intro d hd
        exact ⟨(sa_gi s7 (by rfl)).trans (d3 d hd).1, fun j r hj => (sa_gi s7 (by rfl)).trans ((d3 d hd).2 j r hj)⟩
      · rw [gi_si_ne (by omega), gi_si_self]
      · rw [sa_gi s47 (by rfl)]; exact b3.2.1.1
      · rw [sa_gi s47 (by rfl)]; exact b3.2.1.2
      · refine tc_0 ?_
        rw [sa_gi s47 (by rfl), sa_gi s4 (by rfl), sa_gi s3 (by rfl), sa_gi s2 (by rfl), gi_si_self]
