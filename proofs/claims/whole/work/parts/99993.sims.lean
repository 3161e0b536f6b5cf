/-! ===== one call: map, orders ===== -/
theorem fin_J {k : Nat} {m : fm_} {L : List Nat} {a b : Int32} {W : List (Nat × Nat × Nat)} {z : Nat} {C : List (Nat × Nat × Nat)} {cp : Nat} {O : List od_} {P : pl_} {F : List fa_} {T st : Nat} {TR : tp_} {A : air_} {n : Nat} (h1 : OB_ W z C cp O P F T TR A) (h2 : st ≤ k + 1) (h3 : CB_ L a b W z C cp O P F T st TR A n m) (h4 : MB_ L a b W z C cp O P F T TR A n m) : J_ k m := ⟨L, a, b, W, z, C, cp, O, P, F, T, st, TR, A, n, h1, h2, h3, h4⟩
theorem sim_map : sm_ J_ f_X11_map f_X12_map := sm_i fun k L a b W z C cp O P F T st TR A n m hk ho hst hc hm => by
  obtain ⟨ts, t1, t2, t3, hcase⟩ := map_c hc.1 ho.1.2.2.1 hc.2.2.1.1.2.1 hc.2.2.1.2.2.2.1
  have hL := hc.1.1
  have hb := hc.1.2.1
  have hO6 := ho.2.2.2.2.1.1.1
  rcases hcase with ⟨f, m1, a1, a2, a3, a4, a5⟩ | ⟨w, r, m1, a1, a2, a3, a4, a5, a6, a7, a8, a9, a10, a11, a12, a13⟩
  · have s1 := fr_X11_map a2
    have hm1 := MB_hi hm (sa_ag (by decide) s1)
    rcases map_m hL hb t1 t2 t3 hm1.1 ho.1.2.2.1 hm1.2.2.1.1.2.1 with ⟨f2, m2, b1, b2, b3, b4, b5⟩ | ⟨w2, r2, m2, b1, b2, _⟩
    · rw [a1] at b1
      injection b1 with b1
      subst b1
      have s2 := fr_X12_map b2
      refine ⟨_, m1, m2, a2, b2, fin_J (L := []) (a := nI f.1) (b := nI f.2) (st := st) (n := n) ho (by omega) (CB_lo hO6 (m := m1) ?_ (sa_ag (by decide) s2)) ?_⟩
      · obtain ⟨h1, h2, h3, h4, h5, h6⟩ := hc
        exact ⟨a4, a3, kc8_ag hO6 h3 (sa_ag (by decide) a5), twr_ag h4 (sa_ag (by decide) a5), trc_ag h5 (sa_ag (by decide) a5), rc_g h6 (sa_ag (by decide) a5)⟩
      · obtain ⟨h1, h2, h3, h4, h5, h6⟩ := hm1
        exact ⟨⟨b4, fun j x hj => (by cases hj)⟩, ⟨b3.1, b3.2.1⟩, km9_ag h3 (sa_ag (by decide) b5), twq_ag h4 (sa_ag (by decide) b5), trm_ag h5 (sa_ag (by decide) b5), rm_g h6 (sa_ag (by decide) b5)⟩
    · rw [a1] at b1
      cases b1
  · have s1 := fr_X11_map a2
    have hm1 := MB_hi hm (sa_ag (by decide) s1)
    rcases map_m hL hb t1 t2 t3 hm1.1 ho.1.2.2.1 hm1.2.2.1.1.2.1 with ⟨f2, m2, b1, b2, _⟩ | ⟨w2, r2, m2, b1, b2, b3, b4, b5, b6, b7, b8, b9, b10, b11, b12, b13⟩
    · rw [a1] at b1
      cases b1
    · rw [a1] at b1
      injection b1 with b1
      injection b1 with b1 b1'
      subst b1
      subst b1'
      have s2 := fr_X12_map b2
      have hkd := kok_drp ho.1 a4.1 a4.2.2.1
      have hob : OB_ w.1 w.2.1 w.2.2.1 w.2.2.2 O P (F.map drp_) T [] A := ⟨hkd.1, hkd.2, a4.2.1, a4.2.2.2, ho.2.2.2.2.1, ⟨by show 0 ≤ 20; omega, fun q hq => (by cases hq)⟩, ho.2.2.2.2.2.2⟩
      refine ⟨_, m1, m2, a2, b2, fin_J (L := []) (a := nI 0) (b := -1) (st := st + 1) (n := n) hob (by omega) (CB_lo hO6 (m := m1) ?_ (sa_ag (by decide) s2)) ?_⟩
      · obtain ⟨h1, h2, h3, h4, h5, h6⟩ := hc
        refine ⟨a13, ⟨a10, a11⟩, ⟨⟨pc_ag h3.1.1 (sa_ag (by decide) s1), a7, a8, ⟨a5.2.2.2.1, a5.2.2.2.2.1⟩, a6.2.1⟩, a5.2.2.1, loc_ag hO6 h3.2.2.1 (sa_ag (by decide) s1), cch_new h3.2.2.2 a9 (fun d => sa_gi s1 (by rfl))⟩, ⟨⟨⟨a5.1, a5.2.1⟩, a6.1⟩, a6.2.2.1, a6.2.2.2.1, a6.2.2.2.2, a5.2.2.2.2.2⟩, ⟨a12, fun j q hj => (by cases hj)⟩, rc_g h6 (sa_ag (by decide) s1)⟩
      · obtain ⟨h1, h2, h3, h4, h5, h6⟩ := hm1
        exact ⟨⟨b13, fun j x hj => (by cases hj)⟩, ⟨b10, b11⟩, ⟨⟨pm_ag h3.1.1 (sa_ag (by decide) s2), b9, b5, b8.1⟩, b6, lom_ag h3.2.2 (sa_ag (by decide) s2)⟩, ⟨b4, b8.2, b7⟩, ⟨b12, fun j q hj => (by cases hj)⟩, rm_g h6 (sa_ag (by decide) s2)⟩
theorem sim_orders (x : Int32) : sm_ J_ (f_X11_orders x) (f_X12_orders x) := sm_i fun k L a b W z C cp O P F T st TR A n m hk ho hst hc hm => by
  have hL := hc.1.1
  have hb := hc.1.2.1
  have hO := ho.2.2.2.2.1
  have hO6 := hO.1.1
  by_cases cr : 700 < L.length ∨ nat_ x 100 = none ∨ O.length = 6
  · have e1 := ord_0c hc.1 hO6 hc.2.2.1.2.2.1 cr
    have e2 := ord_0m hL hm.1 hO6 hm.2.2.1.2.2 cr
    exact ⟨_, m, m, e1, e2, fin_J ho (by omega) hc hm⟩
  · have c7 : L.length ≤ 700 := by
      by_cases q : 700 < L.length
      · exact absurd (Or.inl q) cr
      · omega
    have c6 : O.length < 6 := by
      by_cases q : O.length = 6
      · exact absurd (Or.inr (Or.inr q)) cr
      · omega
    have hx : ∃ dy, dy < 100 ∧ x = nI dy := by
      rcases nat_ix x (n := 100) (by omega) with ⟨e, _⟩ | ⟨i, hi, e, _⟩
      · exact absurd (Or.inr (Or.inl e)) cr
      · exact ⟨i, hi, e⟩
    obtain ⟨dy, hdy, rfl⟩ := hx
    obtain ⟨ts, t1, t2, t3, hcase⟩ := ord_c hc.1 hO hc.2.2.1.2.2.1 hdy c7 c6
    rcases hcase with ⟨f, m1, a1, a2, a3, a4, a5⟩ | ⟨d, m1, a1, a2, a3, a4, a5, a6, a7⟩
    · have s1 := fr_X11_orders a2
      have hm1 := MB_hi hm (sa_ag (by decide) s1)
      rcases ord_m c7 hb t1 t2 t3 hm1.1 hO hm1.2.2.1.2.2 hdy c6 with ⟨f2, m2, b1, b2, b3, b4, b5⟩ | ⟨d2, m2, b1, _⟩
      · rw [a1] at b1
        injection b1 with b1
        subst b1
        have s2 := fr_X12_orders b2
        refine ⟨_, m1, m2, a2, b2, fin_J (L := []) (a := nI f.1) (b := nI f.2) (st := st) (n := n) ho (by omega) (CB_lo hO6 (m := m1) ?_ (sa_ag (by decide) s2)) ?_⟩
        · obtain ⟨h1, h2, h3, h4, h5, h6⟩ := hc
          exact ⟨a4, a3, ⟨kwc_ag h3.1 (sa_ag (by decide) s1), (sa_gi s1 (by rfl)).trans h3.2.1, a5, cch_ag h3.2.2.2 (sa_ag (by decide) s1)⟩, twr_ag h4 (sa_ag (by decide) s1), trc_ag h5 (sa_ag (by decide) s1), rc_g h6 (sa_ag (by decide) s1)⟩
        · obtain ⟨h1, h2, h3, h4, h5, h6⟩ := hm1
          exact ⟨⟨b4, fun j x hj => (by cases hj)⟩, ⟨b3.1, b3.2.1⟩, ⟨kwm_ag h3.1 (sa_ag (by decide) s2), (sa_gi s2 (by rfl)).trans h3.2.1, b5⟩, twq_ag h4 (sa_ag (by decide) s2), trm_ag h5 (sa_ag (by decide) s2), rm_g h6 (sa_ag (by decide) s2)⟩
      · rw [a1] at b1
        cases b1
    · have s1 := fr_X11_orders a2
      have hm1 := MB_hi hm (sa_ag (by decide) s1)
      rcases ord_m c7 hb t1 t2 t3 hm1.1 hO hm1.2.2.1.2.2 hdy c6 with ⟨f2, m2, b1, b2, _⟩ | ⟨d2, m2, b1, b2, b3, b4, b5, b6⟩
      · rw [a1] at b1
        cases b1
      · rw [a1] at b1
        injection b1 with b1
        subst b1
        have s2 := fr_X12_orders b2
        have hob : OB_ W z C cp (O ++ [d]) P F T TR A := ⟨ho.1, ho.2.1, ho.2.2.1, ho.2.2.2.1, a7, ho.2.2.2.2.2⟩
        refine ⟨_, m1, m2, a2, b2, fin_J (L := []) (a := nI 0) (b := -1) (st := st) (n := n) hob (by omega) (CB_lo a7.1.1 (m := m1) ?_ (sa_ag (by decide) s2)) ?_⟩
        · obtain ⟨h1, h2, h3, h4, h5, h6⟩ := hc
          exact ⟨a5, ⟨a3, a4⟩, ⟨kwc_ag h3.1 (sa_ag (by decide) s1), (sa_gi s1 (by rfl)).trans h3.2.1, a6, cch_ag h3.2.2.2 (sa_ag (by decide) s1)⟩, twr_ag h4 (sa_ag (by decide) s1), trc_ag h5 (sa_ag (by decide) s1), rc_g h6 (sa_ag (by decide) s1)⟩
        · obtain ⟨h1, h2, h3, h4, h5, h6⟩ := hm1
          exact ⟨⟨b5, fun j x hj => (by cases hj)⟩, ⟨b3, b4⟩, ⟨kwm_ag h3.1 (sa_ag (by decide) s2), (sa_gi s2 (by rfl)).trans h3.2.1, b6⟩, twq_ag h4 (sa_ag (by decide) s2), trm_ag h5 (sa_ag (by decide) s2), rm_g h6 (sa_ag (by decide) s2)⟩
theorem lw_all {L : Nat} {xs : Nat → Int32} (hL : L ≤ 3584) {m : fm_} (h : J_ 0 m) : ∃ m', f_L_18 L xs 0 m = some (1, m') :=
  lw_loop J_up sim_feed sim_end sim_map sim_orders sim_fault sim_between sim_plate sim_papers sim_read sim_appeal sim_untell sim_later sim_like sim_whose sim_doubt sim_isDouble sim_inside sim_classOf sim_entries sim_charge sim_account sim_back sim_air sim_effect sim_doubtOf sim_trip sim_minutes sim_via sim_load sim_around sim_view sim_seen sim_about (xs := xs) hL 3584 0 m (by omega) (by omega) h
