/-! ===== the reference: lines without an e ===== -/
theorem nsm_ {c : Bool} : (b01_ c = 0) ↔ c = false := by cases c <;> decide
theorem iss_n {α : Type} {c : Option α} : c.isSome = false ↔ c = none := by cases c <;> simp
theorem lgr_m {L : List Nat} {j : Nat} (hj : j < 6) {d : od_} (hk : ook_ d) {u b : Nat} {t : tkn_} {r : List tkn_} {m : fm_} (h : dtm_ L j d u b (t :: r) m) (ht : t.1 = 109) (hn : d.2.2.2.1 = none) : RR_ L j (lgr_ d u r) (f_X12_readOrder_301 (nI j) m) m := by
  obtain ⟨h1, ⟨o1, o2, o3, o4, o5, o6, o7, o8⟩, h3, h4, h5, h7, h8⟩ := h
  rw [List.length_cons] at h8
  have hl6 := hk.1
  have g48 : gi_ m 106 48 = 0 := by
    rw [o4.2, hn]
    rfl
  rw [e_X12_readOrder_301, isw_m h1 (k := 7) (by omega) (by rfl), decide_eq_true (show t.1 = kd_ 7 from ht), Option.bind_some]
  dsimp only
  rw [if_neg (show ¬ b01_ true = 0 by decide), g48, if_pos rfl]
  obtain ⟨m1, a1, a2, a3⟩ := nxs_m h1 (by omega)
  have g1 := rfw_g a3
  rw [a1, Option.bind_some]
  dsimp only
  unfold lgr_
  rcases tld_m a2 (lo := 0) (hi := 20) (by omega) (by omega) with ⟨f, x, m2, b1, b2, b3, b4⟩ | ⟨v, ra, m2, b1, b2, b3, b4, b5, b6⟩
  · have b2 : f_X12_told 0 20 m1 = some (x, m2) := b2
    refine Or.inl ⟨f, _, by rw [b1]; rfl, ?_, flm_si (flm_si b3 (a := 131) (k := j) (x := x) (by omega)) (a := 106) (k := 48) (x := 1) (by omega), mfo_t (mfo_w a3) (mfo_t (mfo_w b4) (mfo_t (mfo_s (by unfold lwj_; omega)) (mfo_s (by unfold lwj_; omega))))⟩
    rw [b2, Option.bind_some]
    dsimp only
    rw [ns_gd (by omega) (by omega), nI_clamp (by omega)]
    exact r393_f (flm_si (flm_si b3 (by omega)) (by omega))
  · have b4 : f_X12_told 0 20 m1 = some (nI v, m2) := b4
    have g2 := rfw_g b6
    rw [b1, sbd_r, b4, Option.bind_some]
    dsimp only
    rw [ns_gd (by omega) (by omega), nI_clamp (by omega)]
    have key : ∀ a k, (¬ a = 106 ∨ 10 ≤ k) → ¬ (a = 131 ∧ k = j) → ¬ (a = 106 ∧ k = 48) → gi_ (si_ (si_ m2 131 j (nI v)) 106 48 1) a k = gi_ m a k := fun a k y1 y2 y3 => by
      rw [gi_si_ne y3, gi_si_ne y2, g2 a k y1, g1 a k y1]
    have ra1 : r.length = ra.length + 1 := (tqn_j b1 a2.2.2.1).2.2.2
    have rb : ∀ a k, (a = 122 ∨ a = 123) → k < 700 * j + b → gi_ (si_ (si_ m2 131 j (nI v)) 106 48 1) a k = gi_ m a k := fun a k y1 y2 => key a k (by omega) (by omega) (by omega)
    have dt : dtm_ L j (d.1, d.2.1, d.2.2.1, some v, d.2.2.2.2.1, d.2.2.2.2.2.1, d.2.2.2.2.2.2) u b ra (si_ (si_ m2 131 j (nI v)) 106 48 1) := by
      refine ⟨rsn_si (rsn_si b5 (by omega) (by omega)) (by omega) (by omega), ⟨(key _ _ (by omega) (by omega) (by omega)).trans o1, fun k hk => ⟨(key _ _ (by omega) (by omega) (by omega)).trans (o2 k hk).1, (key _ _ (by omega) (by omega) (by omega)).trans (o2 k hk).2⟩, ⟨(key _ _ (by omega) (by omega) (by omega)).trans o3.1, (key _ _ (by omega) (by omega) (by omega)).trans o3.2.1, (key _ _ (by omega) (by omega) (by omega)).trans o3.2.2⟩, ⟨?_, gi_si_self⟩, (key _ _ (by omega) (by omega) (by omega)).trans o5, clm_g hl6 o6 (Nat.le_refl _) rb (fun a l ha hl => key _ _ (by omega) (by omega) (by omega)) (fun l hl => key _ _ (by omega) (by omega) (by omega)), omb_g o7 (Nat.le_refl _) rb (fun a ha => key _ _ (by omega) (by omega) (by omega)), omb_g o8 (Nat.le_refl _) rb (fun a ha => key _ _ (by omega) (by omega) (by omega))⟩, (key _ _ (by omega) (by omega) (by omega)).trans h3, (key _ _ (by omega) (by omega) (by omega)).trans h4, (key _ _ (by omega) (by omega) (by omega)).trans h5, h7, by omega⟩
      rw [gi_si_ne (by omega), gi_si_self]
      rfl
    have fo : mfo_ j m (si_ (si_ m2 131 j (nI v)) 106 48 1) := mfo_t (mfo_w a3) (mfo_t (mfo_w b6) (mfo_t (mfo_s (by unfold lwj_; omega)) (mfo_s (by unfold lwj_; omega))))
    rcases fin_m (by exact hl6) dt (x := nI j) with ⟨f, m3, z1, z2, z3, z4⟩ | ⟨r9, m3, z1, z2, z3, z4⟩
    · exact Or.inl ⟨f, m3, by rw [z1]; rfl, z2, z3, mfo_t fo z4⟩
    · exact Or.inr ⟨_, u, r9, b, m3, by rw [z1]; rfl, z2, z3, mfo_t fo z4⟩
theorem lhr_m {L : List Nat} {j : Nat} (hj : j < 6) {d : od_} (hk : ook_ d) {u b : Nat} {t : tkn_} {r : List tkn_} {m : fm_} (h : dtm_ L j d u b (t :: r) m) (ht : t.1 = 107) (hn : d.2.2.1 = none) : RR_ L j (lhr_ d u r) (f_X12_readOrder_83 (nI j) m) m := by
  obtain ⟨h1, ⟨o1, o2, o3, o4, o5, o6, o7, o8⟩, h3, h4, h5, h7, h8⟩ := h
  rw [List.length_cons] at h8
  have hl6 := hk.1
  have g47 : gi_ m 106 47 = 0 := by
    rw [o3.2.2, hn]
    rfl
  rw [e_X12_readOrder_83, isw_m h1 (k := 4) (by omega) (by rfl), decide_eq_false (show ¬ t.1 = kd_ 4 from fun q => by have q : t.1 = 105 := q; omega), Option.bind_some]
  dsimp only
  rw [if_pos (show b01_ false = 0 by decide), isw_m h1 (k := 5) (by omega) (by rfl), decide_eq_true (show t.1 = kd_ 5 from ht), Option.bind_some]
  dsimp only
  rw [if_neg (show ¬ b01_ true = 0 by decide), g47, if_pos rfl]
  obtain ⟨m1, a1, a2, a3⟩ := nxs_m h1 (by omega)
  have g1 := rfw_g a3
  rw [a1, Option.bind_some]
  dsimp only
  unfold lhr_
  rcases tld_m a2 (lo := 0) (hi := 1440) (by omega) (by omega) with ⟨f, x, m2, b1, b2, b3, b4⟩ | ⟨v, ra, m2, b1, b2, b3, b4, b5, b6⟩
  · have b2 : f_X12_told 0 1440 m1 = some (x, m2) := b2
    have e3 : flm_ f (si_ m2 129 j x) := flm_si b3 (by omega)
    refine Or.inl ⟨f, _, by rw [b1]; rfl, ?_, flm_si (flm_si e3 (a := 130) (k := j) (x := 0) (by omega)) (a := 106) (k := 47) (x := 1) (by omega), mfo_t (mfo_w a3) (mfo_t (mfo_w b4) (mfo_t (mfo_s (by unfold lwj_; omega)) (mfo_t (mfo_s (by unfold lwj_; omega)) (mfo_s (by unfold lwj_; omega)))))⟩
    rw [b2, Option.bind_some]
    dsimp only
    rw [ns_gd (by omega) (by omega), nI_clamp (by omega), wnt_f e3, Option.bind_some]
    dsimp only
    rw [ns_gd (by omega) (by omega), tld_f e3, Option.bind_some]
    dsimp only
    rw [ns_gd (by omega) (by omega)]
    exact r393_f (flm_si (flm_si e3 (by omega)) (by omega))
  · have b4 : f_X12_told 0 1440 m1 = some (nI v, m2) := b4
    have g2 := rfw_g b6
    have i3 : rsn_ L ra (si_ m2 129 j (nI v)) := rsn_si b5 (by omega) (by omega)
    rw [b1, sbd_r, b4, Option.bind_some]
    dsimp only
    rw [ns_gd (by omega) (by omega), nI_clamp (by omega)]
    have ra1 : r.length = ra.length + 1 := (tqn_j b1 a2.2.2.1).2.2.2
    rcases wnt_m i3 (k := 10) (c := 29807) (by omega) (by rfl) with ⟨f, m3, y1, y2, y3, y4⟩ | ⟨rb, m3, y1, y2, y3, y4⟩
    · have y1 : tqk_ 104 ra = .inl f := y1
      refine Or.inl ⟨f, _, by rw [y1]; rfl, ?_, flm_si (flm_si y3 (a := 130) (k := j) (x := 0) (by omega)) (a := 106) (k := 47) (x := 1) (by omega), mfo_t (mfo_w a3) (mfo_t (mfo_w b6) (mfo_t (mfo_s (by unfold lwj_; omega)) (mfo_t (mfo_w y4) (mfo_t (mfo_s (by unfold lwj_; omega)) (mfo_s (by unfold lwj_; omega))))))⟩
      rw [y2, Option.bind_some]
      dsimp only
      rw [ns_gd (by omega) (by omega), tld_f y3, Option.bind_some]
      dsimp only
      rw [ns_gd (by omega) (by omega)]
      exact r393_f (flm_si (flm_si y3 (by omega)) (by omega))
    · have y1 : tqk_ 104 ra = .inr rb := y1
      have g3 := rfw_g y4
      have e129 : gi_ m3 129 j + 1 = nI (v + 1) := by
        rw [g3 _ _ (by omega), gi_si_self]
        show nI v + nI 1 = _
        rw [nI_add]
      have rb1 := tqk_n y1
      rw [y1, sbd_r, y2, Option.bind_some]
      dsimp only
      rw [ns_gd (by omega) (by omega), e129]
      rcases tld_m y3 (lo := v + 1) (hi := 1440) (by omega) (by omega) with ⟨f, x, m4, x1, x2, x3, x4⟩ | ⟨w, rc, m4, x1, x2, x3, x4, x5, x6⟩
      · have x2 : f_X12_told (nI (v + 1)) 1440 m3 = some (x, m4) := x2
        refine Or.inl ⟨f, _, by rw [x1]; rfl, ?_, flm_si (flm_si x3 (a := 130) (k := j) (x := x) (by omega)) (a := 106) (k := 47) (x := 1) (by omega), mfo_t (mfo_w a3) (mfo_t (mfo_w b6) (mfo_t (mfo_s (by unfold lwj_; omega)) (mfo_t (mfo_w y4) (mfo_t (mfo_w x4) (mfo_t (mfo_s (by unfold lwj_; omega)) (mfo_s (by unfold lwj_; omega)))))))⟩
        rw [x2, Option.bind_some]
        dsimp only
        rw [ns_gd (by omega) (by omega)]
        exact r393_f (flm_si (flm_si x3 (by omega)) (by omega))
      · have x4 : f_X12_told (nI (v + 1)) 1440 m3 = some (nI w, m4) := x4
        have g4 := rfw_g x6
        rw [x1, sbd_r, x4, Option.bind_some]
        dsimp only
        rw [ns_gd (by omega) (by omega)]
        have rc1 : rb.length = rc.length + 1 := (tqn_j x1 y3.2.2.1).2.2.2
        have key : ∀ a k, (¬ a = 106 ∨ 10 ≤ k) → ¬ (a = 129 ∧ k = j) → ¬ (a = 130 ∧ k = j) → ¬ (a = 106 ∧ k = 47) → gi_ (si_ (si_ m4 130 j (nI w)) 106 47 1) a k = gi_ m a k := fun a k z1 z2 z3 z4 => by
          rw [gi_si_ne z4, gi_si_ne z3, g4 a k z1, g3 a k z1, gi_si_ne z2, g2 a k z1, g1 a k z1]
        have rbk : ∀ a k, (a = 122 ∨ a = 123) → k < 700 * j + b → gi_ (si_ (si_ m4 130 j (nI w)) 106 47 1) a k = gi_ m a k := fun a k z1 z2 => key a k (by omega) (by omega) (by omega) (by omega)
        have dt : dtm_ L j (d.1, d.2.1, some (v, w), d.2.2.2.1, d.2.2.2.2.1, d.2.2.2.2.2.1, d.2.2.2.2.2.2) u b rc (si_ (si_ m4 130 j (nI w)) 106 47 1) := by
          refine ⟨rsn_si (rsn_si x5 (by omega) (by omega)) (by omega) (by omega), ⟨(key _ _ (by omega) (by omega) (by omega) (by omega)).trans o1, fun k hk => ⟨(key _ _ (by omega) (by omega) (by omega) (by omega)).trans (o2 k hk).1, (key _ _ (by omega) (by omega) (by omega) (by omega)).trans (o2 k hk).2⟩, ⟨?_, ?_, gi_si_self⟩, ⟨(key _ _ (by omega) (by omega) (by omega) (by omega)).trans o4.1, (key _ _ (by omega) (by omega) (by omega) (by omega)).trans o4.2⟩, (key _ _ (by omega) (by omega) (by omega) (by omega)).trans o5, clm_g hl6 o6 (Nat.le_refl _) rbk (fun a l ha hl => key _ _ (by omega) (by omega) (by omega) (by omega)) (fun l hl => key _ _ (by omega) (by omega) (by omega) (by omega)), omb_g o7 (Nat.le_refl _) rbk (fun a ha => key _ _ (by omega) (by omega) (by omega) (by omega)), omb_g o8 (Nat.le_refl _) rbk (fun a ha => key _ _ (by omega) (by omega) (by omega) (by omega))⟩, (key _ _ (by omega) (by omega) (by omega) (by omega)).trans h3, (key _ _ (by omega) (by omega) (by omega) (by omega)).trans h4, (key _ _ (by omega) (by omega) (by omega) (by omega)).trans h5, h7, by omega⟩
          · rw [gi_si_ne (by omega), gi_si_ne (by omega), g4 _ _ (by omega), g3 _ _ (by omega), gi_si_self]
            rfl
          · rw [gi_si_ne (by omega), gi_si_self]
            rfl
        have fo : mfo_ j m (si_ (si_ m4 130 j (nI w)) 106 47 1) := mfo_t (mfo_w a3) (mfo_t (mfo_w b6) (mfo_t (mfo_s (by unfold lwj_; omega)) (mfo_t (mfo_w y4) (mfo_t (mfo_w x6) (mfo_t (mfo_s (by unfold lwj_; omega)) (mfo_s (by unfold lwj_; omega)))))))
        rcases fin_m (by exact hl6) dt (x := nI j) with ⟨f, m5, z1, z2, z3, z4⟩ | ⟨r9, m5, z1, z2, z3, z4⟩
        · exact Or.inl ⟨f, m5, by rw [z1]; rfl, z2, z3, mfo_t fo z4⟩
        · exact Or.inr ⟨_, u, r9, b, m5, by rw [z1]; rfl, z2, z3, mfo_t fo z4⟩
theorem r131_f {f : Nat × Nat} {m : fm_} (h : flm_ f m) {x : Int32} : f_X12_readOrder_131 x m = some (0, m) := by
  rw [e_X12_readOrder_131, tld_f h, Option.bind_some]
  dsimp only
  rw [wnt_f h, Option.bind_some]
  dsimp only
  rw [tld_f h, Option.bind_some, if_neg (flm_g h).1]
theorem lch_m {L : List Nat} {j : Nat} (hj : j < 6) {d : od_} (hk : ook_ d) {u b : Nat} {t : tkn_} {r : List tkn_} {m : fm_} (h : dtm_ L j d u b (t :: r) m) (ht : t.1 = 105) : RR_ L j (lch_ d u r) (f_X12_readOrder_83 (nI j) m) m := by
  obtain ⟨h1, ⟨o1, o2, o3, o4, o5, o6, o7, o8⟩, h3, h4, h5, h7, h8⟩ := h
  rw [List.length_cons] at h8
  have hl6 := hk.1
  obtain ⟨m1, a1, a2, a3⟩ := nxs_m h1 (by omega)
  have g1 := rfw_g a3
  obtain ⟨t2, r2, rfl⟩ := wts_n a2.2.2.1
  have hh := rsn_h a2
  have hsb := srk_b hh.2.2.2.2.1
  have s2 : srk_ t2.1 = 2 ↔ t2.1 = 2 := srk_e (by omega) (by omega) (by omega)
  have hv := hh.2.2.2.2.2.1
  rw [e_X12_readOrder_83, isw_m h1 (k := 4) (by omega) (by rfl), decide_eq_true (show t.1 = kd_ 4 from ht), Option.bind_some]
  dsimp only
  rw [if_neg (show ¬ b01_ true = 0 by decide), a1, Option.bind_some]
  dsimp only
  have e131 : (t2.1 = 2 ∧ t2.2.1 < 10 ∧ ¬ d.2.1 t2.2.1 = none → RR_ L j (.inl (flt_ 2 t2)) (if (gi_ m1 106 6) = 2 then
(if 10 ≤ (gi_ m1 106 8) then
((f_X12_readOrder_131 (nI j) m1))
else
(gd_ (ix_ (gi_ m1 106 8) 10)
(if (gi_ m1 134 (Int32.toNatClampNeg (gi_ m1 106 8))) = 0 then
((f_X12_readOrder_131 (nI j) m1))
else
(Option.bind (f_X12_wrong 2 m1) fun q42 =>
((f_X12_readOrder_131 (nI j) q42.2))))))
else
((f_X12_readOrder_131 (nI j) m1))) m) ∧ (¬ (t2.1 = 2 ∧ t2.2.1 < 10 ∧ ¬ d.2.1 t2.2.1 = none) → (if (gi_ m1 106 6) = 2 then
(if 10 ≤ (gi_ m1 106 8) then
((f_X12_readOrder_131 (nI j) m1))
else
(gd_ (ix_ (gi_ m1 106 8) 10)
(if (gi_ m1 134 (Int32.toNatClampNeg (gi_ m1 106 8))) = 0 then
((f_X12_readOrder_131 (nI j) m1))
else
(Option.bind (f_X12_wrong 2 m1) fun q42 =>
((f_X12_readOrder_131 (nI j) q42.2))))))
else
((f_X12_readOrder_131 (nI j) m1))) = f_X12_readOrder_131 (nI j) m1) := by
    rw [hh.1]
    by_cases c1 : t2.1 = 2
    · rw [if_pos (show nI (srk_ t2.1) = 2 by rw [s2.mpr c1]; rfl), hh.2.1 (Or.inl c1)]
      by_cases c2 : t2.2.1 < 10
      · have g134 : gi_ m1 134 t2.2.1 = b01_ (d.2.1 t2.2.1).isSome := (g1 _ _ (by omega)).trans (o2 _ c2).2
        rw [if_neg (show ¬ (10 : Int32) ≤ nI t2.2.1 from show ¬ nI 10 ≤ nI t2.2.1 from nI_ge c2 (by omega)), ns_gd c2 (by omega), nI_clamp (by omega), g134]
        refine ⟨fun q => ?_, fun q => ?_⟩
        · obtain ⟨m8, x1, x2, x4, _⟩ := wrg_m a2 (c := 2) (by omega) (by omega)
          have x1 : f_X12_wrong 2 m1 = some (0, m8) := x1
          refine Or.inl ⟨_, m8, rfl, ?_, x2, mfo_t (mfo_w a3) (mfo_w x4)⟩
          rw [if_neg (fun z => q.2.2 (iss_n.mp (nsm_.mp z))), x1, Option.bind_some]
          exact r131_f x2
        · have cn : d.2.1 t2.2.1 = none := by
            cases e : d.2.1 t2.2.1 with
            | none => rfl
            | some x => exact absurd ⟨c1, c2, by rw [e]; exact fun z => by cases z⟩ q
          rw [if_pos (nsm_.mpr (iss_n.mpr cn))]
      · refine ⟨fun q => absurd q.2.1 c2, fun q => ?_⟩
        rw [if_pos (show (10 : Int32) ≤ nI t2.2.1 from show nI 10 ≤ nI t2.2.1 from nI_le (by omega) (by omega))]
    · refine ⟨fun q => absurd q.1 c1, fun q => ?_⟩
      rw [if_neg (show ¬ nI (srk_ t2.1) = 2 from show ¬ nI (srk_ t2.1) = nI 2 from fun q => c1 (s2.mp ((nI_eq (by omega) (by omega)).mp q)))]
  unfold lch_
  rw [chq_l]
  by_cases c : t2.1 = 2 ∧ t2.2.1 < 10 ∧ ¬ d.2.1 t2.2.1 = none
  · rw [if_pos c]
    exact e131.1 c
  · rw [if_neg c, e131.2 c, e_X12_readOrder_131]
    rcases tld_m a2 (lo := 0) (hi := 9) (by omega) (by omega) with ⟨f, x, m2, b1, b2, b3, b4⟩ | ⟨v, ra, m2, b1, b2, b3, b4, b5, b6⟩
    · have b2 : f_X12_told 0 9 m1 = some (x, m2) := b2
      refine Or.inl ⟨f, m2, by rw [b1]; rfl, ?_, b3, mfo_t (mfo_w a3) (mfo_w b4)⟩
      rw [b2, Option.bind_some]
      dsimp only
      rw [wnt_f b3, Option.bind_some]
      dsimp only
      rw [tld_f b3, Option.bind_some, if_neg (flm_g b3).1]
    · have b4 : f_X12_told 0 9 m1 = some (nI v, m2) := b4
      have g2 := rfw_g b6
      have ra1 : (t2 :: r2).length = ra.length + 1 := (tqn_j b1 a2.2.2.1).2.2.2
      rw [b1, sbd_r, b4, Option.bind_some]
      dsimp only
      rcases wnt_m b5 (k := 11) (c := 26995) (by omega) (by rfl) with ⟨f, m3, y1, y2, y3, y4⟩ | ⟨rb, m3, y1, y2, y3, y4⟩
      · have y1 : tqk_ 106 ra = .inl f := y1
        refine Or.inl ⟨f, m3, by rw [y1]; rfl, ?_, y3, mfo_t (mfo_w a3) (mfo_t (mfo_w b6) (mfo_w y4))⟩
        rw [y2, Option.bind_some]
        dsimp only
        rw [tld_f y3, Option.bind_some, if_neg (flm_g y3).1]
      · have y1 : tqk_ 106 ra = .inr rb := y1
        have g3 := rfw_g y4
        have rb1 := tqk_n y1
        rw [y1, sbd_r, y2, Option.bind_some]
        dsimp only
        rcases tld_m y3 (lo := 0) (hi := 999) (by omega) (by omega) with ⟨f, x, m4, x1, x2, x3, x4⟩ | ⟨w, rc, m4, x1, x2, x3, x4, x5, x6⟩
        · have x2 : f_X12_told 0 999 m3 = some (x, m4) := x2
          refine Or.inl ⟨f, m4, by rw [x1]; rfl, ?_, x3, mfo_t (mfo_w a3) (mfo_t (mfo_w b6) (mfo_t (mfo_w y4) (mfo_w x4)))⟩
          rw [x2, Option.bind_some, if_neg (flm_g x3).1]
        · have x4 : f_X12_told 0 999 m3 = some (nI w, m4) := x4
          have g4 := rfw_g x6
          have ei : 10 * nI j + nI v = nI (10 * j + v) := by
            show nI 10 * nI j + nI v = _
            rw [pk_mul, nI_add]
          have rc1 : rb.length = rc.length + 1 := (tqn_j x1 y3.2.2.1).2.2.2
          rw [x1, sbd_r, x4, Option.bind_some]
          dsimp only
          rw [if_pos (rsn_g x5).1, ei, ns_gd (by omega) (by omega), ns_gd (by omega) (by omega), nI_clamp (by omega), nI_clamp (by omega)]
          have key : ∀ a k, (¬ a = 106 ∨ 10 ≤ k) → ¬ (a = 128 ∧ k = 10 * j + v) → ¬ (a = 134 ∧ k = v) → gi_ (si_ (si_ m4 128 (10 * j + v) (nI w)) 134 v 1) a k = gi_ m a k := fun a k z1 z2 z3 => by
            rw [gi_si_ne z3, gi_si_ne z2, g4 a k z1, g3 a k z1, g2 a k z1, g1 a k z1]
          have rbk : ∀ a k, (a = 122 ∨ a = 123) → k < 700 * j + b → gi_ (si_ (si_ m4 128 (10 * j + v) (nI w)) 134 v 1) a k = gi_ m a k := fun a k z1 z2 => key a k (by omega) (by omega) (by omega)
          have dt : dtm_ L j (d.1, (fun k => if k = v then some w else d.2.1 k), d.2.2.1, d.2.2.2.1, d.2.2.2.2.1, d.2.2.2.2.2.1, d.2.2.2.2.2.2) u b rc (si_ (si_ m4 128 (10 * j + v) (nI w)) 134 v 1) := by
            refine ⟨rsn_si (rsn_si x5 (by omega) (by omega)) (by omega) (by omega), ⟨(key _ _ (by omega) (by omega) (by omega)).trans o1, fun k hk => ?_, ⟨(key _ _ (by omega) (by omega) (by omega)).trans o3.1, (key _ _ (by omega) (by omega) (by omega)).trans o3.2.1, (key _ _ (by omega) (by omega) (by omega)).trans o3.2.2⟩, ⟨(key _ _ (by omega) (by omega) (by omega)).trans o4.1, (key _ _ (by omega) (by omega) (by omega)).trans o4.2⟩, (key _ _ (by omega) (by omega) (by omega)).trans o5, clm_g hl6 o6 (Nat.le_refl _) rbk (fun a l ha hl => key _ _ (by omega) (by omega) (by omega)) (fun l hl => key _ _ (by omega) (by omega) (by omega)), omb_g o7 (Nat.le_refl _) rbk (fun a ha => key _ _ (by omega) (by omega) (by omega)), omb_g o8 (Nat.le_refl _) rbk (fun a ha => key _ _ (by omega) (by omega) (by omega))⟩, (key _ _ (by omega) (by omega) (by omega)).trans h3, (key _ _ (by omega) (by omega) (by omega)).trans h4, (key _ _ (by omega) (by omega) (by omega)).trans h5, h7, by omega⟩
            show _ = nI (oom_ (if k = v then some w else d.2.1 k)) ∧ _ = b01_ (if k = v then some w else d.2.1 k).isSome
            by_cases cv : k = v
            · rw [if_pos cv, cv]
              refine ⟨?_, gi_si_self⟩
              rw [gi_si_ne (by omega), gi_si_self]
              rfl
            · rw [if_neg cv, key _ _ (by omega) (by omega) (by omega), key _ _ (by omega) (by omega) (by omega)]
              exact o2 k hk
          have fo : mfo_ j m (si_ (si_ m4 128 (10 * j + v) (nI w)) 134 v 1) := mfo_t (mfo_w a3) (mfo_t (mfo_w b6) (mfo_t (mfo_w y4) (mfo_t (mfo_w x6) (mfo_t (mfo_s (by unfold lwj_; omega)) (mfo_s (by unfold lwj_; omega))))))
          rcases fin_m (by exact hl6) dt (x := nI j) with ⟨f, m5, z1, z2, z3, z4⟩ | ⟨r9, m5, z1, z2, z3, z4⟩
          · exact Or.inl ⟨f, m5, by rw [z1]; rfl, z2, z3, mfo_t fo z4⟩
          · exact Or.inr ⟨_, u, r9, b, m5, by rw [z1]; rfl, z2, z3, mfo_t fo z4⟩
