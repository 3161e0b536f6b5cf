/-! ===== the reference: lines with an e ===== -/
theorem wnt_e {L : List Nat} {ts : List tkn_} {m : fm_} (h : rsn_ L ts m) {k : Nat} (hk : k < 23) {c : Int64} (hc : c = Int64.ofNat (pkw_ (wdn_ k) 0)) : ∃ m1, f_X12_wantWord c m = some (0, m1) ∧ sa_ rfw_ m m1 := by
  rcases wnt_m h hk hc with ⟨f, m1, a1, a2, a3, a4⟩ | ⟨r, m1, a1, a2, a3, a4⟩
  · exact ⟨m1, a2, a4⟩
  · exact ⟨m1, a2, a4⟩
theorem fin2_m {L : List Nat} {j : Nat} {d : od_} (h6 : d.2.2.2.2.1.length ≤ 6) {u b : Nat} {t : tkn_} {r : List tkn_} {m : fm_} (h : dtm_ L j d u b (t :: r) m) (ht : t.1 = 59) {x : Int32} : ∃ m1, f_X12_readOrder_393 x m = some (0, m1) ∧ dtm_ L j d u b r m1 ∧ mfo_ j m m1 := by
  rcases fin_m h6 h (x := x) with ⟨f, m1, a1, a2, a3, a4⟩ | ⟨r1, m1, a1, a2, a3, a4⟩
  · rw [tqk_l, if_pos ht] at a1; cases a1
  · rw [tqk_l, if_pos ht] at a1
    injection a1 with a1
    subst a1
    exact ⟨m1, a2, a3, a4⟩
theorem nej_ {j len : Nat} (hj : j < 6) : 6 * nI j + nI len = nI (6 * j + len) := by
  show nI 6 * nI j + nI len = _
  rw [pk_mul, nI_add]
theorem lcl_m {L : List Nat} {j : Nat} (hj : j < 6) {d : od_} (hk : ook_ d) {u b : Nat} {t : tkn_} {r : List tkn_} {m : fm_} (h : dtm_ L j d u b (t :: r) m) (ht : t.1 = 127) (hlen : d.2.2.2.2.1.length < 6) : RR_ L j (lcl_ d u r) (f_X12_readOrder m) m := by
  obtain ⟨h1, ⟨o1, o2, o3, o4, o5, o6, o7, o8⟩, h3, h4, h5, h7, h8⟩ := h
  rw [List.length_cons] at h8
  have hl6 := hk.1
  generalize hL : d.2.2.2.2.1.length = len at o5 hlen hl6
  unfold f_X12_readOrder
  rw [isw_m h1 (k := 3) (by omega) (by rfl), decide_eq_true (show t.1 = kd_ 3 from ht), Option.bind_some]
  dsimp only
  rw [if_neg (show ¬ b01_ true = 0 by decide), h3, ns_gd (by omega) (by omega), nI_clamp (by omega), o5, if_neg (show ¬ (6 : Int32) ≤ nI len from show ¬ nI 6 ≤ nI len from nI_ge (by omega) (by omega))]
  obtain ⟨m1, a1, a2, a3⟩ := nxs_m h1 (by omega)
  have g1 := rfw_g a3
  have c127 : gi_ m1 127 j = nI len := (g1 _ _ (by omega)).trans o5
  rw [a1, Option.bind_some]
  dsimp only
  rw [ns_gd (by omega) (by omega), c127, nej_ hj]
  unfold lcl_
  rcases tld_m a2 (lo := 0) (hi := 9) (by omega) (by omega) with ⟨f, x, m2, b1, b2, b3, b4⟩ | ⟨v, ra, m2, b1, b2, b3, b4, b5, b6⟩
  · have b2 : f_X12_told 0 9 m1 = some (x, m2) := b2
    have e3 : flm_ f (si_ m2 126 (6 * j + len) x) := flm_si b3 (by omega)
    refine Or.inl ⟨f, _, by rw [b1]; rfl, ?_, flm_si e3 (a := 127) (k := j) (x := gi_ (si_ m2 126 (6 * j + len) x) 127 j + 1) (by omega), mfo_t (mfo_w a3) (mfo_t (mfo_w b4) (mfo_t (mfo_s (by unfold lwj_; omega)) (mfo_s (by unfold lwj_; omega))))⟩
    rw [b2, Option.bind_some]
    dsimp only
    rw [ns_gd (by omega) (by omega), nI_clamp (by omega), wnt_f e3, Option.bind_some]
    dsimp only
    rw [ns_gd (by omega) (by omega), rdE_f e3, Option.bind_some]
    dsimp only
    rw [ns_gd (by omega) (by omega), ns_gd (by omega) (by omega)]
    exact r393_f (flm_si e3 (by omega))
  · have b4 : f_X12_told 0 9 m1 = some (nI v, m2) := b4
    have g2 := rfw_g b6
    have i3 : rsn_ L ra (si_ m2 126 (6 * j + len) (nI v)) := rsn_si b5 (by omega) (by omega)
    have k3 : ∀ a k, (¬ a = 106 ∨ 10 ≤ k) → ¬ (a = 126 ∧ k = 6 * j + len) → gi_ (si_ m2 126 (6 * j + len) (nI v)) a k = gi_ m a k := fun a k k1 k2 => by
      rw [gi_si_ne k2, g2 a k k1, g1 a k k1]
    have q126 : gi_ (si_ m2 126 (6 * j + len) (nI v)) 126 (6 * j + len) = nI v := gi_si_self
    have f3 : mfo_ j m (si_ m2 126 (6 * j + len) (nI v)) := mfo_t (mfo_w a3) (mfo_t (mfo_w b6) (mfo_s (by unfold lwj_; omega)))
    rw [b1, sbd_r, b4, Option.bind_some]
    dsimp only
    rw [ns_gd (by omega) (by omega), nI_clamp (by omega)]
    generalize si_ m2 126 (6 * j + len) (nI v) = m3 at i3 k3 q126 f3
    obtain ⟨m4, w1, w2⟩ := wnt_e i3 (k := 12) (c := 2003330414) (by omega) (by rfl)
    have c4 : gi_ m4 127 j = nI len := by rw [rfw_g w2 _ _ (by omega), k3 _ _ (by omega) (by omega)]; exact o5
    have ra1 : r.length = ra.length + 1 := (tqn_j b1 a2.2.2.1).2.2.2
    have am := ask1_m hj (l := len) (ol := 0) (by omega) (by rw [if_pos (by omega)]) mym_1 i3 ((k3 _ _ (by omega) (by omega)).trans h3) ((k3 _ _ (by omega) (by omega)).trans h4) ((k3 _ _ (by omega) (by omega)).trans h5) h7 (by omega) (fun S u r1 => ((d.1, d.2.1, d.2.2.1, d.2.2.2.1, d.2.2.2.2.1 ++ [(v, S)], d.2.2.2.2.2.1, d.2.2.2.2.2.2), u, r1))
    rw [w1, Option.bind_some] at am
    rw [w1, Option.bind_some]
    dsimp only at am ⊢
    rw [ns_gd (by omega) (by omega), c4]
    rcases am with ⟨f, m5, x1, x2, x3, x4⟩ | ⟨S1, u1, t9, r9, m5, x1, x2, x3, x4, x5, x6, x7, x8, x9, x10, x11⟩
    · refine Or.inl ⟨f, _, x1, ?_, flm_si x3 (a := 127) (k := j) (x := gi_ m5 127 j + 1) (by omega), mfo_t f3 (mfo_t (mfo_2 x4) (mfo_s (by unfold lwj_; omega)))⟩
      rw [x2, Option.bind_some]
      dsimp only
      rw [ns_gd (by omega) (by omega), ns_gd (by omega) (by omega)]
      exact r393_f (flm_si x3 (by omega))
    · have c5 : gi_ m5 127 j + 1 = nI (len + 1) := by
        rw [x11 _ _ (by omega) (by omega) (by omega) (by omega), k3 _ _ (by omega) (by omega), o5]
        show nI len + nI 1 = _
        rw [nI_add]
      rw [x3, Option.bind_some]
      dsimp only
      rw [ns_gd (by omega) (by omega), ns_gd (by omega) (by omega), c5]
      have key : ∀ a k, (¬ a = 106 ∨ (10 ≤ k ∧ ¬ (49 ≤ k ∧ k ≤ 54))) → ¬ a = 135 → ¬ ((a = 122 ∨ a = 123) ∧ 700 * j + b ≤ k) → ¬ ((a = 124 ∨ a = 125 ∨ a = 133) ∧ k = 8 * j + len) → ¬ (a = 126 ∧ k = 6 * j + len) → ¬ (a = 127 ∧ k = j) → gi_ (si_ m5 127 j (nI (len + 1))) a k = gi_ m a k := fun a k y1 y2 y3 y4 y5 y6 => by
        rw [gi_si_ne y6, x11 a k y2 y3 (by omega) y4, k3 a k (by omega) y5]
      have rb : ∀ a k, (a = 122 ∨ a = 123) → k < 700 * j + b → gi_ (si_ m5 127 j (nI (len + 1))) a k = gi_ m a k := fun a k y1 y2 => key a k (by omega) (by omega) (by omega) (by omega) (by omega) (by omega)
      have dt : dtm_ L j (d.1, d.2.1, d.2.2.1, d.2.2.2.1, d.2.2.2.2.1 ++ [(v, S1)], d.2.2.2.2.2.1, d.2.2.2.2.2.2) u1 (b + S1.length) (t9 :: r9) (si_ m5 127 j (nI (len + 1))) := by
        refine ⟨rsn_si x4 (by omega) (by omega), ⟨(key _ _ (by omega) (by omega) (by omega) (by omega) (by omega) (by omega)).trans o1, fun k hk => ⟨(key _ _ (by omega) (by omega) (by omega) (by omega) (by omega) (by omega)).trans (o2 k hk).1, (key _ _ (by omega) (by omega) (by omega) (by omega) (by omega) (by omega)).trans (o2 k hk).2⟩, ⟨(key _ _ (by omega) (by omega) (by omega) (by omega) (by omega) (by omega)).trans o3.1, (key _ _ (by omega) (by omega) (by omega) (by omega) (by omega) (by omega)).trans o3.2.1, (key _ _ (by omega) (by omega) (by omega) (by omega) (by omega) (by omega)).trans o3.2.2⟩, ⟨(key _ _ (by omega) (by omega) (by omega) (by omega) (by omega) (by omega)).trans o4.1, (key _ _ (by omega) (by omega) (by omega) (by omega) (by omega) (by omega)).trans o4.2⟩, ?_, fun l q hq => ?_, omb_g o7 (by omega) rb (fun a ha => key _ _ (by omega) (by omega) (by omega) (by omega) (by omega) (by omega)), omb_g o8 (by omega) rb (fun a ha => key _ _ (by omega) (by omega) (by omega) (by omega) (by omega) (by omega))⟩, ?_, ?_, ?_, x8, x10⟩
        · rw [gi_si_self]
          show _ = nI (d.2.2.2.2.1 ++ [(v, S1)]).length
          rw [List.length_append, hL]
          rfl
        · rcases app_q hq with ⟨z1, z2⟩ | ⟨z1, z2⟩
          · obtain ⟨y1, y2⟩ := o6 l q z2
            rw [hL] at z1
            exact ⟨(key _ _ (by omega) (by omega) (by omega) (by omega) (by omega) (by omega)).trans y1, cmb_g y2 (by omega) rb (fun a ha => key _ _ (by omega) (by omega) (by omega) (by omega) (by omega) (by omega))⟩
          · rw [hL] at z1
            subst z1
            subst z2
            refine ⟨?_, cmb_g x9 (Nat.le_refl _) (fun a k y1 y2 => gi_si_ne (by omega)) (fun a ha => gi_si_ne (by omega))⟩
            rw [gi_si_ne (by omega), x11 _ _ (by omega) (by omega) (by omega) (by omega)]
            exact q126
        · rw [gi_si_ne (by omega)]; exact x5
        · rw [gi_si_ne (by omega)]; exact x6
        · rw [gi_si_ne (by omega)]; exact x7
      obtain ⟨m7, z1, z2, z3⟩ := fin2_m (by show (d.2.2.2.2.1 ++ [(v, S1)]).length ≤ 6; rw [List.length_append, hL]; show len + 1 ≤ 6; omega) dt x2 (x := nI j)
      exact Or.inr ⟨_, u1, r9, _, m7, x1, z1, z2, mfo_t f3 (mfo_t (mfo_2 x11) (mfo_t (mfo_s (by unfold lwj_; omega)) z3))⟩
/-- free, appeal: behind the first word -/
theorem lq_m {L : List Nat} {j l : Nat} (hj : j < 6) (hl : l = 6 ∨ l = 7) {al : Nat → Bool} (hal : mym_ l al) {d : od_} (hk : ook_ d) {u b : Nat} {t : tkn_} {r : List tkn_} {m : fm_} (h : dtm_ L j d u b (t :: r) m) (h2 : 2 ≤ t.1) {mk : cd_ → od_} (hmk : ∀ S, (mk S).2.2.2.2.1.length ≤ 6) (hd : ∀ (S1 : cd_) (m1 : fm_), cmb_ j l S1 (b + S1.length) m1 → (∀ a k, (¬ a = 106 ∨ (10 ≤ k ∧ ¬ (49 ≤ k ∧ k ≤ 54))) → ¬ a = 135 → ¬ ((a = 122 ∨ a = 123) ∧ 700 * j + b ≤ k) → ¬ ((a = 124 ∨ a = 125 ∨ a = 133) ∧ k = 8 * j + l) → gi_ m1 a k = gi_ m a k) → odm_ j (mk S1) (b + S1.length) m1) : RR_ L j (sbd_ (whn_ al u r) fun w => sbd_ (tqk_ 59 w.2.2) fun r1 => .inr (mk w.1, w.2.1, r1)) (Option.bind (f_X12_next m) fun q10 => Option.bind (f_X12_wantWord 2003330414 q10.2) fun q13 => Option.bind (f_X12_readE (nI l) q13.2) fun q16 => f_X12_readOrder_393 (nI j) q16.2) m := by
  obtain ⟨h1, ho, h3, h4, h5, h7, h8⟩ := h
  rw [List.length_cons] at h8
  obtain ⟨m1, a1, a2, a3⟩ := nxs_m h1 h2
  have g1 := rfw_g a3
  obtain ⟨m4, w1, w2⟩ := wnt_e a2 (k := 12) (c := 2003330414) (by omega) (by rfl)
  have am := ask1_m hj (l := l) (ol := l) (by omega) (by rw [if_neg (by omega)]) hal a2 ((g1 _ _ (by omega)).trans h3) ((g1 _ _ (by omega)).trans h4) ((g1 _ _ (by omega)).trans h5) h7 (by omega) (fun S u r1 => (mk S, u, r1))
  rw [w1, Option.bind_some] at am
  rw [a1, Option.bind_some]
  dsimp only
  rw [w1, Option.bind_some]
  dsimp only at am ⊢
  rcases am with ⟨f, m5, x1, x2, x3, x4⟩ | ⟨S1, u1, t9, r9, m5, x1, x2, x3, x4, x5, x6, x7, x8, x9, x10, x11⟩
  · refine Or.inl ⟨f, m5, x1, ?_, x3, mfo_t (mfo_w a3) (mfo_2 x4)⟩
    rw [x2, Option.bind_some]
    exact r393_f x3
  · rw [x3, Option.bind_some]
    dsimp only
    have dt : dtm_ L j (mk S1) u1 (b + S1.length) (t9 :: r9) m5 := ⟨x4, hd S1 m5 x9 (fun a k y1 y2 y3 y4 => (x11 a k y2 y3 (by omega) y4).trans (g1 a k (by omega))), x5, x6, x7, x8, x10⟩
    obtain ⟨m7, z1, z2, z3⟩ := fin2_m (hmk S1) dt x2 (x := nI j)
    exact Or.inr ⟨_, u1, r9, _, m7, x1, z1, z2, mfo_t (mfo_w a3) (mfo_t (mfo_2 x11) z3)⟩
theorem lfr_m {L : List Nat} {j : Nat} (hj : j < 6) {d : od_} (hk : ook_ d) {u b : Nat} {t : tkn_} {r : List tkn_} {m : fm_} (h : dtm_ L j d u b (t :: r) m) (ht : t.1 = 108) (hn : d.2.2.2.2.2.1 = none) : RR_ L j (lfr_ d u r) (f_X12_readOrder_256 (nI j) m) m := by
  have hh := h
  obtain ⟨h1, ⟨o1, o2, o3, o4, o5, o6, o7, o8⟩, h3, h4, h5, h7, h8⟩ := hh
  have g133 : gi_ m 133 (8 * j + 6) = 0 := by
    rw [hn] at o7
    exact o7
  have ei : 8 * nI j + 6 = nI (8 * j + 6) := by
    show nI 8 * nI j + nI 6 = _
    rw [pk_mul, nI_add]
  rw [e_X12_readOrder_256, isw_m h1 (k := 6) (by omega) (by rfl), decide_eq_true (show t.1 = kd_ 6 from ht), Option.bind_some]
  dsimp only
  rw [if_neg (show ¬ b01_ true = 0 by decide), ei, ns_gd (by omega) (by omega), nI_clamp (by omega), g133, if_pos rfl]
  refine lq_m hj (l := 6) (Or.inl rfl) mym_2 hk h (by omega) (mk := fun S => (d.1, d.2.1, d.2.2.1, d.2.2.2.1, d.2.2.2.2.1, some S, d.2.2.2.2.2.2)) (fun S => hk.1) ?_
  intro S1 m5 w1 key
  have hl6 := hk.1
  have rb : ∀ a k, (a = 122 ∨ a = 123) → k < 700 * j + b → gi_ m5 a k = gi_ m a k := fun a k y1 y2 => key a k (by omega) (by omega) (by omega) (by omega)
  exact ⟨(key _ _ (by omega) (by omega) (by omega) (by omega)).trans o1, fun k hk => ⟨(key _ _ (by omega) (by omega) (by omega) (by omega)).trans (o2 k hk).1, (key _ _ (by omega) (by omega) (by omega) (by omega)).trans (o2 k hk).2⟩, ⟨(key _ _ (by omega) (by omega) (by omega) (by omega)).trans o3.1, (key _ _ (by omega) (by omega) (by omega) (by omega)).trans o3.2.1, (key _ _ (by omega) (by omega) (by omega) (by omega)).trans o3.2.2⟩, ⟨(key _ _ (by omega) (by omega) (by omega) (by omega)).trans o4.1, (key _ _ (by omega) (by omega) (by omega) (by omega)).trans o4.2⟩, (key _ _ (by omega) (by omega) (by omega) (by omega)).trans o5, clm_g hl6 o6 (by omega) rb (fun a l ha hl => key _ _ (by omega) (by omega) (by omega) (by omega)) (fun l hl => key _ _ (by omega) (by omega) (by omega) (by omega)), w1, omb_g o8 (by omega) rb (fun a ha => key _ _ (by omega) (by omega) (by omega) (by omega))⟩
theorem lap_m {L : List Nat} {j : Nat} (hj : j < 6) {d : od_} (hk : ook_ d) {u b : Nat} {t : tkn_} {r : List tkn_} {m : fm_} (h : dtm_ L j d u b (t :: r) m) (ht : t.1 = 110) (hn : d.2.2.2.2.2.2 = none) : RR_ L j (lap_ d u r) (f_X12_readOrder_343 (nI j) m) m := by
  have hh := h
  obtain ⟨h1, ⟨o1, o2, o3, o4, o5, o6, o7, o8⟩, h3, h4, h5, h7, h8⟩ := hh
  have g133 : gi_ m 133 (8 * j + 7) = 0 := by
    rw [hn] at o8
    exact o8
  have ei : 8 * nI j + 7 = nI (8 * j + 7) := by
    show nI 8 * nI j + nI 7 = _
    rw [pk_mul, nI_add]
  rw [e_X12_readOrder_343, isw_m h1 (k := 8) (by omega) (by rfl), decide_eq_true (show t.1 = kd_ 8 from ht), Option.bind_some]
  dsimp only
  rw [if_neg (show ¬ b01_ true = 0 by decide), ei, ns_gd (by omega) (by omega), nI_clamp (by omega), g133, if_pos rfl]
  refine lq_m hj (l := 7) (Or.inr rfl) mym_3 hk h (by omega) (mk := fun S => (d.1, d.2.1, d.2.2.1, d.2.2.2.1, d.2.2.2.2.1, d.2.2.2.2.2.1, some S)) (fun S => hk.1) ?_
  intro S1 m5 w1 key
  have hl6 := hk.1
  have rb : ∀ a k, (a = 122 ∨ a = 123) → k < 700 * j + b → gi_ m5 a k = gi_ m a k := fun a k y1 y2 => key a k (by omega) (by omega) (by omega) (by omega)
  exact ⟨(key _ _ (by omega) (by omega) (by omega) (by omega)).trans o1, fun k hk => ⟨(key _ _ (by omega) (by omega) (by omega) (by omega)).trans (o2 k hk).1, (key _ _ (by omega) (by omega) (by omega) (by omega)).trans (o2 k hk).2⟩, ⟨(key _ _ (by omega) (by omega) (by omega) (by omega)).trans o3.1, (key _ _ (by omega) (by omega) (by omega) (by omega)).trans o3.2.1, (key _ _ (by omega) (by omega) (by omega) (by omega)).trans o3.2.2⟩, ⟨(key _ _ (by omega) (by omega) (by omega) (by omega)).trans o4.1, (key _ _ (by omega) (by omega) (by omega) (by omega)).trans o4.2⟩, (key _ _ (by omega) (by omega) (by omega) (by omega)).trans o5, clm_g hl6 o6 (by omega) rb (fun a l ha hl => key _ _ (by omega) (by omega) (by omega) (by omega)) (fun l hl => key _ _ (by omega) (by omega) (by omega) (by omega)), omb_g o7 (by omega) rb (fun a ha => key _ _ (by omega) (by omega) (by omega) (by omega)), w1⟩
