/-! ===== orders: the reference ===== -/
theorem olin_m {L : List Nat} {j : Nat} (hj : j < 6) {d : od_} (hk : ook_ d) {u b : Nat} {t : tkn_} {r : List tkn_} {m : fm_} (h : dtm_ L j d u b (t :: r) m) : RR_ L j (olin_ d u (t :: r)) (f_X12_readOrder m) m := by
  have hh := h
  obtain ⟨h1, ⟨o1, o2, o3, o4, o5, o6, o7, o8⟩, h3, h4, h5, h7, h8⟩ := hh
  have hl6 := hk.1
  have iw : ∀ (k : Nat) (c : Int64), k < 23 → c = Int64.ofNat (pkw_ (wdn_ k) 0) → f_X12_isWord c m = some (b01_ (decide (t.1 = kd_ k)), m) := fun k c hk hc => isw_m h1 hk hc
  have z0 : b01_ false = 0 := by decide
  have z1 : ¬ b01_ true = 0 := by decide
  have nro : ¬ (t.1 = 127 ∧ d.2.2.2.2.1.length < 6) → f_X12_readOrder m = f_X12_readOrder_83 (nI j) m := fun q => by
    unfold f_X12_readOrder
    rw [iw 3 427020088179 (by omega) (by rfl), Option.bind_some]
    dsimp only
    by_cases c : t.1 = 127
    · rw [decide_eq_true (show t.1 = kd_ 3 from c), if_neg z1, h3, ns_gd (by omega) (by omega), nI_clamp (by omega), o5, if_pos (show (6 : Int32) ≤ nI d.2.2.2.2.1.length from show nI 6 ≤ nI d.2.2.2.2.1.length from nI_le (by omega) (by omega))]
    · rw [decide_eq_false (show ¬ t.1 = kd_ 3 from c), if_pos z0, h3]
  have n83 : ¬ t.1 = 105 → ¬ (t.1 = 107 ∧ d.2.2.1 = none) → f_X12_readOrder_83 (nI j) m = f_X12_readOrder_256 (nI j) m := fun q1 q2 => by
    rw [e_X12_readOrder_83, iw 4 109299962636133 (by omega) (by rfl), Option.bind_some]
    dsimp only
    rw [decide_eq_false (show ¬ t.1 = kd_ 4 from q1), if_pos z0, iw 5 448546566771 (by omega) (by rfl), Option.bind_some]
    dsimp only
    by_cases c : t.1 = 107
    · have : d.2.2.1.isSome = true := by
        cases e : d.2.2.1 with
        | none => exact absurd ⟨c, e⟩ q2
        | some x => rfl
      rw [decide_eq_true (show t.1 = kd_ 5 from c), if_neg z1, o3.2.2, this, if_neg z1]
    · rw [decide_eq_false (show ¬ t.1 = kd_ 5 from c), if_pos z0]
  have n256 : ¬ (t.1 = 108 ∧ d.2.2.2.2.2.1 = none) → f_X12_readOrder_256 (nI j) m = f_X12_readOrder_301 (nI j) m := fun q2 => by
    rw [e_X12_readOrder_256, iw 6 1718773093 (by omega) (by rfl), Option.bind_some]
    dsimp only
    by_cases c : t.1 = 108
    · have g : gi_ m 133 (8 * j + 6) = 1 := by
        cases e : d.2.2.2.2.2.1 with
        | none => exact absurd ⟨c, e⟩ q2
        | some x => rw [e] at o7; exact o7.1
      have ei : 8 * nI j + 6 = nI (8 * j + 6) := by
        show nI 8 * nI j + nI 6 = _
        rw [pk_mul, nI_add]
      rw [decide_eq_true (show t.1 = kd_ 6 from c), if_neg z1, ei, ns_gd (by omega) (by omega), nI_clamp (by omega), g, if_neg (show ¬ (1 : Int32) = 0 by decide)]
    · rw [decide_eq_false (show ¬ t.1 = kd_ 6 from c), if_pos z0]
  have n301 : ¬ (t.1 = 109 ∧ d.2.2.2.1 = none) → f_X12_readOrder_301 (nI j) m = f_X12_readOrder_343 (nI j) m := fun q2 => by
    rw [e_X12_readOrder_301, iw 7 444300616549 (by omega) (by rfl), Option.bind_some]
    dsimp only
    by_cases c : t.1 = 109
    · have : d.2.2.2.1.isSome = true := by
        cases e : d.2.2.2.1 with
        | none => exact absurd ⟨c, e⟩ q2
        | some x => rfl
      rw [decide_eq_true (show t.1 = kd_ 7 from c), if_neg z1, o4.2, this, if_neg z1]
    · rw [decide_eq_false (show ¬ t.1 = kd_ 7 from c), if_pos z0]
  have n343 : ¬ (t.1 = 110 ∧ d.2.2.2.2.2.2 = none) → f_X12_readOrder_343 (nI j) m = f_X12_readOrder_388 (nI j) m := fun q2 => by
    rw [e_X12_readOrder_343, iw 8 107135549923692 (by omega) (by rfl), Option.bind_some]
    dsimp only
    by_cases c : t.1 = 110
    · have g : gi_ m 133 (8 * j + 7) = 1 := by
        cases e : d.2.2.2.2.2.2 with
        | none => exact absurd ⟨c, e⟩ q2
        | some x => rw [e] at o8; exact o8.1
      have ei : 8 * nI j + 7 = nI (8 * j + 7) := by
        show nI 8 * nI j + nI 7 = _
        rw [pk_mul, nI_add]
      rw [decide_eq_true (show t.1 = kd_ 8 from c), if_neg z1, ei, ns_gd (by omega) (by omega), nI_clamp (by omega), g, if_neg (show ¬ (1 : Int32) = 0 by decide)]
    · rw [decide_eq_false (show ¬ t.1 = kd_ 8 from c), if_pos z0]
  rw [olin_l]
  by_cases c1 : t.1 = 127 ∧ d.2.2.2.2.1.length < 6
  · rw [if_pos c1]
    exact lcl_m hj hk h c1.1 c1.2
  · rw [if_neg c1, nro c1]
    by_cases c2 : t.1 = 105
    · rw [if_pos c2]
      exact lch_m hj hk h c2
    · rw [if_neg c2]
      by_cases c3 : t.1 = 107 ∧ d.2.2.1 = none
      · rw [if_pos c3]
        exact lhr_m hj hk h c3.1 c3.2
      · rw [if_neg c3, n83 c2 c3]
        by_cases c4 : t.1 = 108 ∧ d.2.2.2.2.2.1 = none
        · rw [if_pos c4]
          exact lfr_m hj hk h c4.1 c4.2
        · rw [if_neg c4, n256 c4]
          by_cases c5 : t.1 = 109 ∧ d.2.2.2.1 = none
          · rw [if_pos c5]
            exact lgr_m hj hk h c5.1 c5.2
          · rw [if_neg c5, n301 c5]
            by_cases c6 : t.1 = 110 ∧ d.2.2.2.2.2.2 = none
            · rw [if_pos c6]
              exact lap_m hj hk h c6.1 c6.2
            · rw [if_neg c6, n343 c6]
              exact r388_m h1
theorem rlo_m {L : List Nat} {j : Nat} (hj : j < 6) {x1 x2 x3 : Int32} : ∀ (n : Nat) (ts : List tkn_) (d : od_) (u b : Nat) (m : fm_), ts.length ≤ n → dtm_ L j d u b ts m → ook_ d → (∀ k v, d.2.1 k = some v → v ≤ 999) → (∃ f m1, ols_ n d u ts = .inl f ∧ f_X12_orders_154 x1 x2 x3 m = some (-1, m1) ∧ flm_ f m1 ∧ mfo_ j m m1 ∧ sa_ w_X12_readOrder m m1) ∨ (∃ d1 u1 b1 r1 m1, ols_ n d u ts = .inr d1 ∧ f_X12_orders_154 x1 x2 x3 m = some (x2, si_ m1 106 33 (nI (j + 1))) ∧ dtm_ L j d1 u1 b1 r1 m1 ∧ mfo_ j m m1 ∧ sa_ w_X12_readOrder m m1 ∧ ook_ d1 ∧ d1.1 = d.1) := by
  intro n
  induction n with
  | zero =>
    intro ts d u b m hn h
    obtain ⟨t, r, rfl⟩ := wts_n h.1.2.2.1
    exact absurd hn (by rw [List.length_cons]; omega)
  | succ n ih =>
    intro ts d u b m hn h hok hdv
    obtain ⟨t, r, rfl⟩ := wts_n h.1.2.2.1
    have hs := sor_m h.1 (j := 0) (by omega) (by omega) (by omega)
    rw [List.length_cons] at hn
    rw [ols_s, e_X12_orders_154, if_pos (rsn_g h.1).2]
    by_cases c : t.1 = 0
    · refine Or.inr ⟨d, u, b, t :: r, m, if_pos c, ?_, h, mfo_r, sa_rf, hok, rfl⟩
      rw [if_pos (show gi_ m 106 6 = 0 from hs.mpr c), if_pos (rsn_g h.1).1, h.2.2.1]
      show some (x2, si_ m 106 33 (nI j + nI 1)) = _
      rw [nI_add]
    · rw [if_neg c, if_neg (show ¬ gi_ m 106 6 = 0 from fun q => c (hs.mp q))]
      rcases olin_m hj hok h with ⟨f, m1, a1, a2, a3, a4⟩ | ⟨d1, u1, r1, b1, m1, a1, a2, a3, a4⟩
      · have s1 := fr_X12_readOrder a2
        refine Or.inl ⟨f, m1, by rw [a1]; rfl, ?_, a3, a4, s1⟩
        rw [a2, Option.bind_some]
        dsimp only
        rw [e_X12_orders_154, if_neg (flm_g a3).2, if_neg (flm_g a3).1]
      · have s1 := fr_X12_readOrder a2
        obtain ⟨j1, j2, j3, j4, j5, j6⟩ := olin_j hok hdv h.2.2.2.2.2.1 h.1.2.2.1 a1
        have j6 : r1.length + 1 ≤ (t :: r).length := j6
        rw [List.length_cons] at j6
        rw [a1, sbd_r, a2, Option.bind_some]
        dsimp only
        rcases ih r1 d1 u1 b1 m1 (by omega) a3 j1 j2 with ⟨f, m2, b1, b2, b3, b4, b5⟩ | ⟨d2, u2, n2, r2, m2, b1, b2, b3, b4, b5, b6, b7⟩
        · exact Or.inl ⟨f, m2, b1, b2, b3, mfo_t a4 b4, sa_t s1 b5⟩
        · exact Or.inr ⟨d2, u2, n2, r2, m2, b1, b2, b3, mfo_t a4 b4, sa_t s1 b5, b6, b7.trans j3⟩
theorem o93_m {j : Nat} (hj : j < 6) {x1 : Int32} : ∀ (d i : Nat) (m : fm_), i + d = 10 → ∃ m1, f_X12_orders_93 x1 (nI j) (nI i) m = f_X12_orders_126 x1 (nI j) 0 m1 ∧ (∀ k, i ≤ k → k < 10 → gi_ m1 128 (10 * j + k) = 0 ∧ gi_ m1 134 k = 0) ∧ (∀ a k, ¬ (a = 128 ∧ 10 * j + i ≤ k) → ¬ (a = 134 ∧ i ≤ k) → gi_ m1 a k = gi_ m a k) := by
  intro d
  induction d with
  | zero =>
    intro i m hi
    refine ⟨m, ?_, fun k h1 h2 => by omega, fun _ _ _ _ => rfl⟩
    rw [e_X12_orders_93, if_pos (show (10 : Int32) ≤ nI i from show nI 10 ≤ nI i from nI_le (by omega) (by omega))]
  | succ d ih =>
    intro i m hi
    have ei : 10 * nI j + nI i = nI (10 * j + i) := by
      show nI 10 * nI j + nI i = _
      rw [pk_mul, nI_add]
    have ex : nI i + 1 = nI (i + 1) := by
      show nI i + nI 1 = _
      rw [nI_add]
    obtain ⟨m1, a1, a2, a3⟩ := ih (i + 1) (si_ (si_ m 128 (10 * j + i) 0) 134 i 0) (by omega)
    refine ⟨m1, ?_, fun k h1 h2 => ?_, fun a k h1 h2 => ?_⟩
    · rw [e_X12_orders_93, if_neg (show ¬ (10 : Int32) ≤ nI i from show ¬ nI 10 ≤ nI i from nI_ge (by omega) (by omega)), ei, ex, ns_gd (by omega) (by omega), ns_gd (by omega) (by omega), nI_clamp (by omega), nI_clamp (by omega)]
      exact a1
    · by_cases c : k = i
      · rw [a3 _ _ (by omega) (by omega), a3 _ _ (by omega) (by omega), c]
        exact ⟨by rw [gi_si_ne (by omega), gi_si_self], gi_si_self⟩
      · exact a2 k (by omega) h2
    · rw [a3 a k (by omega) (by omega), gi_si_ne (by omega), gi_si_ne (by omega)]
theorem o126_m {j : Nat} (hj : j < 6) {x1 : Int32} : ∀ (d i : Nat) (m : fm_), i + d = 8 → ∃ m1, f_X12_orders_126 x1 (nI j) (nI i) m = (Option.bind (f_X12_begin m1) fun q3 => f_X12_orders_154 x1 (nI j) (nI 8) q3.2) ∧ (∀ k, i ≤ k → k < 8 → gi_ m1 133 (8 * j + k) = 0) ∧ (∀ a k, ¬ (a = 133 ∧ 8 * j + i ≤ k) → gi_ m1 a k = gi_ m a k) := by
  intro d
  induction d with
  | zero =>
    intro i m hi
    refine ⟨m, ?_, fun k h1 h2 => by omega, fun _ _ _ => rfl⟩
    rw [e_X12_orders_126, if_pos (show (8 : Int32) ≤ nI i from show nI 8 ≤ nI i from nI_le (by omega) (by omega)), show i = 8 by omega]
  | succ d ih =>
    intro i m hi
    have ei : 8 * nI j + nI i = nI (8 * j + i) := by
      show nI 8 * nI j + nI i = _
      rw [pk_mul, nI_add]
    have ex : nI i + 1 = nI (i + 1) := by
      show nI i + nI 1 = _
      rw [nI_add]
    obtain ⟨m1, a1, a2, a3⟩ := ih (i + 1) (si_ m 133 (8 * j + i) 0) (by omega)
    refine ⟨m1, ?_, fun k h1 h2 => ?_, fun a k h1 => ?_⟩
    · rw [e_X12_orders_126, if_neg (show ¬ (8 : Int32) ≤ nI i from show ¬ nI 8 ≤ nI i from nI_ge (by omega) (by omega)), ei, ex, ns_gd (by omega) (by omega), nI_clamp (by omega)]
      exact a1
    · by_cases c : k = i
      · rw [a3 _ _ (by omega), c]
        exact gi_si_self
      · exact a2 k (by omega) h2
    · rw [a3 a k (by omega), gi_si_ne (by omega)]
theorem cmb_d {j l : Nat} {c : cd_} {b : Nat} {m : fm_} (h : cmb_ j l c b m) (hb : b ≤ 700) : cmd_ j l c m := by
  obtain ⟨h1, s, h2, h3, h4, h5⟩ := h
  exact ⟨h1, s, h2, h3, by omega, h5⟩
theorem omb_d {j l : Nat} {c : Option cd_} {b : Nat} {m : fm_} (h : omb_ j l c b m) (hb : b ≤ 700) : oml_ j l c m := by
  cases c with
  | none => exact h
  | some c => exact cmb_d h hb
theorem odm_d {j : Nat} {d : od_} {b : Nat} {m : fm_} (h : odm_ j d b m) (hb : b ≤ 700) : orm_ j d m := by
  obtain ⟨c1, c2, c3, c4, c5, c6, c7, c8⟩ := h
  exact ⟨c3.1, c3.2.1, c4.1, c5, fun l q hl => ⟨(c6 l q hl).1, cmb_d (c6 l q hl).2 hb⟩, omb_d c7 hb, omb_d c8 hb⟩
theorem cmd_o {j i l : Nat} (hi : i < j) (hl : l < 8) {c : cd_} {m m1 : fm_} (h : cmd_ i l c m) (hf : ∀ a k, 122 ≤ a → lwj_ j a k → gi_ m1 a k = gi_ m a k) : cmd_ i l c m1 := by
  obtain ⟨h1, b, h2, h3, h4, h5⟩ := h
  refine ⟨(hf _ _ (by omega) (by unfold lwj_; omega)).trans h1, b, (hf _ _ (by omega) (by unfold lwj_; omega)).trans h2, (hf _ _ (by omega) (by unfold lwj_; omega)).trans h3, h4, fun k q hk => ?_⟩
  have := (List.getElem?_eq_some_iff.mp hk).1
  exact ⟨(hf _ _ (by omega) (by unfold lwj_; omega)).trans (h5 k q hk).1, fun z => (hf _ _ (by omega) (by unfold lwj_; omega)).trans ((h5 k q hk).2 z)⟩
theorem oml_o {j i l : Nat} (hi : i < j) (hl : l < 8) {c : Option cd_} {m m1 : fm_} (h : oml_ i l c m) (hf : ∀ a k, 122 ≤ a → lwj_ j a k → gi_ m1 a k = gi_ m a k) : oml_ i l c m1 := by
  cases c with
  | none => exact (hf _ _ (by omega) (by unfold lwj_; omega)).trans h
  | some c => exact cmd_o hi hl h hf
theorem orm_o {j i : Nat} (hi : i < j) {d : od_} (hk : ook_ d) {m m1 : fm_} (h : orm_ i d m) (hf : ∀ a k, 122 ≤ a → lwj_ j a k → gi_ m1 a k = gi_ m a k) : orm_ i d m1 := by
  obtain ⟨c1, c2, c3, c4, c5, c6, c7⟩ := h
  have hl6 := hk.1
  refine ⟨(hf _ _ (by omega) (by unfold lwj_; omega)).trans c1, (hf _ _ (by omega) (by unfold lwj_; omega)).trans c2, (hf _ _ (by omega) (by unfold lwj_; omega)).trans c3, (hf _ _ (by omega) (by unfold lwj_; omega)).trans c4, fun l q hl => ?_, oml_o hi (by omega) c6 hf, oml_o hi (by omega) c7 hf⟩
  have := (List.getElem?_eq_some_iff.mp hl).1
  exact ⟨(hf _ _ (by omega) (by unfold lwj_; omega)).trans (c5 l q hl).1, cmd_o hi (by omega) (c5 l q hl).2 hf⟩
