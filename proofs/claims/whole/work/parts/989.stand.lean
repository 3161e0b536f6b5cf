/-! ===== the reference at its tokens ===== -/
def rfw_ : List (Nat × Nat × Nat) := [(106, 106, 10), (106, 106, 3), (106, 106, 4), (106, 106, 5), (106, 106, 7), (106, 106, 8), (106, 106, 9)]
def rsn_ (L : List Nat) (ts : List tkn_) (m : fm_) : Prop := rsa_ L ts m ∧ (gi_ m 106 2 = nI 0 ∧ gi_ m 106 3 = -1) ∧ wts_ ts ∧ bm9_ L m
def flm_ (f : Nat × Nat) (m : fm_) : Prop := gi_ m 106 2 = nI f.1 ∧ gi_ m 106 3 = nI f.2 ∧ 1 ≤ f.1 ∧ f.1 < 10
theorem rsa_fr {w : List (Nat × Nat × Nat)} {L : List Nat} {ts : List tkn_} {m m1 : fm_} (h : rsa_ L ts m) (hs : sa_ w m m1) (hd : dj_ [(106, 106, 5), (106, 106, 7), (106, 106, 8), (106, 106, 9), (106, 106, 10)] w = true) : rsa_ L ts m1 := by
  obtain ⟨t, r, h1, h2, h3, h4, h5, i, h6, h7⟩ := h
  have hg := sa_ag hd hs
  refine ⟨t, r, h1, (hg 106 7 (by rfl)).1.trans h2, fun q => (hg 106 8 (by rfl)).1.trans (h3 q), (hg 106 6 (by rfl)).1.trans h4, fun q k hk => ?_, i, (hg 106 4 (by rfl)).1.trans h6, h7⟩
  rw [(hg 106 9 (by rfl)).2]
  exact h5 q k hk
theorem rsn_fr {w : List (Nat × Nat × Nat)} {L : List Nat} {ts : List tkn_} {m m1 : fm_} (h : rsn_ L ts m) (hs : sa_ w m m1) (hd : dj_ [(106, 106, 5), (106, 106, 7), (106, 106, 8), (106, 106, 9), (106, 106, 10)] w = true) (hd2 : dj_ [(106, 106, 3), (106, 106, 4)] w = true) (hd3 : dj_ [(106, 106, 6), (107, 107, 0)] w = true) : rsn_ L ts m1 := ⟨rsa_fr h.1 hs hd, ⟨((sa_ag hd2 hs) 106 2 (by rfl)).1.trans h.2.1.1, ((sa_ag hd2 hs) 106 3 (by rfl)).1.trans h.2.1.2⟩, h.2.2.1, bm9_fr h.2.2.2 hs hd3⟩
theorem nxs_m {L : List Nat} {t : tkn_} {r : List tkn_} {m : fm_} (h : rsn_ L (t :: r) m) (h2 : 2 ≤ t.1) : ∃ m1, f_X12_next m = some (0, m1) ∧ rsn_ L r m1 ∧ sa_ rfw_ m m1 := by
  obtain ⟨⟨t1, r1, e, h3, h4, h5, h6, i, h7, h8, h9⟩, hf, hw, hb⟩ := h
  injection e with e1 e2
  subst e1
  subst e2
  rw [if_neg (by omega)] at h9
  obtain ⟨m1, q1, q2⟩ := next_m hb h8 h7 h9
  have s := fr_X12_next q1
  exact ⟨m1, q1, ⟨q2, ⟨(sa_gi s (by rfl)).trans hf.1, (sa_gi s (by rfl)).trans hf.2⟩, wts_t hw h2, bm9_fr hb s (by rfl)⟩, sa_up (by rfl) s⟩
theorem srk_b {k : Nat} (h : k < 128) : srk_ k < 128 := by
  unfold srk_
  by_cases c1 : k = 1
  · rw [if_pos c1]; omega
  · rw [if_neg c1]
    by_cases c2 : k = 4 ∨ 100 ≤ k
    · rw [if_pos c2]; omega
    · rw [if_neg c2]; exact h
/-- a sort that is not a word's or a bad one's is its kind -/
theorem srk_e {k j : Nat} (h1 : ¬ j = 1) (h4 : ¬ j = 4) (hj : j < 100) : srk_ k = j ↔ k = j := by
  unfold srk_
  by_cases c1 : k = 1
  · rw [if_pos c1]; omega
  · rw [if_neg c1]
    by_cases c2 : k = 4 ∨ 100 ≤ k
    · rw [if_pos c2]; omega
    · rw [if_neg c2]
theorem srk_4 {k : Nat} : srk_ k = 4 ↔ k = 1 := by
  unfold srk_
  by_cases c1 : k = 1
  · rw [if_pos c1]; omega
  · rw [if_neg c1]
    by_cases c2 : k = 4 ∨ 100 ≤ k
    · rw [if_pos c2]; omega
    · rw [if_neg c2]; omega
theorem srk_w {k : Nat} (h : 100 ≤ k) : srk_ k = 1 := by
  unfold srk_
  rw [if_neg (by omega), if_pos (by omega)]
theorem rsn_h {L : List Nat} {t : tkn_} {r : List tkn_} {m : fm_} (h : rsn_ L (t :: r) m) : gi_ m 106 6 = nI (srk_ t.1) ∧ (t.1 = 2 ∨ t.1 = 3 → gi_ m 106 8 = nI t.2.1) ∧ gi_ m 106 7 = nI t.2.2 ∧ gi_ m 106 2 = nI 0 ∧ t.1 < 128 ∧ t.2.1 < 10000 ∧ (srk_ t.1 = 1 → ∀ k, k < 23 → (gl_ m 106 9 = Int64.ofNat (pkw_ (wdn_ k) 0) ↔ t.1 = kd_ k)) := by
  obtain ⟨⟨t1, r1, e, h3, h4, h5, h6, _⟩, hf, hw, hb⟩ := h
  injection e with e1 e2
  subst e1
  exact ⟨h5, h4, h3, hf.1, hw.1, hw.2.1, h6⟩
theorem sor_m {L : List Nat} {t : tkn_} {r : List tkn_} {m : fm_} (h : rsn_ L (t :: r) m) {j : Nat} (h1 : ¬ j = 1) (h4 : ¬ j = 4) (hj : j < 100) : gi_ m 106 6 = nI j ↔ t.1 = j := by
  have hh := rsn_h h
  have := srk_b hh.2.2.2.2.1
  rw [hh.1]
  exact ⟨fun q => (srk_e h1 h4 hj).mp ((nI_eq (by omega) (by omega)).mp q), fun q => by rw [(srk_e h1 h4 hj).mpr q]⟩
theorem isw_m {L : List Nat} {t : tkn_} {r : List tkn_} {m : fm_} (h : rsn_ L (t :: r) m) {k : Nat} (hk : k < 23) {c : Int64} (hc : c = Int64.ofNat (pkw_ (wdn_ k) 0)) : f_X12_isWord c m = some (b01_ (decide (t.1 = kd_ k)), m) := by
  have hh := rsn_h h
  have hb := srk_b hh.2.2.2.2.1
  have hkd : ∀ k, k < 23 → 100 ≤ kd_ k := by decide
  have hkd := hkd k hk
  unfold f_X12_isWord
  rw [hh.1]
  by_cases c1 : srk_ t.1 = 1
  · rw [if_pos (show nI (srk_ t.1) = 1 by rw [c1]; rfl)]
    have := hh.2.2.2.2.2.2 c1 k hk
    rw [← hc] at this
    by_cases c2 : t.1 = kd_ k
    · rw [if_pos ((lg_cmp_eq _ _).mpr (this.mpr c2)), decide_eq_true c2]
      rfl
    · rw [if_neg (fun q => c2 (this.mp ((lg_cmp_eq _ _).mp q))), decide_eq_false c2]
      rfl
  · rw [if_neg (show ¬ nI (srk_ t.1) = 1 from show ¬ nI (srk_ t.1) = nI 1 from fun q => c1 ((nI_eq (by omega) (by omega)).mp q)), decide_eq_false (fun q => c1 (srk_w (by omega)))]
    rfl
theorem wrg_m {L : List Nat} {t : tkn_} {r : List tkn_} {m : fm_} (h : rsn_ L (t :: r) m) {c : Nat} (hc : 1 ≤ c) (hc2 : c < 10) : ∃ m1, f_X12_wrong (nI c) m = some (0, m1) ∧ flm_ (flt_ c t) m1 ∧ sa_ rfw_ m m1 ∧ gi_ m1 106 8 = gi_ m 106 8 := by
  have hh := rsn_h h
  have hb := srk_b hh.2.2.2.2.1
  have h2 : gi_ m 106 2 = 0 := hh.2.2.2.1
  unfold f_X12_wrong flt_ flm_
  rw [h2, hh.1, hh.2.2.1, if_pos (show (0 : Int32) ≤ 0 by decide)]
  by_cases c1 : t.1 = 1
  · rw [if_pos c1, if_pos (show nI (srk_ t.1) = 4 by rw [srk_4.mpr c1]; rfl)]
    refine ⟨_, rfl, ⟨?_, gi_si_self, by show 1 ≤ 1; omega, by show 1 < 10; omega⟩, sa_si (by rfl) (sa_si (by rfl) sa_rf), ?_⟩
    · rw [gi_si_ne (by omega), gi_si_self]; rfl
    · rw [gi_si_ne (by omega), gi_si_ne (by omega)]
  · rw [if_neg c1, if_neg (show ¬ nI (srk_ t.1) = 4 from show ¬ nI (srk_ t.1) = nI 4 from fun q => c1 (srk_4.mp ((nI_eq (by omega) (by omega)).mp q)))]
    refine ⟨_, rfl, ⟨?_, gi_si_self, hc, hc2⟩, sa_si (by rfl) (sa_si (by rfl) sa_rf), ?_⟩
    · rw [gi_si_ne (by omega), gi_si_self]
    · rw [gi_si_ne (by omega), gi_si_ne (by omega)]
theorem flm_g {f : Nat × Nat} {m : fm_} (h : flm_ f m) : ¬ gi_ m 106 2 ≤ 0 ∧ ¬ gi_ m 106 2 = 0 := by
  rw [h.1]
  have h3 := h.2.2
  exact ⟨show ¬ nI f.1 ≤ nI 0 from nI_ge (by omega) (by omega), show ¬ nI f.1 = nI 0 from fun q => by have := (nI_eq (by omega) (by omega)).mp q; omega⟩
theorem rsn_g {L : List Nat} {ts : List tkn_} {m : fm_} (h : rsn_ L ts m) : gi_ m 106 2 ≤ 0 ∧ gi_ m 106 2 = 0 := by
  rw [h.2.1.1]
  exact ⟨by decide, rfl⟩
/-! behind a fault nothing is done -/
theorem wnt_f {f : Nat × Nat} {m : fm_} (h : flm_ f m) (c : Int64) : f_X12_wantWord c m = some (0, m) := by
  unfold f_X12_wantWord
  rw [if_neg (flm_g h).1]
theorem tld_f {f : Nat × Nat} {m : fm_} (h : flm_ f m) (a b : Int32) : f_X12_told a b m = some (0, m) := by
  unfold f_X12_told
  rw [if_neg (flm_g h).1]
theorem pnt_f {f : Nat × Nat} {m : fm_} (h : flm_ f m) (a : Int32) : f_X12_point a m = some (0, m) := by
  unfold f_X12_point
  rw [if_neg (flm_g h).1]
theorem wen_f {f : Nat × Nat} {m : fm_} (h : flm_ f m) : f_X12_wantEnd m = some (0, m) := by
  unfold f_X12_wantEnd
  rw [if_neg (flm_g h).1]
theorem wrg_f {f : Nat × Nat} {m : fm_} (h : flm_ f m) (a : Int32) : f_X12_wrong a m = some (0, m) := by
  unfold f_X12_wrong
  rw [if_neg (flm_g h).1]
theorem flm_fr {w : List (Nat × Nat × Nat)} {f : Nat × Nat} {m m1 : fm_} (h : flm_ f m) (hs : sa_ w m m1) (hd : dj_ [(106, 106, 3), (106, 106, 4)] w = true) : flm_ f m1 := by
  have hg := sa_ag hd hs
  exact ⟨(hg 106 2 (by rfl)).1.trans h.1, (hg 106 3 (by rfl)).1.trans h.2.1, h.2.2⟩
theorem wnt_m {L : List Nat} {ts : List tkn_} {m : fm_} (h : rsn_ L ts m) {k : Nat} (hk : k < 23) {c : Int64} (hc : c = Int64.ofNat (pkw_ (wdn_ k) 0)) : (∃ f m1, tqk_ (kd_ k) ts = .inl f ∧ f_X12_wantWord c m = some (0, m1) ∧ flm_ f m1 ∧ sa_ rfw_ m m1) ∨ (∃ r m1, tqk_ (kd_ k) ts = .inr r ∧ f_X12_wantWord c m = some (0, m1) ∧ rsn_ L r m1 ∧ sa_ rfw_ m m1) := by
  cases ts with
  | nil => exact absurd h.2.2.1 id
  | cons t r =>
    have hkd : ∀ k, k < 23 → 100 ≤ kd_ k := by decide
    have hkd := hkd k hk
    unfold f_X12_wantWord
    rw [tqk_l]
    rw [if_pos (rsn_g h).1, isw_m h hk hc, Option.bind_some]
    by_cases c1 : t.1 = kd_ k
    · obtain ⟨m1, e1, e2, e3⟩ := nxs_m h (by omega)
      refine Or.inr ⟨r, m1, if_pos c1, ?_, e2, e3⟩
      rw [decide_eq_true c1, if_neg (show ¬ b01_ true = 0 by decide), e1]
      rfl
    · obtain ⟨m1, e1, e2, e3, _⟩ := wrg_m h (c := 2) (by omega) (by omega)
      have e1 : f_X12_wrong 2 m = some (0, m1) := e1
      refine Or.inl ⟨_, m1, if_neg c1, ?_, e2, e3⟩
      rw [decide_eq_false c1, if_pos (show b01_ false = 0 by decide), e1]
      rfl
theorem wen_m {L : List Nat} {ts : List tkn_} {m : fm_} (h : rsn_ L ts m) : (∃ f m1, tqk_ 59 ts = .inl f ∧ f_X12_wantEnd m = some (0, m1) ∧ flm_ f m1 ∧ sa_ rfw_ m m1) ∨ (∃ r m1, tqk_ 59 ts = .inr r ∧ f_X12_wantEnd m = some (0, m1) ∧ rsn_ L r m1 ∧ sa_ rfw_ m m1) := by
  cases ts with
  | nil => exact absurd h.2.2.1 id
  | cons t r =>
    have hs := sor_m h (j := 59) (by omega) (by omega) (by omega)
    unfold f_X12_wantEnd
    rw [tqk_l]
    rw [if_pos (rsn_g h).1]
    by_cases c1 : t.1 = 59
    · obtain ⟨m1, e1, e2, e3⟩ := nxs_m h (by omega)
      refine Or.inr ⟨r, m1, if_pos c1, ?_, e2, e3⟩
      rw [if_pos (show gi_ m 106 6 = 59 from hs.mpr c1), e1]
      rfl
    · obtain ⟨m1, e1, e2, e3, _⟩ := wrg_m h (c := 2) (by omega) (by omega)
      have e1 : f_X12_wrong 2 m = some (0, m1) := e1
      refine Or.inl ⟨_, m1, if_neg c1, ?_, e2, e3⟩
      rw [if_neg (show ¬ gi_ m 106 6 = 59 from fun q => c1 (hs.mp q)), e1]
      rfl
theorem tld_m {L : List Nat} {ts : List tkn_} {m : fm_} (h : rsn_ L ts m) {lo hi : Nat} (hl : lo ≤ 1500) (hh : hi ≤ 1500) : (∃ f x m1, tqn_ lo hi ts = .inl f ∧ f_X12_told (nI lo) (nI hi) m = some (x, m1) ∧ flm_ f m1 ∧ sa_ rfw_ m m1) ∨ (∃ v r m1, tqn_ lo hi ts = .inr (v, r) ∧ lo ≤ v ∧ v ≤ hi ∧ f_X12_told (nI lo) (nI hi) m = some (nI v, m1) ∧ rsn_ L r m1 ∧ sa_ rfw_ m m1) := by
  cases ts with
  | nil => exact absurd h.2.2.1 id
  | cons t r =>
    have hs := sor_m h (j := 2) (by omega) (by omega) (by omega)
    have hq := rsn_h h
    unfold f_X12_told
    rw [tqn_l]
    rw [if_pos (rsn_g h).1]
    by_cases c : t.1 = 2
    · have g8 := hq.2.1 (Or.inl c)
      have hv := hq.2.2.2.2.2.1
      rw [if_pos c, if_pos (show gi_ m 106 6 = 2 from hs.mpr c), g8]
      by_cases c1 : t.2.1 < lo
      · obtain ⟨m1, e1, e2, e3, _⟩ := wrg_m h (c := 4) (by omega) (by omega)
        have e1 : f_X12_wrong 4 m = some (0, m1) := e1
        refine Or.inl ⟨_, gi_ m1 106 8, m1, if_pos (Or.inl c1), ?_, e2, e3⟩
        rw [if_pos (nI_lt c1 (by omega)), e1, Option.bind_some, if_neg (flm_g e2).2]
      · rw [if_neg (nI_nlt (by omega) (by omega))]
        by_cases c2 : hi < t.2.1
        · obtain ⟨m1, e1, e2, e3, _⟩ := wrg_m h (c := 4) (by omega) (by omega)
          have e1 : f_X12_wrong 4 m = some (0, m1) := e1
          refine Or.inl ⟨_, gi_ m1 106 8, m1, if_pos (Or.inr c2), ?_, e2, e3⟩
          rw [if_neg (nI_ge c2 (by omega)), e1, Option.bind_some, if_neg (flm_g e2).2]
        · obtain ⟨m1, e1, e2, e3⟩ := nxs_m h (by omega)
          refine Or.inr ⟨t.2.1, r, m1, if_neg (by omega), by omega, by omega, ?_, e2, e3⟩
          rw [if_pos (nI_le (by omega) (by omega)), if_pos (rsn_g h).2, e1]
          rfl
    · obtain ⟨m1, e1, e2, e3, _⟩ := wrg_m h (c := 2) (by omega) (by omega)
      have e1 : f_X12_wrong 2 m = some (0, m1) := e1
      refine Or.inl ⟨_, gi_ m1 106 8, m1, if_neg c, ?_, e2, e3⟩
      rw [if_neg (show ¬ gi_ m 106 6 = 2 from fun q => c (hs.mp q)), e1, Option.bind_some, if_neg (flm_g e2).2]
theorem pnt_m {L : List Nat} {ts : List tkn_} {m : fm_} (h : rsn_ L ts m) {z : Nat} (hz : z < 4096) : (∃ f x m1, tqp_ z ts = .inl f ∧ f_X12_point (nI z) m = some (x, m1) ∧ flm_ f m1 ∧ sa_ rfw_ m m1) ∨ (∃ v r m1, tqp_ z ts = .inr (v, r) ∧ v < 12 ∧ ¬ bb_ z v = 1 ∧ f_X12_point (nI z) m = some (nI v, m1) ∧ rsn_ L r m1 ∧ sa_ rfw_ m m1) := by
  cases ts with
  | nil => exact absurd h.2.2.1 id
  | cons t r =>
    have hs := sor_m h (j := 3) (by omega) (by omega) (by omega)
    have hq := rsn_h h
    unfold f_X12_point
    rw [tqp_l]
    rw [if_pos (rsn_g h).1]
    by_cases c : t.1 = 3
    · have g8 := hq.2.1 (Or.inr c)
      have hv := h.2.2.1.2.2.2.1 c
      have eb : (nI z >>> (nI t.2.1 &&& 31)) &&& 1 = nI (bb_ z t.2.1) := bb_eq (by omega) (by omega)
      rw [if_pos c, if_pos (show gi_ m 106 6 = 3 from hs.mpr c), g8, eb]
      by_cases c1 : bb_ z t.2.1 = 1
      · obtain ⟨m1, e1, e2, e3, _⟩ := wrg_m h (c := 5) (by omega) (by omega)
        have e1 : f_X12_wrong 5 m = some (0, m1) := e1
        refine Or.inl ⟨_, gi_ m1 106 8, m1, if_pos c1, ?_, e2, e3⟩
        rw [if_pos (show nI (bb_ z t.2.1) = 1 by rw [c1]; rfl), e1, Option.bind_some, if_neg (flm_g e2).2]
      · obtain ⟨m1, e1, e2, e3⟩ := nxs_m h (by omega)
        refine Or.inr ⟨t.2.1, r, m1, if_neg c1, hv, c1, ?_, e2, e3⟩
        have := bb_lt z t.2.1
        rw [if_neg (show ¬ nI (bb_ z t.2.1) = 1 from show ¬ nI (bb_ z t.2.1) = nI 1 from fun q => c1 ((nI_eq (by omega) (by omega)).mp q)), if_pos (rsn_g h).2, e1]
        rfl
    · obtain ⟨m1, e1, e2, e3, _⟩ := wrg_m h (c := 2) (by omega) (by omega)
      have e1 : f_X12_wrong 2 m = some (0, m1) := e1
      refine Or.inl ⟨_, gi_ m1 106 8, m1, if_neg c, ?_, e2, e3⟩
      rw [if_neg (show ¬ gi_ m 106 6 = 3 from fun q => c (hs.mp q)), e1, Option.bind_some, if_neg (flm_g e2).2]
