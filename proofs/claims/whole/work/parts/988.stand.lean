/-! ===== both stand at the same tokens ===== -/
def wts_ : List tkn_ → Prop
  | [] => False
  | t :: r => t.1 < 128 ∧ t.2.1 < 10000 ∧ t.2.2 ≤ 900 ∧ (t.1 = 3 → t.2.1 < 12) ∧ (if t.1 ≤ 1 then r = [] else wts_ r)
theorem Tk_w {L : List Nat} (h9 : L.length ≤ 900) (hb : ∀ (j b : Nat), L[j]? = some b → b < 256) : ∀ (ts : List tkn_) (i : Nat), i ≤ 900 → Tk_ L ts i → wts_ ts
  | [], _, _, h => h
  | t :: r, i, hi, h => by
    obtain ⟨ht, hr⟩ := h
    have hs := sk_9 h9 hi
    cases hl : L.drop (sk_ L i) with
    | nil =>
      rw [hl] at ht
      subst ht
      have hr : r = [] := hr
      exact ⟨by show 0 < 128; omega, by show 0 < 10000; omega, hs, fun e => (by cases e), hr⟩
    | cons b r1 =>
      obtain ⟨k1, k2, k3⟩ := drop_p hl
      have hrl : r1.length = L.length - (sk_ L i + 1) := by rw [← k2, List.length_drop]
      rw [hl] at ht hr
      rcases scn_p b r1 (hb _ b k1) with ⟨q1, q2, q3⟩ | ⟨q1, q2, q3, q4, q5, q6⟩
      · subst ht
        rw [q1] at hr
        rw [if_pos (show (1 : Nat) ≤ 1 by omega)] at hr
        refine ⟨by show (scn_ _).1 < 128; omega, by show (scn_ _).2.1 < 10000; omega, hs, fun e => ?_, ?_⟩
        · have e : (scn_ (b :: r1)).1 = 3 := e
          omega
        · rw [if_pos (show (scn_ (b :: r1)).1 ≤ 1 by omega)]; exact hr
      · subst ht
        rw [if_neg (show ¬ (scn_ (b :: r1)).1 ≤ 1 by omega)] at hr
        refine ⟨q2, q3, hs, q6, ?_⟩
        rw [if_neg (show ¬ (scn_ (b :: r1)).1 ≤ 1 by omega)]
        exact Tk_w h9 hb r _ (by omega) hr
theorem wts_t {t : tkn_} {r : List tkn_} (h : wts_ (t :: r)) (h2 : 2 ≤ t.1) : wts_ r := by
  have := h.2.2.2.2
  rw [if_neg (by omega)] at this
  exact this
theorem wts_c {t : tkn_} {r : List tkn_} (h : wts_ (t :: r)) (h2 : 2 ≤ t.1) : ∃ u r1, r = u :: r1 := by
  have := wts_t h h2
  cases r with
  | nil => exact absurd this id
  | cons u r1 => exact ⟨u, r1, rfl⟩
def flt_ (c : Nat) (t : tkn_) : Nat × Nat := (if t.1 = 1 then 1 else c, t.2.2)
def tqk_ (k : Nat) : List tkn_ → Sum (Nat × Nat) (List tkn_)
  | [] => .inl (1, 0)
  | t :: r => if t.1 = k then .inr r else .inl (flt_ 2 t)
def tqn_ (lo hi : Nat) : List tkn_ → Sum (Nat × Nat) (Nat × List tkn_)
  | [] => .inl (1, 0)
  | t :: r => if t.1 = 2 then (if t.2.1 < lo ∨ hi < t.2.1 then .inl (flt_ 4 t) else .inr (t.2.1, r)) else .inl (flt_ 2 t)
def tqp_ (z : Nat) : List tkn_ → Sum (Nat × Nat) (Nat × List tkn_)
  | [] => .inl (1, 0)
  | t :: r => if t.1 = 3 then (if bb_ z t.2.1 = 1 then .inl (flt_ 5 t) else .inr (t.2.1, r)) else .inl (flt_ 2 t)
theorem tqk_l {k : Nat} {t : tkn_} {r : List tkn_} : tqk_ k (t :: r) = if t.1 = k then .inr r else .inl (flt_ 2 t) := rfl
theorem tqn_l {lo hi : Nat} {t : tkn_} {r : List tkn_} : tqn_ lo hi (t :: r) = if t.1 = 2 then (if t.2.1 < lo ∨ hi < t.2.1 then .inl (flt_ 4 t) else .inr (t.2.1, r)) else .inl (flt_ 2 t) := rfl
theorem tqp_l {z : Nat} {t : tkn_} {r : List tkn_} : tqp_ z (t :: r) = if t.1 = 3 then (if bb_ z t.2.1 = 1 then .inl (flt_ 5 t) else .inr (t.2.1, r)) else .inl (flt_ 2 t) := rfl
/-! the class -/
def tfw_ : List (Nat × Nat × Nat) := [(1, 1, 7), (1, 1, 8), (1, 1, 9)]
def csa_ (ts : List tkn_) (m : fm_) : Prop := ∃ dn : List tkn_, tkr_ (dn ++ ts) m ∧ gi_ m 1 6 = nI dn.length ∧ (dn ++ ts).length ≤ 901
def csn_ (ts : List tkn_) (m : fm_) : Prop := csa_ ts m ∧ (gi_ m 1 7 = nI 0 ∧ gi_ m 1 8 = -1) ∧ wts_ ts
def flc_ (f : Nat × Nat) (m : fm_) : Prop := gi_ m 1 7 = nI f.1 ∧ gi_ m 1 8 = nI f.2
theorem csa_fr {w : List (Nat × Nat × Nat)} {ts : List tkn_} {m m1 : fm_} (h : csa_ ts m) (hs : sa_ w m m1) (hd : dj_ [(1, 1, 6), (1, 1, 7), (3, 5, 0)] w = true) : csa_ ts m1 := by
  obtain ⟨dn, ⟨h1, h2⟩, h3, h4⟩ := h
  have hg := sa_ag hd hs
  have w3 : ∀ a j, 3 ≤ a → a ≤ 5 → gi_ m1 a j = gi_ m a j := fun a j q1 q2 => (hg a j (wi_r (q := (3, 5, 0)) (by simp) q1 q2 (Or.inl rfl))).1
  refine ⟨dn, ⟨(hg 1 5 (by rfl)).1.trans h1, fun j t hj => ?_⟩, (hg 1 6 (by rfl)).1.trans h3, h4⟩
  obtain ⟨k1, k2, k3⟩ := h2 j t hj
  exact ⟨(w3 3 j (by omega) (by omega)).trans k1, (w3 4 j (by omega) (by omega)).trans k2, (w3 5 j (by omega) (by omega)).trans k3⟩
theorem csn_fr {w : List (Nat × Nat × Nat)} {ts : List tkn_} {m m1 : fm_} (h : csn_ ts m) (hs : sa_ w m m1) (hd : dj_ [(1, 1, 6), (1, 1, 7), (3, 5, 0)] w = true) (hd2 : dj_ [(1, 1, 8), (1, 1, 9)] w = true) : csn_ ts m1 := ⟨csa_fr h.1 hs hd, ⟨((sa_ag hd2 hs) 1 7 (by rfl)).1.trans h.2.1.1, ((sa_ag hd2 hs) 1 8 (by rfl)).1.trans h.2.1.2⟩, h.2.2⟩
theorem app_g {dn : List tkn_} {t : tkn_} {r : List tkn_} : (dn ++ t :: r)[dn.length]? = some t := by
  rw [List.getElem?_append_right (Nat.le_refl _), Nat.sub_self]
  rfl
theorem csa_3 {t : tkn_} {r : List tkn_} {m : fm_} (h : csa_ (t :: r) m) : ∃ n c, gi_ m 1 5 = nI c ∧ gi_ m 1 6 = nI n ∧ n + 1 + r.length = c ∧ c ≤ 901 ∧ gi_ m 3 n = nI t.1 ∧ gi_ m 4 n = nI t.2.1 ∧ gi_ m 5 n = nI t.2.2 := by
  obtain ⟨dn, ⟨h1, h2⟩, h3, h4⟩ := h
  obtain ⟨k1, k2, k3⟩ := h2 _ t app_g
  refine ⟨dn.length, _, h1, h3, ?_, h4, k1, k2, k3⟩
  rw [List.length_append, List.length_cons]
  omega
theorem knd_c {t : tkn_} {r : List tkn_} {m : fm_} (h : csa_ (t :: r) m) : f_X8_kind m = some (nI t.1, m) ∧ f_X8_value m = some (nI t.2.1, m) := by
  obtain ⟨n, c, h1, h2, h3, h4, k1, k2, k3⟩ := csa_3 h
  constructor
  · unfold f_X8_kind
    simp (disch := omega) only [↓reduceIte, ↓ns_m1, ns_let, ns_lef, ns_ltt, ns_ltf, ns_eqt, ns_eqf, ns_gd, nI_clamp, nI_add, pk_sub, pk_mul, ns_m1a, ns_m1b, ns_m1c, ns_m1d, ns_m1e, ns_m1f, ns_m1g, ns_un1, ns_un0, ns_day1, Option.bind_some, gi_si_self, gi_si_ne, gl_si, gi_sl, gl_sl_self, gl_sl_ne, if_true, if_false, ns_i0, ns_i1, ns_i2, ns_i3, ns_i4, ns_i5, ns_i6, ns_i7, ns_i8, ns_i9, ns_i10, ns_i11, ns_i12, ns_i13, ns_i20, ns_i23, ns_i24, ns_i31, ns_i50, ns_i60, ns_i99, ns_i100, ns_i144, ns_i200, ns_i255, ns_i700, ns_i880, ns_i899, ns_i900, ns_i901, ns_i999, ns_i1000, ns_i1440, ns_i4095, ns_i1000000, h1, h2, k1]
  · unfold f_X8_value
    simp (disch := omega) only [↓reduceIte, ↓ns_m1, ns_let, ns_lef, ns_ltt, ns_ltf, ns_eqt, ns_eqf, ns_gd, nI_clamp, nI_add, pk_sub, pk_mul, ns_m1a, ns_m1b, ns_m1c, ns_m1d, ns_m1e, ns_m1f, ns_m1g, ns_un1, ns_un0, ns_day1, Option.bind_some, gi_si_self, gi_si_ne, gl_si, gi_sl, gl_sl_self, gl_sl_ne, if_true, if_false, ns_i0, ns_i1, ns_i2, ns_i3, ns_i4, ns_i5, ns_i6, ns_i7, ns_i8, ns_i9, ns_i10, ns_i11, ns_i12, ns_i13, ns_i20, ns_i23, ns_i24, ns_i31, ns_i50, ns_i60, ns_i99, ns_i100, ns_i144, ns_i200, ns_i255, ns_i700, ns_i880, ns_i899, ns_i900, ns_i901, ns_i999, ns_i1000, ns_i1440, ns_i4095, ns_i1000000, h1, h2, k2]
theorem stp_c {t u : tkn_} {r : List tkn_} {m : fm_} (h : csa_ (t :: u :: r) m) : ∃ m1, f_X8_step m = some (0, m1) ∧ csa_ (u :: r) m1 ∧ sa_ [(1, 1, 7)] m m1 := by
  obtain ⟨dn, ⟨h1, h2⟩, h3, h4⟩ := h
  have s1 : sa_ [(1, 1, 7)] m (si_ m 1 6 (nI (dn.length + 1))) := sa_si (by rfl) sa_rf
  have el : dn ++ [t] ++ u :: r = dn ++ t :: u :: r := by rw [List.append_assoc]; rfl
  refine ⟨si_ m 1 6 (nI (dn.length + 1)), ?_, ⟨dn ++ [t], ?_, ?_, ?_⟩, s1⟩
  · rw [List.length_append, List.length_cons, List.length_cons] at h1 h4
    unfold f_X8_step
    simp (disch := omega) only [↓reduceIte, ↓ns_m1, ns_let, ns_lef, ns_ltt, ns_ltf, ns_eqt, ns_eqf, ns_gd, nI_clamp, nI_add, pk_sub, pk_mul, ns_m1a, ns_m1b, ns_m1c, ns_m1d, ns_m1e, ns_m1f, ns_m1g, ns_un1, ns_un0, ns_day1, Option.bind_some, gi_si_self, gi_si_ne, gl_si, gi_sl, gl_sl_self, gl_sl_ne, if_true, if_false, ns_i0, ns_i1, ns_i2, ns_i3, ns_i4, ns_i5, ns_i6, ns_i7, ns_i8, ns_i9, ns_i10, ns_i11, ns_i12, ns_i13, ns_i20, ns_i23, ns_i24, ns_i31, ns_i50, ns_i60, ns_i99, ns_i100, ns_i144, ns_i200, ns_i255, ns_i700, ns_i880, ns_i899, ns_i900, ns_i901, ns_i999, ns_i1000, ns_i1440, ns_i4095, ns_i1000000, h1, h3]
  · rw [el]
    exact ⟨(sa_gi s1 (by rfl)).trans h1, fun j t hj => ⟨(sa_gi s1 (by rfl)).trans (h2 j t hj).1, (sa_gi s1 (by rfl)).trans (h2 j t hj).2.1, (sa_gi s1 (by rfl)).trans (h2 j t hj).2.2⟩⟩
  · rw [gi_si_self, List.length_append]; rfl
  · rw [el]; exact h4
theorem stn_c {t : tkn_} {r : List tkn_} {m : fm_} (h : csn_ (t :: r) m) (h2 : 2 ≤ t.1) : ∃ m1, f_X8_step m = some (0, m1) ∧ csn_ r m1 ∧ sa_ tfw_ m m1 := by
  obtain ⟨u, r1, e⟩ := wts_c h.2.2 h2
  subst e
  obtain ⟨m1, e1, e2, e3⟩ := stp_c h.1
  exact ⟨m1, e1, ⟨e2, ⟨(sa_gi e3 (by rfl)).trans h.2.1.1, (sa_gi e3 (by rfl)).trans h.2.1.2⟩, wts_t h.2.2 h2⟩, sa_up (by rfl) e3⟩
theorem fai_c {t : tkn_} {r : List tkn_} {m : fm_} (h : csn_ (t :: r) m) (c : Nat) : ∃ m1, f_X8_fail (nI c) m = some (0, m1) ∧ flc_ (flt_ c t) m1 ∧ sa_ tfw_ m m1 := by
  have ht := h.2.2.1
  have h7 := h.2.1.1
  obtain ⟨n, l, h1, h2, h3, h4, k1, k2, k3⟩ := csa_3 h.1
  unfold f_X8_fail flt_ flc_
  by_cases c1 : t.1 = 1
  · rw [if_pos c1]
    refine ⟨si_ (si_ m 1 7 (nI 1)) 1 8 (nI t.2.2), ?_, ⟨?_, gi_si_self⟩, sa_si (by rfl) (sa_si (by rfl) sa_rf)⟩
    · simp (disch := omega) only [↓reduceIte, ↓ns_m1, ns_let, ns_lef, ns_ltt, ns_ltf, ns_eqt, ns_eqf, ns_gd, nI_clamp, nI_add, pk_sub, pk_mul, ns_m1a, ns_m1b, ns_m1c, ns_m1d, ns_m1e, ns_m1f, ns_m1g, ns_un1, ns_un0, ns_day1, Option.bind_some, gi_si_self, gi_si_ne, gl_si, gi_sl, gl_sl_self, gl_sl_ne, if_true, if_false, ns_i0, ns_i1, ns_i2, ns_i3, ns_i4, ns_i5, ns_i6, ns_i7, ns_i8, ns_i9, ns_i10, ns_i11, ns_i12, ns_i13, ns_i20, ns_i23, ns_i24, ns_i31, ns_i50, ns_i60, ns_i99, ns_i100, ns_i144, ns_i200, ns_i255, ns_i700, ns_i880, ns_i899, ns_i900, ns_i901, ns_i999, ns_i1000, ns_i1440, ns_i4095, ns_i1000000, h7, h1, h2, k1, k3]
    · rw [gi_si_ne (by omega), gi_si_self]
  · rw [if_neg c1]
    refine ⟨si_ (si_ m 1 7 (nI c)) 1 8 (nI t.2.2), ?_, ⟨?_, gi_si_self⟩, sa_si (by rfl) (sa_si (by rfl) sa_rf)⟩
    · simp (disch := omega) only [↓reduceIte, ↓ns_m1, ns_let, ns_lef, ns_ltt, ns_ltf, ns_eqt, ns_eqf, ns_gd, nI_clamp, nI_add, pk_sub, pk_mul, ns_m1a, ns_m1b, ns_m1c, ns_m1d, ns_m1e, ns_m1f, ns_m1g, ns_un1, ns_un0, ns_day1, Option.bind_some, gi_si_self, gi_si_ne, gl_si, gi_sl, gl_sl_self, gl_sl_ne, if_true, if_false, ns_i0, ns_i1, ns_i2, ns_i3, ns_i4, ns_i5, ns_i6, ns_i7, ns_i8, ns_i9, ns_i10, ns_i11, ns_i12, ns_i13, ns_i20, ns_i23, ns_i24, ns_i31, ns_i50, ns_i60, ns_i99, ns_i100, ns_i144, ns_i200, ns_i255, ns_i700, ns_i880, ns_i899, ns_i900, ns_i901, ns_i999, ns_i1000, ns_i1440, ns_i4095, ns_i1000000, h7, h1, h2, k1, k3]
    · rw [gi_si_ne (by omega), gi_si_self]
theorem tak_c {ts : List tkn_} {m : fm_} (h : csn_ ts m) {k : Nat} (hk : 2 ≤ k) (hk2 : k < 128) : (∃ f m1, tqk_ k ts = .inl f ∧ f_X8_take (nI k) m = some (nI 0, m1) ∧ flc_ f m1 ∧ sa_ tfw_ m m1) ∨ (∃ r m1, tqk_ k ts = .inr r ∧ f_X8_take (nI k) m = some (nI 1, m1) ∧ csn_ r m1 ∧ sa_ tfw_ m m1) := by
  cases ts with
  | nil => exact absurd h.2.2 id
  | cons t r =>
    have ht := h.2.2.1
    unfold f_X8_take
    rw [tqk_l]
    rw [(knd_c h.1).1, Option.bind_some]
    by_cases c : t.1 = k
    · obtain ⟨m1, e1, e2, e3⟩ := stn_c h (by omega)
      refine Or.inr ⟨r, m1, if_pos c, ?_, e2, e3⟩
      rw [if_pos (show nI t.1 = nI k by rw [c]), e1]
      rfl
    · obtain ⟨m1, e1, e2, e3⟩ := fai_c h 2
      have e1 : f_X8_fail 2 m = some (0, m1) := e1
      refine Or.inl ⟨_, m1, if_neg c, ?_, e2, e3⟩
      rw [if_neg (show ¬ nI t.1 = nI k from fun q => c ((nI_eq (by omega) (by omega)).mp q)), e1]
      rfl
theorem tkn_c {ts : List tkn_} {m : fm_} (h : csn_ ts m) {lo hi : Nat} (hl : lo ≤ 1500) (hh : hi ≤ 1500) : (∃ f m1, tqn_ lo hi ts = .inl f ∧ f_X8_takeNumber (nI lo) (nI hi) m = some (-1, m1) ∧ flc_ f m1 ∧ sa_ tfw_ m m1) ∨ (∃ v r m1, tqn_ lo hi ts = .inr (v, r) ∧ lo ≤ v ∧ v ≤ hi ∧ f_X8_takeNumber (nI lo) (nI hi) m = some (nI v, m1) ∧ csn_ r m1 ∧ sa_ tfw_ m m1) := by
  cases ts with
  | nil => exact absurd h.2.2 id
  | cons t r =>
    have ht := h.2.2.1
    have hv := h.2.2.2.1
    unfold f_X8_takeNumber
    rw [tqn_l]
    rw [(knd_c h.1).2, Option.bind_some, (knd_c h.1).1, Option.bind_some]
    by_cases c : t.1 = 2
    · rw [if_pos c, if_pos (show nI t.1 = 2 by rw [c]; rfl)]
      by_cases c1 : t.2.1 < lo
      · obtain ⟨m1, e1, e2, e3⟩ := fai_c h 4
        have e1 : f_X8_fail 4 m = some (0, m1) := e1
        refine Or.inl ⟨_, m1, if_pos (Or.inl c1), ?_, e2, e3⟩
        rw [if_pos (nI_lt c1 (by omega)), e1]
        rfl
      · rw [if_neg (nI_nlt (by omega) (by omega))]
        by_cases c2 : hi < t.2.1
        · obtain ⟨m1, e1, e2, e3⟩ := fai_c h 4
          have e1 : f_X8_fail 4 m = some (0, m1) := e1
          refine Or.inl ⟨_, m1, if_pos (Or.inr c2), ?_, e2, e3⟩
          rw [if_neg (nI_ge c2 (by omega)), e1]
          rfl
        · obtain ⟨m1, e1, e2, e3⟩ := stn_c h (by omega)
          refine Or.inr ⟨t.2.1, r, m1, if_neg (by omega), by omega, by omega, ?_, e2, e3⟩
          rw [if_pos (nI_le (by omega) (by omega)), e1]
          rfl
    · obtain ⟨m1, e1, e2, e3⟩ := fai_c h 2
      have e1 : f_X8_fail 2 m = some (0, m1) := e1
      refine Or.inl ⟨_, m1, if_neg c, ?_, e2, e3⟩
      rw [if_neg (show ¬ nI t.1 = 2 from show ¬ nI t.1 = nI 2 from fun q => c ((nI_eq (by omega) (by omega)).mp q)), e1]
      rfl
theorem tkp_c {ts : List tkn_} {m : fm_} (h : csn_ ts m) {z : Nat} (hz : z < 4096) : (∃ f m1, tqp_ z ts = .inl f ∧ f_X8_takePoint (nI z) m = some (-1, m1) ∧ flc_ f m1 ∧ sa_ tfw_ m m1) ∨ (∃ v r m1, tqp_ z ts = .inr (v, r) ∧ v < 12 ∧ ¬ bb_ z v = 1 ∧ f_X8_takePoint (nI z) m = some (nI v, m1) ∧ csn_ r m1 ∧ sa_ tfw_ m m1) := by
  cases ts with
  | nil => exact absurd h.2.2 id
  | cons t r =>
    have ht := h.2.2.1
    have hv := h.2.2.2.2.2.1
    unfold f_X8_takePoint
    rw [tqp_l]
    rw [(knd_c h.1).2, Option.bind_some, (knd_c h.1).1, Option.bind_some]
    by_cases c : t.1 = 3
    · have hv := hv c
      have eb : (nI z >>> (nI t.2.1 &&& 31)) &&& 1 = nI (bb_ z t.2.1) := bb_eq (by omega) (by omega)
      rw [if_pos c, if_pos (show nI t.1 = 3 by rw [c]; rfl)]
      simp only [eb]
      by_cases c1 : bb_ z t.2.1 = 1
      · obtain ⟨m1, e1, e2, e3⟩ := fai_c h 5
        have e1 : f_X8_fail 5 m = some (0, m1) := e1
        refine Or.inl ⟨_, m1, if_pos c1, ?_, e2, e3⟩
        rw [if_pos (show nI (bb_ z t.2.1) = 1 by rw [c1]; rfl), e1]
        rfl
      · obtain ⟨m1, e1, e2, e3⟩ := stn_c h (by omega)
        refine Or.inr ⟨t.2.1, r, m1, if_neg c1, hv, c1, ?_, e2, e3⟩
        have := bb_lt z t.2.1
        rw [if_neg (show ¬ nI (bb_ z t.2.1) = 1 from show ¬ nI (bb_ z t.2.1) = nI 1 from fun q => c1 ((nI_eq (by omega) (by omega)).mp q)), e1]
        rfl
    · obtain ⟨m1, e1, e2, e3⟩ := fai_c h 2
      have e1 : f_X8_fail 2 m = some (0, m1) := e1
      refine Or.inl ⟨_, m1, if_neg c, ?_, e2, e3⟩
      rw [if_neg (show ¬ nI t.1 = 3 from show ¬ nI t.1 = nI 3 from fun q => c ((nI_eq (by omega) (by omega)).mp q)), e1]
      rfl
