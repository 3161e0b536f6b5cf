/-! ===== lines of a map ===== -/
def sbd_ {α β : Type} (x : Sum (Nat × Nat) α) (f : α → Sum (Nat × Nat) β) : Sum (Nat × Nat) β := match x with
  | .inl e => .inl e
  | .inr a => f a
theorem sbd_l {α β : Type} (e : Nat × Nat) (f : α → Sum (Nat × Nat) β) : sbd_ (.inl e) f = .inl e := rfl
theorem sbd_r {α β : Type} (a : α) (f : α → Sum (Nat × Nat) β) : sbd_ (.inr a) f = f a := rfl
def rway_ (w : tw_) (t : tkn_) (r : List tkn_) : Sum (Nat × Nat) (tw_ × List tkn_) := if 24 ≤ w.1.length then .inl (flt_ 2 t) else sbd_ (tqp_ 0 r) fun a => sbd_ (tqp_ (2 ^ a.1) a.2) fun b => sbd_ (tqn_ 1 99 b.2) fun c => sbd_ (tqk_ 59 c.2) fun u => .inr ((w.1 ++ [(a.1, b.1, c.1)], w.2), u)
def rzl_ : Nat → List tkn_ → Sum (Nat × Nat) (Nat × List tkn_)
  | _, [] => .inl (1, 0)
  | z, t :: r => if t.1 = 3 then (if bb_ z t.2.1 = 1 then .inl (flt_ 5 t) else rzl_ (z ||| 2 ^ t.2.1) r) else if t.1 = 59 then .inr (z, r) else .inl (flt_ 2 t)
theorem rzl_l {z : Nat} {t : tkn_} {r : List tkn_} : rzl_ z (t :: r) = if t.1 = 3 then (if bb_ z t.2.1 = 1 then .inl (flt_ 5 t) else rzl_ (z ||| 2 ^ t.2.1) r) else if t.1 = 59 then .inr (z, r) else .inl (flt_ 2 t) := rfl
def rzon_ (w : tw_) (t : tkn_) (r : List tkn_) : Sum (Nat × Nat) (tw_ × List tkn_) := if w.2.1 = 0 then sbd_ (tqp_ 0 r) fun a => sbd_ (rzl_ (2 ^ a.1) a.2) fun u => .inr ((w.1, u.1, w.2.2), u.2) else .inl (flt_ 2 t)
def rcam_ (w : tw_) (t : tkn_) (r : List tkn_) : Sum (Nat × Nat) (tw_ × List tkn_) := if 8 ≤ w.2.2.1.length then .inl (flt_ 2 t) else sbd_ (tqp_ w.2.2.2 r) fun a => sbd_ (tqk_ 103 a.2) fun b => sbd_ (tqn_ 0 1440 b) fun c => sbd_ (tqk_ 104 c.2) fun d => sbd_ (tqn_ (c.1 + 1) 1440 d) fun e => sbd_ (tqk_ 59 e.2) fun u => .inr ((w.1, w.2.1, w.2.2.1 ++ [(a.1, c.1, e.1)], w.2.2.2 ||| 2 ^ a.1), u)
def rlin_ (w : tw_) (ts : List tkn_) : Sum (Nat × Nat) (tw_ × List tkn_) := match ts with
  | [] => .inl (1, 0)
  | t :: r => if t.1 = 100 then rway_ w t r else if t.1 = 101 then rzon_ w t r else if t.1 = 102 then rcam_ w t r else .inl (flt_ 2 t)
theorem rlin_l {w : tw_} {t : tkn_} {r : List tkn_} : rlin_ w (t :: r) = if t.1 = 100 then rway_ w t r else if t.1 = 101 then rzon_ w t r else if t.1 = 102 then rcam_ w t r else .inl (flt_ 2 t) := rfl
def twk_ (w : tw_) : Prop := wok_ w.1 ∧ w.2.1 < 4096 ∧ cok_ w.2.2.1 ∧ w.2.2.2 < 4096
/-- a map in the class's cells from t on -/
def twc_ (t : Nat) (w : tw_) (m : fm_) : Prop := gi_ m t 3 = nI w.1.length ∧ (∀ j q, w.1[j]? = some q → gi_ m (t + 1) j = nI q.1 ∧ gi_ m (t + 2) j = nI q.2.1 ∧ gi_ m (t + 3) j = nI q.2.2) ∧ gi_ m t 4 = nI w.2.1 ∧ gi_ m t 8 = nI w.2.2.1.length ∧ (∀ j q, w.2.2.1[j]? = some q → gi_ m (t + 4) j = nI q.1 ∧ gi_ m (t + 5) j = nI q.2.1 ∧ gi_ m (t + 6) j = nI q.2.2) ∧ gi_ m t 9 = nI w.2.2.2
def twd_ (w : tw_) (m : fm_) : Prop := gi_ m 106 16 = nI w.1.length ∧ (∀ j q, w.1[j]? = some q → gi_ m 108 j = nI q.1 ∧ gi_ m 109 j = nI q.2.1 ∧ gi_ m 110 j = nI q.2.2) ∧ gi_ m 106 18 = nI w.2.1 ∧ gi_ m 106 17 = nI w.2.2.1.length ∧ (∀ j q, w.2.2.1[j]? = some q → gi_ m 111 j = nI q.1 ∧ gi_ m 112 j = nI q.2.1 ∧ gi_ m 113 j = nI q.2.2) ∧ gi_ m 106 19 = nI w.2.2.2
theorem twc_fr {t : Nat} (ht : 6 ≤ t) {w : tw_} {m m1 : fm_} (h : twc_ t w m) (hf : ∀ a k, 6 ≤ a → gi_ m1 a k = gi_ m a k) : twc_ t w m1 := by
  obtain ⟨h1, h2, h3, h4, h5, h6⟩ := h
  exact ⟨(hf _ _ ht).trans h1, fun j q hj => ⟨(hf _ _ (by omega)).trans (h2 j q hj).1, (hf _ _ (by omega)).trans (h2 j q hj).2.1, (hf _ _ (by omega)).trans (h2 j q hj).2.2⟩, (hf _ _ ht).trans h3, (hf _ _ ht).trans h4, fun j q hj => ⟨(hf _ _ (by omega)).trans (h5 j q hj).1, (hf _ _ (by omega)).trans (h5 j q hj).2.1, (hf _ _ (by omega)).trans (h5 j q hj).2.2⟩, (hf _ _ ht).trans h6⟩
theorem tfw_6 {m m1 : fm_} (h : sa_ tfw_ m m1) : ∀ a k, 6 ≤ a → gi_ m1 a k = gi_ m a k := fun a k ha => sa_gi h (by
  cases hq : wi_ tfw_ a k with
  | false => rfl
  | true =>
    obtain ⟨q, hq, q1, q2, _⟩ := wi_mem.mp hq
    have : ∀ q ∈ tfw_, q.2.1 = 1 := by decide
    have := this q hq
    omega)
theorem csn_si {ts : List tkn_} {m : fm_} (h : csn_ ts m) {a k : Nat} {x : Int32} (ha : 6 ≤ a) : csn_ ts (si_ m a k x) := by
  obtain ⟨⟨dn, ⟨h1, h2⟩, h3, h4⟩, h5, h6⟩ := h
  refine ⟨⟨dn, ⟨?_, fun j t hj => ?_⟩, ?_, h4⟩, ⟨?_, ?_⟩, h6⟩
  · rw [gi_si_ne (by omega)]; exact h1
  · rw [gi_si_ne (by omega), gi_si_ne (by omega), gi_si_ne (by omega)]; exact h2 j t hj
  · rw [gi_si_ne (by omega)]; exact h3
  · rw [gi_si_ne (by omega)]; exact h5.1
  · rw [gi_si_ne (by omega)]; exact h5.2
theorem pw12 {v : Nat} (h : v < 12) : 2 ^ v < 4096 ∧ 0 < 2 ^ v := by
  have : ∀ v, v < 12 → 2 ^ v < 4096 ∧ 0 < 2 ^ v := by decide
  exact this v h
theorem or12 {z y : Nat} (h : z < 4096) (h2 : y < 4096) : z ||| y < 4096 := Nat.or_lt_two_pow (n := 12) h h2
/-- a token taken is gone -/
theorem stp_i {z : Nat} {ts : List tkn_} {v : Nat} {r : List tkn_} (h : tqp_ z ts = .inr (v, r)) : ts.length = r.length + 1 := by
  cases ts with
  | nil => cases h
  | cons t r1 =>
    rw [tqp_l] at h
    by_cases c : t.1 = 3
    · rw [if_pos c] at h
      by_cases c1 : bb_ z t.2.1 = 1
      · rw [if_pos c1] at h; cases h
      · rw [if_neg c1] at h
        injection h with h
        injection h with h1 h2
        rw [← h2]; rfl
    · rw [if_neg c] at h; cases h
theorem stn_i {lo hi : Nat} {ts : List tkn_} {v : Nat} {r : List tkn_} (h : tqn_ lo hi ts = .inr (v, r)) : ts.length = r.length + 1 := by
  cases ts with
  | nil => cases h
  | cons t r1 =>
    rw [tqn_l] at h
    by_cases c : t.1 = 2
    · rw [if_pos c] at h
      by_cases c1 : t.2.1 < lo ∨ hi < t.2.1
      · rw [if_pos c1] at h; cases h
      · rw [if_neg c1] at h
        injection h with h
        injection h with h1 h2
        rw [← h2]; rfl
    · rw [if_neg c] at h; cases h
theorem stk_i {k : Nat} {ts r : List tkn_} (h : tqk_ k ts = .inr r) : ts.length = r.length + 1 := by
  cases ts with
  | nil => cases h
  | cons t r1 =>
    rw [tqk_l] at h
    by_cases c : t.1 = k
    · rw [if_pos c] at h
      injection h with h
      rw [← h]; rfl
    · rw [if_neg c] at h; cases h
theorem app_q {α : Type} {W : List α} {x q : α} {j : Nat} (h : (W ++ [x])[j]? = some q) : (j < W.length ∧ W[j]? = some q) ∨ (j = W.length ∧ q = x) := by
  by_cases c : j < W.length
  · rw [List.getElem?_append_left c] at h
    exact Or.inl ⟨c, h⟩
  · rw [List.getElem?_append_right (by omega)] at h
    have e0 : j - W.length = 0 := by
      have := (List.getElem?_eq_some_iff.mp h).1
      rw [List.length_singleton] at this
      omega
    rw [e0] at h
    injection h with h
    exact Or.inr ⟨by omega, h.symm⟩
theorem bb_2p {a b : Nat} (ha : a < 12) (hb : b < 12) : bb_ (2 ^ a) b = 1 ↔ a = b := by
  have : ∀ a, a < 12 → ∀ b, b < 12 → (bb_ (2 ^ a) b = 1 ↔ a = b) := by decide
  exact this a ha b hb
theorem wok_a {W : List (Nat × Nat × Nat)} (h : wok_ W) (hl : W.length < 24) {a b c : Nat} (ha : a < 12) (hb : b < 12) (hab : ¬ a = b) (h1 : 1 ≤ c) (h2 : c ≤ 99) : wok_ (W ++ [(a, b, c)]) := by
  refine ⟨by rw [List.length_append]; show _ + 1 ≤ 24; omega, fun q hq => ?_⟩
  rcases List.mem_append.mp hq with e | e
  · exact h.2 q e
  · rw [List.mem_singleton] at e
    subst e
    exact ⟨ha, hb, hab, h1, h2⟩
theorem cok_a {C : List (Nat × Nat × Nat)} (h : cok_ C) (hl : C.length < 8) {a b c : Nat} (ha : a < 12) (hbc : b < c) (h2 : c ≤ 1440) : cok_ (C ++ [(a, b, c)]) := by
  refine ⟨by rw [List.length_append]; show _ + 1 ≤ 8; omega, fun q hq => ?_⟩
  rcases List.mem_append.mp hq with e | e
  · exact h.2 q e
  · rw [List.mem_singleton] at e
    subst e
    exact ⟨ha, hbc, h2⟩
theorem nm1_ {v : Nat} (h : v < 2 ^ 31) : ¬ nI v = -1 := fun e => Eq.mp (ns_m1a h) e
/-! the class reads a line -/
theorem rway_c {t : Nat} (ht : 6 ≤ t) {w : tw_} (hw : twk_ w) {x : tkn_} {r : List tkn_} {m : fm_} (h : csn_ (x :: r) m) (h2 : 2 ≤ x.1) (hc : twc_ t w m) : (∃ f m1, rway_ w x r = .inl f ∧ f_X9_readWay t m = some (nI 0, m1) ∧ flc_ f m1) ∨ (∃ w1 r1 m1, rway_ w x r = .inr (w1, r1) ∧ f_X9_readWay t m = some (nI 1, m1) ∧ csn_ r1 m1 ∧ twc_ t w1 m1 ∧ twk_ w1 ∧ r1.length + 3 ≤ r.length + 1) := by
  have hl := hw.1.1
  unfold rway_ f_X9_readWay
  by_cases c0 : 24 ≤ w.1.length
  · obtain ⟨m1, e1, e2, e3⟩ := fai_c h 2
    have e1 : f_X8_fail 2 m = some (0, m1) := e1
    refine Or.inl ⟨_, m1, if_pos c0, ?_, e2⟩
    rw [hc.1, if_neg (show ¬ nI w.1.length < 24 from show ¬ nI w.1.length < nI 24 from nI_nlt c0 (by omega)), e1]
    rfl
  · rw [if_neg c0, hc.1, if_pos (show nI w.1.length < 24 from show nI w.1.length < nI 24 from nI_lt (by omega) (by omega))]
    obtain ⟨m1, e1, e2, e3⟩ := stn_c h h2
    rw [e1, Option.bind_some]
    rcases tkp_c e2 (z := 0) (by omega) with ⟨f, m2, a1, a2, a3, _⟩ | ⟨a, ra, m2, a1, a2, a3, a4, a5, a6⟩
    · have a2 : f_X8_takePoint 0 m1 = some (-1, m2) := a2
      refine Or.inl ⟨f, m2, by rw [a1]; rfl, ?_, a3⟩
      rw [a2]
      rfl
    · have a4 : f_X8_takePoint 0 m1 = some (nI a, m2) := a4
      have hpa := pw12 a2
      rw [a1, sbd_r, a4, Option.bind_some, if_neg (show ¬ nI a = -1 from nm1_ (by omega))]
      simp only [bb_shl (show a < 31 by omega)]
      rcases tkp_c a5 hpa.1 with ⟨f, m3, b1, b2, b3, _⟩ | ⟨b, rb, m3, b1, b2, b3, b4, b5, b6⟩
      · refine Or.inl ⟨f, m3, by rw [b1]; rfl, ?_, b3⟩
        rw [b2]
        rfl
      · have hab : ¬ a = b := fun q => b3 ((bb_2p a2 b2).mpr q)
        rw [b1, sbd_r, b4, Option.bind_some, if_neg (show ¬ nI b = -1 from nm1_ (by omega))]
        rcases tkn_c b5 (lo := 1) (hi := 99) (by omega) (by omega) with ⟨f, m4, d1, d2, d3, _⟩ | ⟨v, rv, m4, d1, d2, d3, d4, d5, d6⟩
        · have d2 : f_X8_takeNumber 1 99 m3 = some (-1, m4) := d2
          refine Or.inl ⟨f, m4, by rw [d1]; rfl, ?_, d3⟩
          rw [d2]
          rfl
        · have d4 : f_X8_takeNumber 1 99 m3 = some (nI v, m4) := d4
          rw [d1, sbd_r, d4, Option.bind_some, if_neg (show ¬ nI v = -1 from nm1_ (by omega))]
          rcases tak_c d5 (k := 59) (by omega) (by omega) with ⟨f, m5, g1, g2, g3, _⟩ | ⟨re, m5, g1, g2, g3, g4⟩
          · have g2 : f_X8_take 59 m4 = some (0, m5) := g2
            refine Or.inl ⟨f, m5, by rw [g1]; rfl, ?_, g3⟩
            rw [g2]
            rfl
          · have g2 : f_X8_take 59 m4 = some (1, m5) := g2
            have hc5 : twc_ t w m5 := twc_fr ht hc fun a k ha => (tfw_6 g4 a k ha).trans ((tfw_6 d6 a k ha).trans ((tfw_6 b6 a k ha).trans ((tfw_6 a6 a k ha).trans (tfw_6 e3 a k ha))))
            obtain ⟨q1, q2, q3, q4, q5, q6⟩ := hc5
            refine Or.inr ⟨_, re, si_ (si_ (si_ (si_ m5 (t + 1) w.1.length (nI a)) (t + 2) w.1.length (nI b)) (t + 3) w.1.length (nI v)) t 3 (nI (w.1.length + 1)), by rw [g1]; rfl, ?_, ?_, ?_, ?_, ?_⟩
            · rw [g2, Option.bind_some, if_neg (show ¬ (1 : Int32) = 0 by decide)]
              simp (disch := omega) only [↓reduceIte, ↓ns_m1, ns_let, ns_lef, ns_ltt, ns_ltf, ns_eqt, ns_eqf, ns_gd, nI_clamp, nI_add, pk_sub, pk_mul, ns_m1a, ns_m1b, ns_m1c, ns_m1d, ns_m1e, ns_m1f, ns_m1g, ns_un1, ns_un0, ns_day1, Option.bind_some, gi_si_self, gi_si_ne, gl_si, gi_sl, gl_sl_self, gl_sl_ne, if_true, if_false, ns_i0, ns_i1, ns_i2, ns_i3, ns_i4, ns_i5, ns_i6, ns_i7, ns_i8, ns_i9, ns_i10, ns_i11, ns_i12, ns_i13, ns_i20, ns_i23, ns_i24, ns_i31, ns_i50, ns_i60, ns_i99, ns_i100, ns_i144, ns_i200, ns_i255, ns_i700, ns_i880, ns_i899, ns_i900, ns_i901, ns_i999, ns_i1000, ns_i1440, ns_i4095, ns_i1000000, q1]
            · exact csn_si (csn_si (csn_si (csn_si g3 (by omega)) (by omega)) (by omega)) ht
            · refine ⟨?_, fun j q hj => ?_, ?_, ?_, fun j q hj => ?_, ?_⟩
              · rw [gi_si_self, List.length_append]; rfl
              · rcases app_q hj with ⟨z1, z2⟩ | ⟨z1, z2⟩
                · obtain ⟨y1, y2, y3⟩ := q2 j q z2
                  refine ⟨?_, ?_, ?_⟩
                  · rw [gi_si_ne (by omega), gi_si_ne (by omega), gi_si_ne (by omega), gi_si_ne (by omega)]; exact y1
                  · rw [gi_si_ne (by omega), gi_si_ne (by omega), gi_si_ne (by omega), gi_si_ne (by omega)]; exact y2
                  · rw [gi_si_ne (by omega), gi_si_ne (by omega), gi_si_ne (by omega), gi_si_ne (by omega)]; exact y3
                · subst z1
                  subst z2
                  refine ⟨?_, ?_, ?_⟩
                  · rw [gi_si_ne (by omega), gi_si_ne (by omega), gi_si_ne (by omega), gi_si_self]
                  · rw [gi_si_ne (by omega), gi_si_ne (by omega), gi_si_self]
                  · rw [gi_si_ne (by omega), gi_si_self]
              · rw [gi_si_ne (by omega), gi_si_ne (by omega), gi_si_ne (by omega), gi_si_ne (by omega)]; exact q3
              · rw [gi_si_ne (by omega), gi_si_ne (by omega), gi_si_ne (by omega), gi_si_ne (by omega)]; exact q4
              · obtain ⟨y1, y2, y3⟩ := q5 j q hj
                refine ⟨?_, ?_, ?_⟩
                · rw [gi_si_ne (by omega), gi_si_ne (by omega), gi_si_ne (by omega), gi_si_ne (by omega)]; exact y1
                · rw [gi_si_ne (by omega), gi_si_ne (by omega), gi_si_ne (by omega), gi_si_ne (by omega)]; exact y2
                · rw [gi_si_ne (by omega), gi_si_ne (by omega), gi_si_ne (by omega), gi_si_ne (by omega)]; exact y3
              · rw [gi_si_ne (by omega), gi_si_ne (by omega), gi_si_ne (by omega), gi_si_ne (by omega)]; exact q6
            · exact ⟨wok_a hw.1 (by omega) a2 b2 hab d2 d3, hw.2⟩
            · have i1 := stp_i a1
              have i2 := stp_i b1
              have i3 := stn_i d1
              have i4 := stk_i g1
              omega
