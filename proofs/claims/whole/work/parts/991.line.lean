def cb_ (z : Nat) : Nat := bb_ z 0 + bb_ z 1 + bb_ z 2 + bb_ z 3 + bb_ z 4 + bb_ z 5 + bb_ z 6 + bb_ z 7 + bb_ z 8 + bb_ z 9 + bb_ z 10 + bb_ z 11
theorem cb_12 (z : Nat) : cb_ z ≤ 12 := by
  have := bb_lt z 0
  have := bb_lt z 1
  have := bb_lt z 2
  have := bb_lt z 3
  have := bb_lt z 4
  have := bb_lt z 5
  have := bb_lt z 6
  have := bb_lt z 7
  have := bb_lt z 8
  have := bb_lt z 9
  have := bb_lt z 10
  have := bb_lt z 11
  unfold cb_
  omega
theorem bb_or {z p j : Nat} : bb_ (z ||| 2 ^ p) j = if j = p then 1 else bb_ z j := by
  rw [bb_tb, bb_tb, Nat.testBit_or, Nat.testBit_two_pow]
  by_cases c : j = p
  · rw [if_pos c, decide_eq_true c.symm, Bool.or_true]; rfl
  · rw [if_neg c, decide_eq_false (fun e => c e.symm), Bool.or_false]
theorem cb_or {z p : Nat} (hp : p < 12) (h : ¬ bb_ z p = 1) : cb_ (z ||| 2 ^ p) = cb_ z + 1 := by
  have h0 : bb_ z p = 0 := by have := bb_lt z p; omega
  unfold cb_
  simp only [bb_or]
  have : p = 0 ∨ p = 1 ∨ p = 2 ∨ p = 3 ∨ p = 4 ∨ p = 5 ∨ p = 6 ∨ p = 7 ∨ p = 8 ∨ p = 9 ∨ p = 10 ∨ p = 11 := by omega
  rcases this with e | e | e | e | e | e | e | e | e | e | e | e <;> subst e <;> simp only [h0] <;> simp <;> omega
theorem or_pos {z y : Nat} (h : 0 < z) : 0 < z ||| y := by
  rcases Nat.eq_zero_or_pos (z ||| y) with e | e
  · have := (Nat.or_eq_zero_iff.mp e).1
    omega
  · exact e
theorem zlp_c {t : Nat} (ht : 6 ≤ t) : ∀ (ts : List tkn_) (z n : Nat) (m : fm_), csn_ ts m → gi_ m t 4 = nI z → 0 < z → z < 4096 → n ≤ cb_ z → (∃ f m1, rzl_ z ts = .inl f ∧ f_X9_readZone_19 t (nI n) m = some (nI 0, m1) ∧ flc_ f m1) ∨ (∃ z1 r m1, rzl_ z ts = .inr (z1, r) ∧ f_X9_readZone_19 t (nI n) m = some (nI 1, m1) ∧ csn_ r m1 ∧ gi_ m1 t 4 = nI z1 ∧ z1 < 4096 ∧ (∀ a k, 6 ≤ a → ¬ (a = t ∧ k = 4) → gi_ m1 a k = gi_ m a k) ∧ r.length + 1 ≤ ts.length) := by
  intro ts
  induction ts with
  | nil => intro z n m h; exact absurd h.2.2 id
  | cons x r ih =>
    intro z n m h hz h0 h4 hn
    have h12 := cb_12 z
    have hx := h.2.2.1
    have ez : ¬ nI z = 0 := show ¬ nI z = nI 0 from fun q => by have := (nI_eq (by omega) (by omega)).mp q; omega
    rw [e_X9_readZone_19, if_neg (show ¬ (12 : Int32) < nI n from show ¬ nI 12 < nI n from nI_nlt (by omega) (by omega)), hz, if_neg ez, (knd_c h.1).1, Option.bind_some]
    rw [rzl_l]
    by_cases c1 : x.1 = 59
    · obtain ⟨m1, e1, e2, e3⟩ := stn_c h (by omega)
      refine Or.inr ⟨z, r, m1, by rw [if_neg (by omega), if_pos c1], ?_, e2, (tfw_6 e3 _ _ ht).trans hz, h4, fun a k ha _ => tfw_6 e3 a k ha, Nat.le_refl _⟩
      rw [if_pos (show nI x.1 = 59 by rw [c1]; rfl), e1]
      rfl
    · rw [if_neg (show ¬ nI x.1 = 59 from show ¬ nI x.1 = nI 59 from fun q => c1 ((nI_eq (by omega) (by omega)).mp q)), hz]
      rcases tkp_c h h4 with ⟨f, m1, a1, a2, a3, a4⟩ | ⟨v, r1, m1, a1, a2, a3, a4, a5, a6⟩
      · refine Or.inl ⟨f, m1, ?_, ?_, a3⟩
        · rw [tqp_l] at a1
          by_cases c3 : x.1 = 3
          · rw [if_pos c3] at a1 ⊢
            by_cases c4 : bb_ z x.2.1 = 1
            · rw [if_pos c4] at a1 ⊢; rw [← Sum.inl.inj a1]
            · rw [if_neg c4] at a1; cases a1
          · rw [if_neg c3] at a1 ⊢
            rw [if_neg c1, ← Sum.inl.inj a1]
        · rw [a2]
          rfl
      · have hpv := pw12 a2
        rw [tqp_l] at a1
        by_cases c3 : x.1 = 3
        · rw [if_pos c3] at a1 ⊢
          by_cases c4 : bb_ z x.2.1 = 1
          · rw [if_pos c4] at a1; cases a1
          · rw [if_neg c4] at a1 ⊢
            have a1 := Sum.inr.inj a1
            injection a1 with w1 w2
            subst w1
            subst w2
            have ho : nI z ||| nI (2 ^ x.2.1) = nI (z ||| 2 ^ x.2.1) := nI_or (k := 12) h4 hpv.1 (by omega)
            have g4 : gi_ m1 t 4 = nI z := (tfw_6 a6 _ _ ht).trans hz
            have := ih (z ||| 2 ^ x.2.1) (n + 1) (si_ m1 t 4 (nI (z ||| 2 ^ x.2.1))) (csn_si a5 ht) gi_si_self (or_pos h0) (or12 h4 hpv.1) (by rw [cb_or a2 a3]; omega)
            have st : (Option.bind (f_X8_takePoint (nI z) m) fun q15 => if q15.1 = -1 then some (0, q15.2) else f_X9_readZone_19 t (nI n + 1) (si_ q15.2 t 4 (gi_ q15.2 t 4 ||| 1 <<< (q15.1 &&& 31)))) = f_X9_readZone_19 t (nI (n + 1)) (si_ m1 t 4 (nI (z ||| 2 ^ x.2.1))) := by
              rw [a4, Option.bind_some, if_neg (show ¬ nI x.2.1 = -1 from nm1_ (by omega))]
              simp only [bb_shl (show x.2.1 < 31 by omega)]
              rw [g4, ho]
              show f_X9_readZone_19 t (nI n + nI 1) _ = _
              rw [nI_add]
            rcases this with ⟨f, m2, b1, b2, b3⟩ | ⟨z1, r1, m2, b1, b2, b3, b4, b5, b6, b7⟩
            · exact Or.inl ⟨f, m2, b1, st.trans b2, b3⟩
            · refine Or.inr ⟨z1, r1, m2, b1, st.trans b2, b3, b4, b5, fun a k ha hk => ?_, by rw [List.length_cons]; omega⟩
              rw [b6 a k ha hk, gi_si_ne hk, tfw_6 a6 a k ha]
        · rw [if_neg c3] at a1; cases a1
theorem rzon_c {t : Nat} (ht : 6 ≤ t) {w : tw_} (hw : twk_ w) {x : tkn_} {r : List tkn_} {m : fm_} (h : csn_ (x :: r) m) (h2 : 2 ≤ x.1) (hc : twc_ t w m) : (∃ f m1, rzon_ w x r = .inl f ∧ f_X9_readZone t m = some (nI 0, m1) ∧ flc_ f m1) ∨ (∃ w1 r1 m1, rzon_ w x r = .inr (w1, r1) ∧ f_X9_readZone t m = some (nI 1, m1) ∧ csn_ r1 m1 ∧ twc_ t w1 m1 ∧ twk_ w1 ∧ r1.length + 3 ≤ r.length + 1) := by
  have hz := hw.2.1
  unfold rzon_ f_X9_readZone
  by_cases c0 : w.2.1 = 0
  · rw [if_pos c0, hc.2.2.1, if_pos (show nI w.2.1 = 0 by rw [c0]; rfl)]
    obtain ⟨m1, e1, e2, e3⟩ := stn_c h h2
    rw [e1, Option.bind_some]
    have g4 : gi_ m1 t 4 = 0 := (tfw_6 e3 _ _ ht).trans (by rw [hc.2.2.1, c0]; rfl)
    have un : f_X9_readZone_19 t 0 m1 = Option.bind (f_X8_takePoint 0 m1) fun q5 => if q5.1 = -1 then some (0, q5.2) else f_X9_readZone_19 t (0 + 1) (si_ q5.2 t 4 (gi_ q5.2 t 4 ||| 1 <<< (q5.1 &&& 31))) := by
      rw [e_X9_readZone_19, if_neg (show ¬ (12 : Int32) < 0 by decide), g4, if_pos rfl]
    simp only
    rw [un]
    rcases tkp_c e2 (z := 0) (by omega) with ⟨f, m2, a1, a2, a3, _⟩ | ⟨a, ra, m2, a1, a2, a3, a4, a5, a6⟩
    · have a2 : f_X8_takePoint 0 m1 = some (-1, m2) := a2
      refine Or.inl ⟨f, m2, by rw [a1]; rfl, ?_, a3⟩
      rw [a2]
      rfl
    · have a4 : f_X8_takePoint 0 m1 = some (nI a, m2) := a4
      have hpa := pw12 a2
      have g42 : gi_ m2 t 4 = 0 := (tfw_6 a6 _ _ ht).trans g4
      have ho : (0 : Int32) ||| nI (2 ^ a) = nI (2 ^ a) := by
        have := nI_or (a := 0) (b := 2 ^ a) (k := 12) (by omega) hpa.1 (by omega)
        rw [Nat.zero_or] at this
        exact this
      rw [a1, sbd_r, a4, Option.bind_some, if_neg (show ¬ nI a = -1 from nm1_ (by omega))]
      simp only [bb_shl (show a < 31 by omega), g42, ho]
      rcases zlp_c ht ra (2 ^ a) 1 (si_ m2 t 4 (nI (2 ^ a))) (csn_si a5 ht) gi_si_self hpa.2 hpa.1 (by
          have : ∀ a, a < 12 → 1 ≤ cb_ (2 ^ a) := by decide
          exact this a a2) with ⟨f, m3, b1, b2, b3⟩ | ⟨z1, r1, m3, b1, b2, b3, b4, b5, b6, b7⟩
      · exact Or.inl ⟨f, m3, by rw [b1]; rfl, b2, b3⟩
      · obtain ⟨q1, q2, q3, q4, q5, q6⟩ := hc
        have key : ∀ a k, 6 ≤ a → ¬ (a = t ∧ k = 4) → gi_ m3 a k = gi_ m a k := fun a k ha hk => by
          rw [b6 a k ha hk, gi_si_ne hk, tfw_6 a6 a k ha, tfw_6 e3 a k ha]
        refine Or.inr ⟨(w.1, z1, w.2.2), r1, m3, by rw [b1]; rfl, b2, b3, ⟨(key _ _ ht (by omega)).trans q1, fun j q hj => ?_, b4, (key _ _ ht (by omega)).trans q4, fun j q hj => ?_, (key _ _ ht (by omega)).trans q6⟩, ⟨hw.1, b5, hw.2.2⟩, ?_⟩
        · exact ⟨(key _ _ (by omega) (by omega)).trans (q2 j q hj).1, (key _ _ (by omega) (by omega)).trans (q2 j q hj).2.1, (key _ _ (by omega) (by omega)).trans (q2 j q hj).2.2⟩
        · exact ⟨(key _ _ (by omega) (by omega)).trans (q5 j q hj).1, (key _ _ (by omega) (by omega)).trans (q5 j q hj).2.1, (key _ _ (by omega) (by omega)).trans (q5 j q hj).2.2⟩
        · have := stp_i a1
          omega
  · obtain ⟨m1, e1, e2, e3⟩ := fai_c h 2
    have e1 : f_X8_fail 2 m = some (0, m1) := e1
    refine Or.inl ⟨_, m1, if_neg c0, ?_, e2⟩
    rw [hc.2.2.1, if_neg (show ¬ nI w.2.1 = 0 from show ¬ nI w.2.1 = nI 0 from fun q => c0 ((nI_eq (by omega) (by omega)).mp q)), e1]
    rfl
