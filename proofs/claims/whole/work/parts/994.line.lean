theorem twm_z {w : tw_} {m : fm_} (h : twd_ w m) (z : Nat) : twd_ (w.1, z, w.2.2) (si_ m 106 18 (nI z)) := by
  obtain ⟨h1, h2, h3, h4, h5, h6⟩ := h
  refine ⟨?_, fun j q hj => ?_, gi_si_self, ?_, fun j q hj => ?_, ?_⟩
  · rw [gi_si_ne (by omega)]; exact h1
  · rw [gi_si_ne (by omega), gi_si_ne (by omega), gi_si_ne (by omega)]; exact h2 j q hj
  · rw [gi_si_ne (by omega)]; exact h4
  · rw [gi_si_ne (by omega), gi_si_ne (by omega), gi_si_ne (by omega)]; exact h5 j q hj
  · rw [gi_si_ne (by omega)]; exact h6
theorem stk_59 {t : tkn_} {r : List tkn_} : tqk_ 59 (t :: r) = if t.1 = 59 then .inr r else .inl (flt_ 2 t) := rfl
theorem zlp_m {L : List Nat} {w : tw_} {n : Nat} : ∀ (ts : List tkn_) (z : Nat) (m : fm_), rsn_ L ts m → twd_ (w.1, z, w.2.2) m → z < 4096 → gi_ m 106 20 = nI n → (∃ f m1, rzl_ z ts = .inl f ∧ f_X12_readLine_122 m = some (0, m1) ∧ flm_ f m1) ∨ (∃ z1 r m1, rzl_ z ts = .inr (z1, r) ∧ f_X12_readLine_122 m = some (0, m1) ∧ rsn_ L r m1 ∧ twd_ (w.1, z1, w.2.2) m1 ∧ gi_ m1 106 20 = nI (n + 1)) := by
  intro ts
  induction ts with
  | nil => intro z m h; exact absurd h.2.2.1 id
  | cons x r ih =>
    intro z m h hm hz hn
    have hs := sor_m h (j := 3) (by omega) (by omega) (by omega)
    have g18 : gi_ m 106 18 = nI z := hm.2.2.1
    rw [e_X12_readLine_122, if_pos (rsn_g h).2]
    rw [rzl_l]
    by_cases c3 : x.1 = 3
    · rw [if_pos c3, if_pos (show gi_ m 106 6 = 3 from hs.mpr c3), g18]
      rcases pnt_m h hz with ⟨f, y, m2, a1, a2, a3, a4⟩ | ⟨a, ra, m2, a1, a2, a3, a4, a5, a6⟩
      · rw [tqp_l] at a1
        rw [if_pos c3] at a1
        by_cases c4 : bb_ z x.2.1 = 1
        · rw [if_pos c4] at a1 ⊢
          have a1 := Sum.inl.inj a1
          have fl := flm_si (x := nI z ||| 1 <<< (y &&& 31)) (k := 18) (a := 106) a3 (by omega)
          obtain ⟨m9, z1, z2⟩ := r295_f fl
          refine Or.inl ⟨f, m9, by rw [a1], ?_, z2⟩
          rw [a2, Option.bind_some]
          simp only
          rw [e_X12_readLine_122, if_neg (flm_g fl).2]
          exact z1
        · rw [if_neg c4] at a1; cases a1
      · rw [tqp_l] at a1
        rw [if_pos c3] at a1
        by_cases c4 : bb_ z x.2.1 = 1
        · rw [if_pos c4] at a1; cases a1
        · rw [if_neg c4] at a1 ⊢
          have a1 := Sum.inr.inj a1
          injection a1 with w1 w2
          subst w1
          subst w2
          have hpv := pw12 a2
          have ho : nI z ||| nI (2 ^ x.2.1) = nI (z ||| 2 ^ x.2.1) := nI_or (k := 12) hz hpv.1 (by omega)
          rw [a4, Option.bind_some]
          simp only [bb_shl (show x.2.1 < 31 by omega), ho]
          exact ih (z ||| 2 ^ x.2.1) (si_ m2 106 18 (nI (z ||| 2 ^ x.2.1))) (rsn_si a5 (by omega) (by omega)) (twm_z (twm_fr hm (rfw_g a6)) _) (or12 hz hpv.1) (by rw [gi_si_ne (by omega), rfw_g a6 _ _ (by omega)]; exact hn)
    · rw [if_neg c3, if_neg (show ¬ gi_ m 106 6 = 3 from fun q => c3 (hs.mp q))]
      rcases r295_m h hm hn with ⟨f, m9, z1, z2, z3⟩ | ⟨r9, m9, z1, z2, z3, z4, z5⟩
      · rw [stk_59] at z1
        by_cases c5 : x.1 = 59
        · rw [if_pos c5] at z1; cases z1
        · rw [if_neg c5] at z1 ⊢
          exact Or.inl ⟨f, m9, by rw [Sum.inl.inj z1], z2, z3⟩
      · rw [stk_59] at z1
        by_cases c5 : x.1 = 59
        · rw [if_pos c5] at z1 ⊢
          exact Or.inr ⟨z, r9, m9, by rw [Sum.inr.inj z1], z2, z3, z4, z5⟩
        · rw [if_neg c5] at z1; cases z1
theorem rzon_m {L : List Nat} {w : tw_} (hw : twk_ w) {x : tkn_} {r : List tkn_} {m : fm_} (h : rsn_ L (x :: r) m) (hx : x.1 = 101) (hl : w.2.1 = 0) (hm : twd_ w m) {n : Nat} (hn : gi_ m 106 20 = nI n) : (∃ f m1, rzon_ w x r = .inl f ∧ f_X12_readLine_90 m = some (0, m1) ∧ flm_ f m1) ∨ (∃ w1 r1 m1, rzon_ w x r = .inr (w1, r1) ∧ f_X12_readLine_90 m = some (0, m1) ∧ rsn_ L r1 m1 ∧ twd_ w1 m1 ∧ gi_ m1 106 20 = nI (n + 1)) := by
  unfold rzon_
  have g18 : gi_ m 106 18 = 0 := by rw [hm.2.2.1, hl]; rfl
  rw [e_X12_readLine_90, isw_m h (k := 1) (by omega) (by rfl), Option.bind_some, decide_eq_true (show x.1 = kd_ 1 from hx), if_neg (show ¬ b01_ true = 0 by decide)]
  simp only
  rw [g18, if_pos rfl, if_pos hl]
  obtain ⟨m1, e1, e2, e3⟩ := nxs_m h (by omega)
  rw [e1, Option.bind_some]
  simp only
  rcases pnt_m e2 (z := 0) (by omega) with ⟨f, y, m2, a1, a2, a3, a4⟩ | ⟨a, ra, m2, a1, a2, a3, a4, a5, a6⟩
  · have a2 : f_X12_point 0 m1 = some (y, m2) := a2
    have fl := flm_si (x := 1 <<< (y &&& 31)) (k := 18) (a := 106) a3 (by omega)
    obtain ⟨m9, z1, z2⟩ := r295_f fl
    refine Or.inl ⟨f, m9, by rw [a1]; rfl, ?_, z2⟩
    rw [a2, Option.bind_some]
    simp only
    rw [e_X12_readLine_122, if_neg (flm_g fl).2]
    exact z1
  · have a4 : f_X12_point 0 m1 = some (nI a, m2) := a4
    have hpa := pw12 a2
    rw [a1, sbd_r, a4, Option.bind_some]
    simp only [bb_shl (show a < 31 by omega)]
    rcases zlp_m (w := w) (n := n) ra (2 ^ a) (si_ m2 106 18 (nI (2 ^ a))) (rsn_si a5 (by omega) (by omega)) (twm_z (twm_fr (twm_fr hm (rfw_g e3)) (rfw_g a6)) _) hpa.1 (by rw [gi_si_ne (by omega), rfw_g a6 _ _ (by omega), rfw_g e3 _ _ (by omega)]; exact hn) with ⟨f, m9, z1, z2, z3⟩ | ⟨z9, r9, m9, z1, z2, z3⟩
    · exact Or.inl ⟨f, m9, by rw [z1]; rfl, z2, z3⟩
    · exact Or.inr ⟨_, r9, m9, by rw [z1]; rfl, z2, z3⟩
