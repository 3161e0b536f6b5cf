/-! ===== the reference reads the e of a line ===== -/
def mf2_ (j b l : Nat) (m m1 : fm_) : Prop := ∀ a k, ¬ a = 135 → ¬ ((a = 122 ∨ a = 123) ∧ 700 * j + b ≤ k) → ¬ (a = 106 ∧ (k < 10 ∨ (49 ≤ k ∧ k ≤ 54))) → ¬ ((a = 124 ∨ a = 125 ∨ a = 133) ∧ k = 8 * j + l) → gi_ m1 a k = gi_ m a k
def eln_ (al : Nat → Bool) (u : Nat) (ts : List tkn_) : ers_ := sbd_ (eit_ (rne_ al 7) 51 false false u [] ts) fun q => sbd_ (tqk_ 59 q.2.2) fun r => .inr (q.1, q.2.1, r)
theorem rdE_m {L : List Nat} {j l ol b u : Nat} (hj : j < 6) (hl : l < 8) (hol : ol = if l < 6 then 0 else l) {al : Nat → Bool} (hal : mym_ ol al) {ts : List tkn_} {m : fm_} (h : rsn_ L ts m) (h33 : gi_ m 106 33 = nI j) (h49 : gi_ m 106 49 = nI b) (h50 : gi_ m 106 50 = nI u) (hu : u ≤ 50) (hb : b + ts.length ≤ 701) : (∃ f m1, eln_ al u ts = .inl f ∧ f_X12_readE (nI l) m = some (0, m1) ∧ flm_ f m1 ∧ mf2_ j b l m m1) ∨ (∃ S1 u1 t r m1, eit_ (rne_ al 7) 51 false false u [] ts = .inr (S1, u1, t :: r) ∧ eln_ al u ts = .inr (S1, u1, r) ∧ t.1 = 59 ∧ f_X12_readE (nI l) m = some (0, m1) ∧ rsn_ L (t :: r) m1 ∧ gi_ m1 106 33 = nI j ∧ gi_ m1 106 49 = nI (b + S1.length) ∧ gi_ m1 106 50 = nI u1 ∧ (gi_ m1 133 (8 * j + l) = 1 ∧ gi_ m1 124 (8 * j + l) = nI b ∧ gi_ m1 125 (8 * j + l) = nI (b + S1.length) ∧ rws_ (700 * j + b) S1 m1) ∧ b + S1.length + (t :: r).length ≤ 701 ∧ mf2_ j b l m m1) := by
  have m0d : ∃ m0, m0 = si_ (si_ (si_ (si_ m 106 54 (nI ol)) 124 (8 * j + l) (nI b)) 106 52 0) 106 53 0 := ⟨_, rfl⟩
  obtain ⟨m0, hm0⟩ := m0d
  have i0 : rt0_ L j ol b u [] [] ts m0 := by
    rw [hm0]
    refine ⟨rsn_si (rsn_si (rsn_si (rsn_si h (by omega) (by omega)) (by omega) (by omega)) (by omega) (by omega)) (by omega) (by omega), ?_, ?_, ?_, ?_, fun i q hi => (by cases hi), ?_, fun i x hi => (by cases hi), gi_si_self⟩
    · rw [gi_si_ne (by omega), gi_si_ne (by omega), gi_si_ne (by omega), gi_si_ne (by omega)]; exact h33
    · rw [gi_si_ne (by omega), gi_si_ne (by omega), gi_si_ne (by omega), gi_si_self]
    · rw [gi_si_ne (by omega), gi_si_ne (by omega), gi_si_ne (by omega), gi_si_ne (by omega)]; exact h50
    · rw [gi_si_ne (by omega), gi_si_ne (by omega), gi_si_ne (by omega), gi_si_ne (by omega)]; exact h49
    · rw [gi_si_ne (by omega), gi_si_self]; rfl
  have g124 : gi_ m0 124 (8 * j + l) = nI b := by
    rw [hm0, gi_si_ne (by omega), gi_si_ne (by omega), gi_si_self]
  have f0 : mf2_ j b l m m0 := fun a k h1 h2 h3 h4 => by
    rw [hm0, gi_si_ne (by omega), gi_si_ne (by omega), gi_si_ne (by omega), gi_si_ne (by omega)]
  have em : f_X12_readE (nI l) m = f_X12_readE_55 (nI l) (nI 0) 1 m0 := by
    have ei : 8 * nI j + nI l = nI (8 * j + l) := by
      show nI 8 * nI j + nI l = _
      rw [pk_mul, nI_add]
    unfold f_X12_readE
    rw [if_pos (rsn_g h).1, h33, h49, ei, ns_gd (by omega) (by omega), ns_gd (by omega) (by omega), nI_clamp (by omega), hm0]
    by_cases c : l < 6
    · rw [if_neg (show ¬ (6 : Int32) ≤ nI l from show ¬ nI 6 ≤ nI l from nI_ge c (by omega)), hol, if_pos c]
      rfl
    · rw [if_pos (show (6 : Int32) ≤ nI l from show nI 6 ≤ nI l from nI_le (by omega) (by omega)), hol, if_neg c]
      rfl
  rw [em]
  rcases eit_m hj (Nat.le_refl 7) (rne_m hj hal (x1 := nI l) 7 (Nat.le_refl 7)) (K := []) (by show 0 ≤ _; omega) (fun k R e => by cases e) (fun k hk => by cases hk) rfl 51 false false u [] ts m0 i0 (by omega) hu (by show b + 0 + 0 + ts.length ≤ 701; omega) with ⟨f, m1, e1, e2, e3, e4⟩ | ⟨S1, u1, r, m1, P, S2, now, e1, e2, e3, e4, e5, e6, e7, e8, e9⟩
  · exact Or.inl ⟨f, m1, by unfold eln_; rw [e1]; rfl, e2, e3, fun a k h1 h2 h3 h4 => (e4 a k h1 h2 (by omega)).trans (f0 a k h1 h2 h3 h4)⟩
  · obtain ⟨t, r2, rfl⟩ := wts_n e3.1.2.2.1
    have h12 := eit_h _ _ _ _ _ _ _ _ _ _ _ e1
    have now45 : now = 4 ∨ now = 5 := by
      rcases e7 with z | z
      · exact Or.inl z.1
      · exact Or.inr z
    rw [List.append_nil, List.length_cons] at e8
    have lP : (P ++ []).length = P.length := by rw [List.append_nil]
    have hsp : ∀ k ∈ P ++ [], k < 28 := fun k hk => by
      rw [List.append_nil] at hk
      exact (e5 k hk).1
    have hsp2 : ∀ k ∈ P ++ [], k ≤ 28 := fun k hk => Nat.le_of_lt (hsp k hk)
    have n28 : ¬ 28 ∈ P ++ [] := fun z => by
      have := hsp 28 z
      omega
    rw [e2]
    by_cases c : t.1 = 59
    · rw [rE_e e3 (by omega) hsp2 now45 c n28]
      obtain ⟨m2, a1, a2, a3⟩ := set_m hj (lo := 0) (K := []) (by omega) (fun k R e => by cases e) P S2 m1 e3 (fun p hp => ⟨by omega, (e5 p hp).1⟩) (by omega) (by omega)
      have a1 : f_X12_settle 0 m1 = some (0, m2) := a1
      rw [← e4] at a2
      have lS : S1.length = S2.length + P.length := by rw [e4, List.length_append, opc_l]
      obtain ⟨c1, c2, c3, c4, c5, c6, c7, c8, c9⟩ := a2
      have ei : 8 * nI j + nI l = nI (8 * j + l) := by
        show nI 8 * nI j + nI l = _
        rw [pk_mul, nI_add]
      refine Or.inr ⟨S1, u1, t, r2, si_ (si_ m2 125 (8 * j + l) (nI (b + S1.length))) 133 (8 * j + l) 1, e1, ?_, c, ?_, rsn_si (rsn_si c1 (by omega) (by omega)) (by omega) (by omega), ?_, ?_, ?_, ⟨gi_si_self, ?_, ?_, rws_g c6 (fun a k q => by rw [gi_si_ne (by omega), gi_si_ne (by omega)])⟩, ?_, fun a k h1 h2 h3 h4 => ?_⟩
      · unfold eln_
        rw [e1, sbd_r]
        dsimp only
        rw [tqk_l, if_pos c]
        rfl
      · rw [e_X12_readE_55, if_pos (rsn_g e3.1).2, if_pos rfl, if_pos (rsn_g e3.1).1, a1, Option.bind_some]
        dsimp only
        rw [c2, c5, ei, ns_gd (by omega) (by omega), ns_gd (by omega) (by omega), nI_clamp (by omega)]
      · rw [gi_si_ne (by omega), gi_si_ne (by omega)]; exact c2
      · rw [gi_si_ne (by omega), gi_si_ne (by omega)]; exact c5
      · rw [gi_si_ne (by omega), gi_si_ne (by omega)]; exact c4
      · rw [gi_si_ne (by omega), gi_si_ne (by omega), a3 _ _ (by omega) (by omega) (by omega), e9 _ _ (by omega) (by omega) (by omega)]; exact g124
      · rw [gi_si_ne (by omega), gi_si_self]
      · rw [List.length_cons]; omega
      · rw [gi_si_ne (by omega), gi_si_ne (by omega), a3 _ _ h1 (by omega) (by omega), e9 _ _ h1 (by omega) (by omega)]
        exact f0 a k h1 h2 h3 h4
    · rw [rE_4 e3 (by omega) hsp2 now45 (Or.inl c)]
      obtain ⟨m4, b1, b2, b3⟩ := sw4_m e3 (by omega) hsp2 (now := now) (by
        rcases e7 with z | z
        · exact Or.inl ⟨z.1, z.2 t r2 rfl⟩
        · exact Or.inr z) h12.1 h12.2 (fun _ => n28)
      refine Or.inl ⟨flt_ 2 t, m4, ?_, ?_, b2, fun a k h1 h2 h3 h4 => ((mfr_t e9 (mfr_w b3)) a k h1 h2 (by omega)).trans (f0 a k h1 h2 h3 h4)⟩
      · unfold eln_
        rw [e1, sbd_r]
        dsimp only
        rw [tqk_l, if_neg c]
        rfl
      · rw [b1, Option.bind_some]
        exact rE_f b2
