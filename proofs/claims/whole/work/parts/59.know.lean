/-! ===== the reference knows what the search says ===== -/
theorem kst_sub {W : List (Nat × Nat × Nat)} {P : pl_} {F : List fa_} {T : Nat} {C : List (Nat × Nat × Nat)} {R : List Nat} {i : Nat} {a : Nat → Nat} {b : bs_} {m : fm_} {p : Nat} (h : kst_ W P F T C R (i + 1) (ur_ a i p) b m) : kst_ W P F T C R i a b m ∧ gi_ m 152 i = nI p := by
  obtain ⟨h1, h2, h3, h4, h5⟩ := h
  refine ⟨⟨h1, h2, fun j hj => ?_, fun j hj => ?_, h5⟩, ?_⟩
  · have := h3 j (by omega)
    rw [show ur_ a i p j = a j from if_neg (by omega)] at this
    exact this
  · have := h4 j (by omega)
    rw [cst_c j fun l hl => (show ur_ a i p l = a l from if_neg (by omega))] at this
    exact this
  · have := (h3 i (by omega)).2
    rw [ur_s] at this
    exact this
theorem kst_up {W : List (Nat × Nat × Nat)} {P : pl_} {F : List fa_} {T : Nat} {C : List (Nat × Nat × Nat)} {R : List Nat} {i : Nat} {a : Nat → Nat} {b : bs_} {m : fm_} (h : kst_ W P F T C R i a b m) {l : Nat} {x : Int32} (hl : i ≤ l) : kst_ W P F T C R i a b (si_ m 152 l x) := by
  obtain ⟨h1, h2, h3, h4, h5⟩ := h
  refine ⟨kwm_ag h1 (sa_ag (w := [(152, 152, 0)]) (by rfl) (sa_si (by rfl) sa_rf)), ⟨(gi_si_ne (by omega)).trans h2.1, fun j r hj => (gi_si_ne (by omega)).trans (h2.2 j r hj)⟩, fun j hj => ⟨(h3 j hj).1, (gi_si_ne (by omega)).trans (h3 j hj).2⟩, fun j hj => (gi_si_ne (by omega)).trans (h4 j hj), (gi_si_ne (by omega)).trans h5.1, fun q hq => ⟨(h5.2 q hq).1, fun j hj => (gi_si_ne (by omega)).trans ((h5.2 q hq).2 j hj)⟩⟩
theorem kst_pd {W : List (Nat × Nat × Nat)} {P : pl_} {F : List fa_} {T : Nat} {C : List (Nat × Nat × Nat)} {R : List Nat} {i : Nat} {a : Nat → Nat} {b : bs_} {m : fm_} (h : kst_ W P F T C R i a b m) {l : Nat} {x : Int32} (hl : i < l) : kst_ W P F T C R i a b (si_ m 154 l x) := by
  obtain ⟨h1, h2, h3, h4, h5⟩ := h
  refine ⟨kwm_ag h1 (sa_ag (w := [(154, 154, 0)]) (by rfl) (sa_si (by rfl) sa_rf)), ⟨(gi_si_ne (by omega)).trans h2.1, fun j r hj => (gi_si_ne (by omega)).trans (h2.2 j r hj)⟩, fun j hj => ⟨(h3 j hj).1, (gi_si_ne (by omega)).trans (h3 j hj).2⟩, fun j hj => (gi_si_ne (by omega)).trans (h4 j hj), (gi_si_ne (by omega)).trans h5.1, fun q hq => ⟨(h5.2 q hq).1, fun j hj => (gi_si_ne (by omega)).trans ((h5.2 q hq).2 j hj)⟩⟩
/-- the best is written down -/
theorem k268_ {x1 x2 : Int32} {np N i : Nat} {a : Nat → Nat} {m : fm_} (hN : N ≤ 7) (hnp : np ≤ 10) (h1 : gi_ m 106 77 = nI N) (h2 : gi_ m 106 57 = nI np) (h3 : ∀ j, j < N → a j ≤ np ∧ gi_ m 152 j = nI (a j)) : ∃ m', f_X12_know_268 x1 x2 (nI i) (nI 0) m = f_X12_know_106 x1 x2 (nI i) m' ∧ sa_ [(153, 153, 0)] m m' ∧ ∀ j, j < N → gi_ m' 153 j = ow_ np (a j) := by
  obtain ⟨m1, e1, s1, w1⟩ := lp0_ (n := N) (F := fun j m => f_X12_know_268 x1 x2 (nI i) (nI j) m) (I := fun j m' => sa_ [(153, 153, 0)] m m' ∧ ∀ l, l < j → gi_ m' 153 l = ow_ np (a l)) (fun j m0 hj hI => by
    obtain ⟨i1, i2⟩ := hI
    have g1 : gi_ m0 106 77 = nI N := (sa_gi i1 (by rfl)).trans h1
    have g2 : gi_ m0 106 57 = nI np := (sa_gi i1 (by rfl)).trans h2
    have g3 : gi_ m0 152 j = nI (a j) := (sa_gi i1 (by rfl)).trans (h3 j hj).2
    have aj := (h3 j hj).1
    have fin : ∀ x, x = ow_ np (a j) → sa_ [(153, 153, 0)] m (si_ m0 153 j x) ∧ ∀ l, l < j + 1 → gi_ (si_ m0 153 j x) 153 l = ow_ np (a l) := fun x hx => ⟨sa_si (by rfl) i1, fun l hl => by
      by_cases e : l = j
      · rw [e, gi_si_self, hx]
      · rw [gi_si_ne (by omega)]
        exact i2 l (by omega)⟩
    show ∃ s', f_X12_know_268 x1 x2 (nI i) (nI j) m0 = f_X12_know_268 x1 x2 (nI i) (nI (j + 1)) s' ∧ _
    rw [e_X12_know_268]
    by_cases c : a j = np
    · simp (disch := omega) only [↓reduceIte, ↓ns_m1, ns_let, ns_lef, ns_ltt, ns_ltf, ns_eqt, ns_eqf, ns_gd, nI_clamp, nI_add, pk_sub, pk_mul, ns_m1a, ns_m1b, ns_m1c, ns_m1d, ns_m1e, ns_m1f, ns_m1g, ns_un1, ns_un0, ns_day1, Option.bind_some, gi_si_self, gi_si_ne, gl_si, gi_sl, gl_sl_self, gl_sl_ne, if_true, if_false, ns_i0, ns_i1, ns_i2, ns_i3, ns_i4, ns_i5, ns_i6, ns_i7, ns_i8, ns_i9, ns_i10, ns_i11, ns_i12, ns_i13, ns_i20, ns_i23, ns_i24, ns_i31, ns_i50, ns_i60, ns_i99, ns_i100, ns_i144, ns_i200, ns_i255, ns_i700, ns_i880, ns_i899, ns_i900, ns_i901, ns_i999, ns_i1000, ns_i1440, ns_i4095, ns_i1000000, g1, g2, g3]
      exact ⟨_, rfl, fin _ (by unfold ow_; rw [if_pos c]; rfl)⟩
    · simp (disch := omega) only [↓reduceIte, ↓ns_m1, ns_let, ns_lef, ns_ltt, ns_ltf, ns_eqt, ns_eqf, ns_gd, nI_clamp, nI_add, pk_sub, pk_mul, ns_m1a, ns_m1b, ns_m1c, ns_m1d, ns_m1e, ns_m1f, ns_m1g, ns_un1, ns_un0, ns_day1, Option.bind_some, gi_si_self, gi_si_ne, gl_si, gi_sl, gl_sl_self, gl_sl_ne, if_true, if_false, ns_i0, ns_i1, ns_i2, ns_i3, ns_i4, ns_i5, ns_i6, ns_i7, ns_i8, ns_i9, ns_i10, ns_i11, ns_i12, ns_i13, ns_i20, ns_i23, ns_i24, ns_i31, ns_i50, ns_i60, ns_i99, ns_i100, ns_i144, ns_i200, ns_i255, ns_i700, ns_i880, ns_i899, ns_i900, ns_i901, ns_i999, ns_i1000, ns_i1440, ns_i4095, ns_i1000000, g1, g2, g3]
      exact ⟨_, rfl, fin _ (by unfold ow_; rw [if_neg c])⟩) (s := m) ⟨sa_rf, fun l hl => absurd hl (Nat.not_lt_zero _)⟩
  have e1 : f_X12_know_268 x1 x2 (nI i) (nI 0) m = f_X12_know_268 x1 x2 (nI i) (nI N) m1 := e1
  refine ⟨m1, ?_, s1, w1⟩
  rw [e1, e_X12_know_268]
  have g1 : gi_ m1 106 77 = nI N := (sa_gi s1 (by rfl)).trans h1
  simp (disch := omega) only [↓reduceIte, ↓ns_m1, ns_let, ns_lef, ns_ltt, ns_ltf, ns_eqt, ns_eqf, ns_gd, nI_clamp, nI_add, pk_sub, pk_mul, ns_m1a, ns_m1b, ns_m1c, ns_m1d, ns_m1e, ns_m1f, ns_m1g, ns_un1, ns_un0, ns_day1, Option.bind_some, gi_si_self, gi_si_ne, gl_si, gi_sl, gl_sl_self, gl_sl_ne, if_true, if_false, ns_i0, ns_i1, ns_i2, ns_i3, ns_i4, ns_i5, ns_i6, ns_i7, ns_i8, ns_i9, ns_i10, ns_i11, ns_i12, ns_i13, ns_i20, ns_i23, ns_i24, ns_i31, ns_i50, ns_i60, ns_i99, ns_i100, ns_i144, ns_i200, ns_i255, ns_i700, ns_i880, ns_i899, ns_i900, ns_i901, ns_i999, ns_i1000, ns_i1440, ns_i4095, ns_i1000000, g1]
theorem m1p_ : M1_ + 1 = nI 0 := by decide
theorem ksr_ {W : List (Nat × Nat × Nat)} {P : pl_} {F : List fa_} {T : Nat} {C : List (Nat × Nat × Nat)} (hk : kok_ W P F T C) {R : List Nat} (hR : rds_ F R) {x1 x2 : Int32} : ∀ (k i : Nat) (a : Nat → Nat), i + (k + 1) = R.length → val_ P.length (prr_ F P R) (tgg_ W F C R) a i → ∀ (c p : Nat) (b : bs_) (m : fm_), p + c = P.length + 1 → kst_ W P F T C R i a b m → gi_ m 152 i + 1 = nI p → ∃ m', f_X12_know_106 x1 x2 (nI i) m = f_X12_know_106 x1 x2 (nI i + M1_) m' ∧ kst_ W P F T C R i a (ip_ (fun p b => stp_ P.length (prr_ F P R) (tgg_ W F C R) k i a (sr_ P.length (prr_ F P R) (tgg_ W F C R) k) p b) c p b) m' := by
  have hPl := hk.2.1
  have hl7 := hR.1
  intro k
  induction k with
  | zero =>
    intro i a hN ha c
    induction c with
    | zero =>
      intro p b m hp hm ht
      have ep : p = P.length + 1 := by omega
      rw [ep] at ht
      exact ⟨_, kn_A (by omega) hl7 hPl hm.2.1.1 hm.1.1.1 ht, kst_up hm (Nat.le_refl _)⟩
    | succ c ihc =>
      intro p b m hp hm ht
      have hp2 : p ≤ P.length := by omega
      have hm1 : kst_ W P F T C R i a b (si_ m 152 i (nI p)) := kst_up hm (Nat.le_refl _)
      have g152 : gi_ (si_ m 152 i (nI p)) 152 i = nI p := gi_si_self
      have cb := canb_ hk hm1.1 hR hm1.2.1 (show i < R.length by omega) hp2 hm1.2.2.1 g152
      have er := List.getElem?_eq_getElem (show i < R.length by omega)
      generalize R[i] = r at er
      obtain ⟨q, hq, hq1⟩ := hR.2 r (List.mem_of_getElem? er)
      have v4 := cst_4 (W := W) (C := C) i ha
      show ∃ m', _ ∧ kst_ W P F T C R i a (ip_ _ c (p + 1) (stp_ P.length (prr_ F P R) (tgg_ W F C R) 0 i a (sr_ P.length (prr_ F P R) (tgg_ W F C R) 0) p b)) m'
      unfold stp_
      by_cases hc : cbf_ P.length (prr_ F P R) (tgg_ W F C R) a i p = true
      · rw [hc] at cb
        have x4 := co2_b (F := F) (P := P) (R := R) (i := i) (p := p) (by
          rcases cbf_u.mp hc with h | h
          · exact Or.inr h
          · exact Or.inl h.1)
        have h7 : ¬ p = P.length → f_X12_price (nI r) (nI p) (si_ m 152 i (nI p)) = some (nI (co2_ P.length (prr_ F P R) i p), si_ m 152 i (nI p)) := fun hn => by
          have := pri_m hk hm1.1 er hq hq1 (show p < P.length by omega)
          rw [this]
          unfold co2_
          rw [if_neg hn]
        have h8 : p = P.length → co2_ P.length (prr_ F P R) i p = 4 := fun e => if_pos e
        by_cases hb : btr_ b (cst_ P.length (prr_ F P R) a i + co2_ P.length (prr_ F P R) i p) = true
        · rw [hc, hb]
          simp only [Bool.and_self, if_true]
          have e1 := kn_E (x1 := x1) (x2 := x2) (b := b) hN hl7 hPl hp2 hm.2.1.1 hm.1.1.1 ht cb (hm.2.2.2.1 i (Nat.le_refl _)) hm.2.2.2.2.1 (hm.2.1.2 i r er) h7 h8 x4 (by omega) (fun q hq => ⟨(hm.2.2.2.2.2 q hq).1, by rw [hq] at hb; exact of_decide_eq_true hb⟩)
          have hm2 := kst_pd (l := i + 1) (x := nI (cst_ P.length (prr_ F P R) a i + co2_ P.length (prr_ F P R) i p)) hm1 (by omega)
          have gv := val_ur ha hp2 hc
          obtain ⟨m3, e3, s3, w3⟩ := k268_ (x1 := x1) (x2 := x2) (i := i) (a := ur_ a i p) (m := si_ (si_ (si_ m 152 i (nI p)) 154 (i + 1) (nI (cst_ P.length (prr_ F P R) a i + co2_ P.length (prr_ F P R) i p))) 106 78 (nI (cst_ P.length (prr_ F P R) a i + co2_ P.length (prr_ F P R) i p))) hl7 hPl ((gi_si_ne (by omega)).trans hm2.2.1.1) ((gi_si_ne (by omega)).trans hm2.1.1.1) (fun j hj => ⟨(gv j (by omega)).1, by
            by_cases e : j = i
            · rw [e, ur_s, gi_si_ne (by omega), gi_si_ne (by omega)]
              exact g152
            · rw [show ur_ a i p j = a j from if_neg e, gi_si_ne (by omega), gi_si_ne (by omega)]
              exact (hm1.2.2.1 j (by omega)).2⟩)
          have sA : sa_ [(106, 106, 79)] (si_ (si_ m 152 i (nI p)) 154 (i + 1) (nI (cst_ P.length (prr_ F P R) a i + co2_ P.length (prr_ F P R) i p))) (si_ (si_ (si_ m 152 i (nI p)) 154 (i + 1) (nI (cst_ P.length (prr_ F P R) a i + co2_ P.length (prr_ F P R) i p))) 106 78 (nI (cst_ P.length (prr_ F P R) a i + co2_ P.length (prr_ F P R) i p))) := sa_si (by rfl) sa_rf
          have k3 : kst_ W P F T C R i a (some (cst_ P.length (prr_ F P R) a i + co2_ P.length (prr_ F P R) i p, ur_ a i p)) m3 := by
            obtain ⟨h1, h2, h3, h4, h5⟩ := hm2
            refine ⟨kwm_ag (kwm_ag h1 (sa_ag (by rfl) sA)) (sa_ag (by rfl) s3), ⟨((sa_gi s3 (by rfl)).trans (gi_si_ne (by omega))).trans h2.1, fun j r hj => ((sa_gi s3 (by rfl)).trans (gi_si_ne (by omega))).trans (h2.2 j r hj)⟩, fun j hj => ⟨(h3 j hj).1, ((sa_gi s3 (by rfl)).trans (gi_si_ne (by omega))).trans (h3 j hj).2⟩, fun j hj => ((sa_gi s3 (by rfl)).trans (gi_si_ne (by omega))).trans (h4 j hj), (sa_gi s3 (by rfl)).trans gi_si_self, fun q hq => ?_⟩
            cases hq
            exact ⟨by show _ + _ ≤ 28; omega, w3⟩
          have t3 : gi_ m3 152 i + 1 = nI (p + 1) := by
            rw [((sa_gi s3 (by rfl)).trans (gi_si_ne (by omega))).trans ((gi_si_ne (by omega)).trans g152), nI_1]
          obtain ⟨m4, e4, k4⟩ := ihc (p + 1) _ m3 (by omega) k3 t3
          exact ⟨m4, by rw [e1, e3, e4], k4⟩
        · have hn : ¬ (cbf_ P.length (prr_ F P R) (tgg_ W F C R) a i p && btr_ b (cst_ P.length (prr_ F P R) a i + co2_ P.length (prr_ F P R) i p)) = true := by
            rw [Bool.and_eq_true]
            exact fun x => hb x.2
          rw [if_neg hn]
          cases hbb : b with
          | none => rw [hbb] at hb; exact absurd rfl hb
          | some u =>
            rw [hbb] at hb hm hm1
            have hlt : ¬ cst_ P.length (prr_ F P R) a i + co2_ P.length (prr_ F P R) i p < u.1 := fun x => hb (decide_eq_true x)
            have e1 := kn_C (x1 := x1) (x2 := x2) (b := u.1) (show i < R.length by omega) hl7 hPl hp2 hm.2.1.1 hm.1.1.1 ht cb (hm.2.2.2.1 i (Nat.le_refl _)) hm.2.2.2.2.1 (hm.2.1.2 i r er) h7 h8 x4 (by omega) ((hm.2.2.2.2.2 u rfl).1) (by omega)
            have hm2 := kst_pd (l := i + 1) (x := nI (cst_ P.length (prr_ F P R) a i + co2_ P.length (prr_ F P R) i p)) hm1 (by omega)
            obtain ⟨m4, e4, k4⟩ := ihc (p + 1) _ _ (by omega) hm2 (by rw [gi_si_ne (by omega), g152, nI_1])
            exact ⟨m4, by rw [e1, e4], k4⟩
      · have hcf : cbf_ P.length (prr_ F P R) (tgg_ W F C R) a i p = false := Bool.eq_false_iff.mpr hc
        rw [hcf] at cb ⊢
        rw [Bool.false_and, if_neg (by decide)]
        have e1 := kn_B (x1 := x1) (x2 := x2) (show i < R.length by omega) hl7 hPl hp2 hm.2.1.1 hm.1.1.1 ht cb
        obtain ⟨m4, e4, k4⟩ := ihc (p + 1) b _ (by omega) hm1 (by rw [g152, nI_1])
        exact ⟨m4, by rw [e1, e4], k4⟩
  | succ k ihk =>
    intro i a hN ha c
    induction c with
    | zero =>
      intro p b m hp hm ht
      have ep : p = P.length + 1 := by omega
      rw [ep] at ht
      exact ⟨_, kn_A (by omega) hl7 hPl hm.2.1.1 hm.1.1.1 ht, kst_up hm (Nat.le_refl _)⟩
    | succ c ihc =>
      intro p b m hp hm ht
      have hp2 : p ≤ P.length := by omega
      have hm1 : kst_ W P F T C R i a b (si_ m 152 i (nI p)) := kst_up hm (Nat.le_refl _)
      have g152 : gi_ (si_ m 152 i (nI p)) 152 i = nI p := gi_si_self
      have cb := canb_ hk hm1.1 hR hm1.2.1 (show i < R.length by omega) hp2 hm1.2.2.1 g152
      have er := List.getElem?_eq_getElem (show i < R.length by omega)
      generalize R[i] = r at er
      obtain ⟨q, hq, hq1⟩ := hR.2 r (List.mem_of_getElem? er)
      have v4 := cst_4 (W := W) (C := C) i ha
      show ∃ m', _ ∧ kst_ W P F T C R i a (ip_ _ c (p + 1) (stp_ P.length (prr_ F P R) (tgg_ W F C R) (k + 1) i a (sr_ P.length (prr_ F P R) (tgg_ W F C R) (k + 1)) p b)) m'
      unfold stp_
      by_cases hc : cbf_ P.length (prr_ F P R) (tgg_ W F C R) a i p = true
      · rw [hc] at cb
        have x4 := co2_b (F := F) (P := P) (R := R) (i := i) (p := p) (by
          rcases cbf_u.mp hc with h | h
          · exact Or.inr h
          · exact Or.inl h.1)
        have h7 : ¬ p = P.length → f_X12_price (nI r) (nI p) (si_ m 152 i (nI p)) = some (nI (co2_ P.length (prr_ F P R) i p), si_ m 152 i (nI p)) := fun hn => by
          have := pri_m hk hm1.1 er hq hq1 (show p < P.length by omega)
          rw [this]
          unfold co2_
          rw [if_neg hn]
        have h8 : p = P.length → co2_ P.length (prr_ F P R) i p = 4 := fun e => if_pos e
        by_cases hb : btr_ b (cst_ P.length (prr_ F P R) a i + co2_ P.length (prr_ F P R) i p) = true
        · rw [hc, hb]
          simp only [Bool.and_self, if_true, show ¬ k + 1 = 0 by omega, if_false]
          have e1 := kn_D (x1 := x1) (x2 := x2) (b := b) (show i + 1 < R.length by omega) hl7 hPl hp2 hm.2.1.1 hm.1.1.1 ht cb (hm.2.2.2.1 i (Nat.le_refl _)) hm.2.2.2.2.1 (hm.2.1.2 i r er) h7 h8 x4 (by omega) (fun q hq => ⟨(hm.2.2.2.2.2 q hq).1, by rw [hq] at hb; exact of_decide_eq_true hb⟩)
          have hm2 := kst_pd (l := i + 1) (x := nI (cst_ P.length (prr_ F P R) a i + co2_ P.length (prr_ F P R) i p)) hm1 (by omega)
          have gv := val_ur ha hp2 hc
          have hm3 : kst_ W P F T C R (i + 1) (ur_ a i p) b (si_ (si_ (si_ m 152 i (nI p)) 154 (i + 1) (nI (cst_ P.length (prr_ F P R) a i + co2_ P.length (prr_ F P R) i p))) 152 (i + 1) M1_) := by
            obtain ⟨h1, h2, h3, h4, h5⟩ := kst_up (l := i + 1) (x := M1_) hm2 (by omega)
            refine ⟨h1, h2, fun j hj => ⟨(gv j hj).1, ?_⟩, fun j hj => ?_, h5⟩
            · by_cases e : j = i
              · rw [e, ur_s, gi_si_ne (by omega), gi_si_ne (by omega)]
                exact g152
              · rw [show ur_ a i p j = a j from if_neg e]
                exact (h3 j (by omega)).2
            · by_cases e : j = i + 1
              · rw [e, cst_ur, gi_si_ne (by omega), gi_si_self]
              · rw [cst_c j fun l hl => (show ur_ a i p l = a l from if_neg (by omega))]
                exact h4 j (by omega)
          obtain ⟨m4, e4, k4⟩ := ihk (i + 1) (ur_ a i p) (by omega) gv (P.length + 1) 0 b _ (by omega) hm3 (by rw [gi_si_self]; exact m1p_)
          rw [ns_m1g (show 1 ≤ i + 1 by omega), show i + 1 - 1 = i by omega] at e4
          obtain ⟨k5, t5⟩ := kst_sub k4
          obtain ⟨m6, e6, k6⟩ := ihc (p + 1) _ m4 (by omega) k5 (by rw [t5, nI_1])
          exact ⟨m6, by rw [e1, e4, e6], k6⟩
        · have hn : ¬ (cbf_ P.length (prr_ F P R) (tgg_ W F C R) a i p && btr_ b (cst_ P.length (prr_ F P R) a i + co2_ P.length (prr_ F P R) i p)) = true := by
            rw [Bool.and_eq_true]
            exact fun x => hb x.2
          rw [if_neg hn]
          cases hbb : b with
          | none => rw [hbb] at hb; exact absurd rfl hb
          | some u =>
            rw [hbb] at hb hm hm1
            have hlt : ¬ cst_ P.length (prr_ F P R) a i + co2_ P.length (prr_ F P R) i p < u.1 := fun x => hb (decide_eq_true x)
            have e1 := kn_C (x1 := x1) (x2 := x2) (b := u.1) (show i < R.length by omega) hl7 hPl hp2 hm.2.1.1 hm.1.1.1 ht cb (hm.2.2.2.1 i (Nat.le_refl _)) hm.2.2.2.2.1 (hm.2.1.2 i r er) h7 h8 x4 (by omega) ((hm.2.2.2.2.2 u rfl).1) (by omega)
            have hm2 := kst_pd (l := i + 1) (x := nI (cst_ P.length (prr_ F P R) a i + co2_ P.length (prr_ F P R) i p)) hm1 (by omega)
            obtain ⟨m4, e4, k4⟩ := ihc (p + 1) _ _ (by omega) hm2 (by rw [gi_si_ne (by omega), g152, nI_1])
            exact ⟨m4, by rw [e1, e4], k4⟩
      · have hcf : cbf_ P.length (prr_ F P R) (tgg_ W F C R) a i p = false := Bool.eq_false_iff.mpr hc
        rw [hcf] at cb ⊢
        rw [Bool.false_and, if_neg (by decide)]
        have e1 := kn_B (x1 := x1) (x2 := x2) (show i < R.length by omega) hl7 hPl hp2 hm.2.1.1 hm.1.1.1 ht cb
        obtain ⟨m4, e4, k4⟩ := ihc (p + 1) b _ (by omega) hm1 (by rw [g152, nI_1])
        exact ⟨m4, by rw [e1, e4], k4⟩
/-- what is known of a day -/
def knd_ (W : List (Nat × Nat × Nat)) (P : pl_) (F : List fa_) (C : List (Nat × Nat × Nat)) (R : List Nat) : Nat × (Nat → Nat) := kn_ P.length (prr_ F P R) (tgg_ W F C R) R.length
/-- where the reference holds it -/
def knm_ (W : List (Nat × Nat × Nat)) (P : pl_) (F : List fa_) (C : List (Nat × Nat × Nat)) (R : List Nat) (m : fm_) : Prop := rowm_ R m ∧ gi_ m 106 78 = nI (knd_ W P F C R).1 ∧ ∀ j, j < R.length → gi_ m 153 j = ow_ P.length ((knd_ W P F C R).2 j)
theorem rds_rdk {F : List fa_} {C : List (Nat × Nat × Nat)} (hR : rok_ F C) (d : Nat) (k : Int32) : rds_ F (rdk_ F d k F.length) := by
  refine ⟨Nat.le_trans rdk_len (hR.2 d), fun r hr => ?_⟩
  obtain ⟨_, q, e, e1, _⟩ := rdk_mem hr
  exact ⟨q, e, e1⟩
theorem know_m {W : List (Nat × Nat × Nat)} {P : pl_} {F : List fa_} {T : Nat} {C : List (Nat × Nat × Nat)} (hk : kok_ W P F T C) {m : fm_} (hm : kwm_ W P F T C m) {d : Nat} (hd : d < 100) (k : Int32) : ∃ m1, f_X12_know (nI d) k m = some (0, m1) ∧ kwm_ W P F T C m1 ∧ knm_ W P F C (rdk_ F d k F.length) m1 := by
  have hl := hk.2.2.1.1
  have hR := rds_rdk hk.2.2.2.2 d k
  obtain ⟨m1, e1, w1, r1⟩ := know7_ hk hm hd k
  generalize rdk_ F d k F.length = R at hR r1
  have e1 : f_X12_know (nI d) k m = f_X12_know_7 (nI d) k (nI F.length) m1 := e1
  have hl7 := hR.1
  unfold knm_ knd_
  by_cases c : R.length = 0
  · have wA : kwm_ W P F T C (si_ (si_ (si_ (si_ m1 106 78 M1_) 154 0 (nI 0)) 152 0 M1_) 106 78 (nI 0)) := kwm_ag w1 (sa_ag (w := [(106, 106, 79), (154, 154, 0), (152, 152, 0)]) (by rfl) (sa_si (by rfl) (sa_si (by rfl) (sa_si (by rfl) (sa_si (by rfl) sa_rf)))))
    have h0 : gi_ m1 106 77 = nI 0 := by rw [r1.1, c]
    refine ⟨_, ?_, wA, ⟨?_, fun j r hj => ?_⟩, ?_, fun j hj => by omega⟩
    · rw [e1, e_X12_know_7]
      simp (disch := omega) only [↓reduceIte, ↓ns_m1, ns_let, ns_lef, ns_ltt, ns_ltf, ns_eqt, ns_eqf, ns_gd, nI_clamp, nI_add, pk_sub, pk_mul, ns_m1a, ns_m1b, ns_m1c, ns_m1d, ns_m1e, ns_m1f, ns_m1g, ns_un1, ns_un0, ns_day1, Option.bind_some, gi_si_self, gi_si_ne, gl_si, gi_sl, gl_sl_self, gl_sl_ne, if_true, if_false, ns_i0, ns_i1, ns_i2, ns_i3, ns_i4, ns_i5, ns_i6, ns_i7, ns_i8, ns_i9, ns_i10, ns_i11, ns_i12, ns_i13, ns_i20, ns_i23, ns_i24, ns_i31, ns_i50, ns_i60, ns_i99, ns_i100, ns_i144, ns_i200, ns_i255, ns_i700, ns_i880, ns_i899, ns_i900, ns_i901, ns_i999, ns_i1000, ns_i1440, ns_i4095, ns_i1000000, w1.2.1.1, h0]
      rw [e_X12_know_106]
      simp (disch := omega) only [↓reduceIte, ↓ns_m1, ns_let, ns_lef, ns_ltt, ns_ltf, ns_eqt, ns_eqf, ns_gd, nI_clamp, nI_add, pk_sub, pk_mul, ns_m1a, ns_m1b, ns_m1c, ns_m1d, ns_m1e, ns_m1f, ns_m1g, ns_un1, ns_un0, ns_day1, Option.bind_some, gi_si_self, gi_si_ne, gl_si, gi_sl, gl_sl_self, gl_sl_ne, if_true, if_false, ns_i0, ns_i1, ns_i2, ns_i3, ns_i4, ns_i5, ns_i6, ns_i7, ns_i8, ns_i9, ns_i10, ns_i11, ns_i12, ns_i13, ns_i20, ns_i23, ns_i24, ns_i31, ns_i50, ns_i60, ns_i99, ns_i100, ns_i144, ns_i200, ns_i255, ns_i700, ns_i880, ns_i899, ns_i900, ns_i901, ns_i999, ns_i1000, ns_i1440, ns_i4095, ns_i1000000, h0]
    · rw [c]
      simp (disch := omega) only [↓reduceIte, ↓ns_m1, ns_let, ns_lef, ns_ltt, ns_ltf, ns_eqt, ns_eqf, ns_gd, nI_clamp, nI_add, pk_sub, pk_mul, ns_m1a, ns_m1b, ns_m1c, ns_m1d, ns_m1e, ns_m1f, ns_m1g, ns_un1, ns_un0, ns_day1, Option.bind_some, gi_si_self, gi_si_ne, gl_si, gi_sl, gl_sl_self, gl_sl_ne, if_true, if_false, ns_i0, ns_i1, ns_i2, ns_i3, ns_i4, ns_i5, ns_i6, ns_i7, ns_i8, ns_i9, ns_i10, ns_i11, ns_i12, ns_i13, ns_i20, ns_i23, ns_i24, ns_i31, ns_i50, ns_i60, ns_i99, ns_i100, ns_i144, ns_i200, ns_i255, ns_i700, ns_i880, ns_i899, ns_i900, ns_i901, ns_i999, ns_i1000, ns_i1440, ns_i4095, ns_i1000000, h0]
    · rw [List.length_eq_zero_iff.mp c] at hj
      cases hj
    · rw [c, gi_si_self]
      rfl
  · obtain ⟨n, hn⟩ : ∃ n, R.length = n + 1 := ⟨R.length - 1, by omega⟩
    have k0 : kst_ W P F T C R 0 (fun _ => 0) none (si_ (si_ (si_ m1 106 78 M1_) 154 0 (nI 0)) 152 0 M1_) := by
      refine ⟨kwm_ag w1 (sa_ag (w := [(106, 106, 79), (154, 154, 0), (152, 152, 0)]) (by rfl) (sa_si (by rfl) (sa_si (by rfl) (sa_si (by rfl) sa_rf)))), ⟨?_, fun j r hj => ?_⟩, fun j hj => by omega, fun j hj => ?_, ?_, fun q hq => by cases hq⟩
      · simp (disch := omega) only [↓reduceIte, ↓ns_m1, ns_let, ns_lef, ns_ltt, ns_ltf, ns_eqt, ns_eqf, ns_gd, nI_clamp, nI_add, pk_sub, pk_mul, ns_m1a, ns_m1b, ns_m1c, ns_m1d, ns_m1e, ns_m1f, ns_m1g, ns_un1, ns_un0, ns_day1, Option.bind_some, gi_si_self, gi_si_ne, gl_si, gi_sl, gl_sl_self, gl_sl_ne, if_true, if_false, ns_i0, ns_i1, ns_i2, ns_i3, ns_i4, ns_i5, ns_i6, ns_i7, ns_i8, ns_i9, ns_i10, ns_i11, ns_i12, ns_i13, ns_i20, ns_i23, ns_i24, ns_i31, ns_i50, ns_i60, ns_i99, ns_i100, ns_i144, ns_i200, ns_i255, ns_i700, ns_i880, ns_i899, ns_i900, ns_i901, ns_i999, ns_i1000, ns_i1440, ns_i4095, ns_i1000000]
        exact r1.1
      · have := r1.2 j r hj
        simp (disch := omega) only [↓reduceIte, ↓ns_m1, ns_let, ns_lef, ns_ltt, ns_ltf, ns_eqt, ns_eqf, ns_gd, nI_clamp, nI_add, pk_sub, pk_mul, ns_m1a, ns_m1b, ns_m1c, ns_m1d, ns_m1e, ns_m1f, ns_m1g, ns_un1, ns_un0, ns_day1, Option.bind_some, gi_si_self, gi_si_ne, gl_si, gi_sl, gl_sl_self, gl_sl_ne, if_true, if_false, ns_i0, ns_i1, ns_i2, ns_i3, ns_i4, ns_i5, ns_i6, ns_i7, ns_i8, ns_i9, ns_i10, ns_i11, ns_i12, ns_i13, ns_i20, ns_i23, ns_i24, ns_i31, ns_i50, ns_i60, ns_i99, ns_i100, ns_i144, ns_i200, ns_i255, ns_i700, ns_i880, ns_i899, ns_i900, ns_i901, ns_i999, ns_i1000, ns_i1440, ns_i4095, ns_i1000000]
        exact this
      · rw [show j = 0 by omega]
        simp (disch := omega) only [↓reduceIte, ↓ns_m1, ns_let, ns_lef, ns_ltt, ns_ltf, ns_eqt, ns_eqf, ns_gd, nI_clamp, nI_add, pk_sub, pk_mul, ns_m1a, ns_m1b, ns_m1c, ns_m1d, ns_m1e, ns_m1f, ns_m1g, ns_un1, ns_un0, ns_day1, Option.bind_some, gi_si_self, gi_si_ne, gl_si, gi_sl, gl_sl_self, gl_sl_ne, if_true, if_false, ns_i0, ns_i1, ns_i2, ns_i3, ns_i4, ns_i5, ns_i6, ns_i7, ns_i8, ns_i9, ns_i10, ns_i11, ns_i12, ns_i13, ns_i20, ns_i23, ns_i24, ns_i31, ns_i50, ns_i60, ns_i99, ns_i100, ns_i144, ns_i200, ns_i255, ns_i700, ns_i880, ns_i899, ns_i900, ns_i901, ns_i999, ns_i1000, ns_i1440, ns_i4095, ns_i1000000]
        rfl
      · simp (disch := omega) only [↓reduceIte, ↓ns_m1, ns_let, ns_lef, ns_ltt, ns_ltf, ns_eqt, ns_eqf, ns_gd, nI_clamp, nI_add, pk_sub, pk_mul, ns_m1a, ns_m1b, ns_m1c, ns_m1d, ns_m1e, ns_m1f, ns_m1g, ns_un1, ns_un0, ns_day1, Option.bind_some, gi_si_self, gi_si_ne, gl_si, gi_sl, gl_sl_self, gl_sl_ne, if_true, if_false, ns_i0, ns_i1, ns_i2, ns_i3, ns_i4, ns_i5, ns_i6, ns_i7, ns_i8, ns_i9, ns_i10, ns_i11, ns_i12, ns_i13, ns_i20, ns_i23, ns_i24, ns_i31, ns_i50, ns_i60, ns_i99, ns_i100, ns_i144, ns_i200, ns_i255, ns_i700, ns_i880, ns_i899, ns_i900, ns_i901, ns_i999, ns_i1000, ns_i1440, ns_i4095, ns_i1000000]
        rfl
    obtain ⟨m2, e2, k2⟩ := ksr_ hk hR (x1 := nI d) (x2 := k) n 0 (fun _ => 0) (by omega) (fun j hj => by omega) (P.length + 1) 0 none _ (by omega) k0 (by rw [gi_si_self]; exact m1p_)
    have e3 : f_X12_know (nI d) k m = some (0, m2) := by
      rw [e1, e_X12_know_7]
      simp (disch := omega) only [↓reduceIte, ↓ns_m1, ns_let, ns_lef, ns_ltt, ns_ltf, ns_eqt, ns_eqf, ns_gd, nI_clamp, nI_add, pk_sub, pk_mul, ns_m1a, ns_m1b, ns_m1c, ns_m1d, ns_m1e, ns_m1f, ns_m1g, ns_un1, ns_un0, ns_day1, Option.bind_some, gi_si_self, gi_si_ne, gl_si, gi_sl, gl_sl_self, gl_sl_ne, if_true, if_false, ns_i0, ns_i1, ns_i2, ns_i3, ns_i4, ns_i5, ns_i6, ns_i7, ns_i8, ns_i9, ns_i10, ns_i11, ns_i12, ns_i13, ns_i20, ns_i23, ns_i24, ns_i31, ns_i50, ns_i60, ns_i99, ns_i100, ns_i144, ns_i200, ns_i255, ns_i700, ns_i880, ns_i899, ns_i900, ns_i901, ns_i999, ns_i1000, ns_i1440, ns_i4095, ns_i1000000, w1.2.1.1, r1.1]
      rw [e2, e_X12_know_106, show nI 0 + M1_ = M1_ by decide, if_pos (show M1_ < 0 by decide)]
      rfl
    obtain ⟨q, s1, s2, s3, s4, s5⟩ := sr_min (pr := prr_ F P R) (tg := tgg_ W F C R) hk.2.1 hl7 n 0 (fun _ => 0) none (by omega) (fun j hj => by omega) (fun q h => by cases h)
    have s1 : ip_ (fun p b => stp_ P.length (prr_ F P R) (tgg_ W F C R) n 0 (fun _ => 0) (sr_ P.length (prr_ F P R) (tgg_ W F C R) n) p b) (P.length + 1) 0 none = some q := s1
    have s6 : sr_ P.length (prr_ F P R) (tgg_ W F C R) R.length 0 (fun _ => 0) none = some q := by rw [hn]; exact s1
    rw [s1] at k2
    have ek : kn_ P.length (prr_ F P R) (tgg_ W F C R) R.length = q := by unfold kn_; rw [s6]
    rw [ek]
    exact ⟨m2, e3, k2.1, k2.2.1, k2.2.2.2.2.1, (k2.2.2.2.2.2 q rfl).2⟩
