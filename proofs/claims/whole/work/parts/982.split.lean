/-! ===== one token of the class ===== -/
def apt_ (T : List tkn_) (s : Nat × Nat × Nat) (i : Nat) : List tkn_ := if s.1 = 1 then T else T ++ [(s.1, s.2.1, i)]
theorem snb_c {L : List Nat} {m : fm_} (h : bc9_ L m) {T : List tkn_} (ht : tkr_ T m) (hT : T.length ≤ 900) {i b : Nat} {r : List Nat} (hl : L.drop i = b :: r) (hd : isd_ b = true) : ∃ m1, f_X8_scanNumber (nI i) m = some (nI (i + (scn_ (b :: r)).2.2), m1) ∧ sa_ ptw_ m m1 ∧ tkr_ (apt_ T (scn_ (b :: r)) i) m1 := by
  obtain ⟨k1, k2, k3⟩ := drop_p hl
  have h9 := h.1
  have hle := run_le (p := isd_) (b :: r)
  have hlen : (b :: r).length = L.length - i := by rw [← hl, List.length_drop]
  rw [hlen] at hle
  have hra := run_all (p := isd_) (b :: r)
  have e1 : f_X8_digitsEnd (nI i) m = some (nI (i + run_ isd_ (b :: r)), m) := dge_c h (b :: r) i hl (by omega)
  have e2 := byt_c h (i := i + run_ isd_ (b :: r)) (by omega)
  have e3 := lec_c h (j := i + run_ isd_ (b :: r)) (by omega)
  have ed : L.drop (i + run_ isd_ (b :: r)) = (b :: r).drop (run_ isd_ (b :: r)) := by rw [← hl, List.drop_drop]
  rw [ed] at e3
  have hsc : scn_ (b :: r) = if 4 < run_ isd_ (b :: r) ∨ hdl_ ((b :: r).drop (run_ isd_ (b :: r))) = true then (1, 0, 0) else (2, nmv_ ((b :: r).take (run_ isd_ (b :: r))) 0, run_ isd_ (b :: r)) := by
    show (if isd_ b = true then _ else _) = _
    rw [if_pos hd]
  rw [hsc]
  unfold f_X8_scanNumber apt_
  by_cases c1 : 4 < run_ isd_ (b :: r)
  · rw [if_pos (Or.inl c1)]
    refine ⟨m, ?_, sa_rf, ht⟩
    rw [e1]
    generalize run_ isd_ (b :: r) = d at *
    simp (disch := omega) only [↓reduceIte, ↓ns_m1, ns_let, ns_lef, ns_ltt, ns_ltf, ns_eqt, ns_eqf, ns_gd, nI_clamp, nI_add, pk_sub, pk_mul, ns_m1a, ns_m1b, ns_m1c, ns_m1d, ns_m1e, ns_m1f, ns_m1g, ns_un1, ns_un0, ns_day1, Option.bind_some, gi_si_self, gi_si_ne, gl_si, gi_sl, gl_sl_self, gl_sl_ne, if_true, if_false, ns_i0, ns_i1, ns_i2, ns_i3, ns_i4, ns_i5, ns_i6, ns_i7, ns_i8, ns_i9, ns_i10, ns_i11, ns_i12, ns_i13, ns_i20, ns_i23, ns_i24, ns_i31, ns_i50, ns_i60, ns_i99, ns_i100, ns_i144, ns_i200, ns_i255, ns_i700, ns_i880, ns_i899, ns_i900, ns_i901, ns_i999, ns_i1000, ns_i1440, ns_i4095, ns_i1000000, pk_sub, Nat.add_sub_cancel_left]
    rfl
  · by_cases c2 : hdl_ ((b :: r).drop (run_ isd_ (b :: r))) = true
    · rw [if_pos (Or.inr c2)]
      refine ⟨m, ?_, sa_rf, ht⟩
      rw [c2] at e3
      rw [e1]
      generalize run_ isd_ (b :: r) = d at *
      simp (disch := omega) only [↓reduceIte, ↓ns_m1, ns_let, ns_lef, ns_ltt, ns_ltf, ns_eqt, ns_eqf, ns_gd, nI_clamp, nI_add, pk_sub, pk_mul, ns_m1a, ns_m1b, ns_m1c, ns_m1d, ns_m1e, ns_m1f, ns_m1g, ns_un1, ns_un0, ns_day1, Option.bind_some, gi_si_self, gi_si_ne, gl_si, gi_sl, gl_sl_self, gl_sl_ne, if_true, if_false, ns_i0, ns_i1, ns_i2, ns_i3, ns_i4, ns_i5, ns_i6, ns_i7, ns_i8, ns_i9, ns_i10, ns_i11, ns_i12, ns_i13, ns_i20, ns_i23, ns_i24, ns_i31, ns_i50, ns_i60, ns_i99, ns_i100, ns_i144, ns_i200, ns_i255, ns_i700, ns_i880, ns_i899, ns_i900, ns_i901, ns_i999, ns_i1000, ns_i1440, ns_i4095, ns_i1000000, pk_sub, Nat.add_sub_cancel_left, e2, e3, show b01_ true = nI 1 from rfl]
      rfl
    · rw [if_neg (by intro q; rcases q with q | q; exact c1 q; exact c2 q)]
      have en : f_X8_numberIn (nI i) (nI (i + run_ isd_ (b :: r))) m = some (nI (nmv_ ((b :: r).take (run_ isd_ (b :: r))) 0), m) := nmi_c h _ i 0 _ (by rw [hl]) hra.2 (by omega) (by omega) hra.1 (Nat.pow_pos (by omega))
      obtain ⟨m1, p1, p2, p3⟩ := put_c ht hT 2 (nmv_ ((b :: r).take (run_ isd_ (b :: r))) 0) i
      have p1 : f_X8_put (nI 2) (nI (nmv_ ((b :: r).take (run_ isd_ (b :: r))) 0)) (nI i) m = some (0, m1) := p1
      refine ⟨m1, ?_, p3, p2⟩
      rw [Bool.eq_false_iff.mpr c2] at e3
      rw [e1]
      generalize hg : run_ isd_ (b :: r) = d at *
      simp (disch := omega) only [↓reduceIte, ↓ns_m1, ns_let, ns_lef, ns_ltt, ns_ltf, ns_eqt, ns_eqf, ns_gd, nI_clamp, nI_add, pk_sub, pk_mul, ns_m1a, ns_m1b, ns_m1c, ns_m1d, ns_m1e, ns_m1f, ns_m1g, ns_un1, ns_un0, ns_day1, Option.bind_some, gi_si_self, gi_si_ne, gl_si, gi_sl, gl_sl_self, gl_sl_ne, if_true, if_false, ns_i0, ns_i1, ns_i2, ns_i3, ns_i4, ns_i5, ns_i6, ns_i7, ns_i8, ns_i9, ns_i10, ns_i11, ns_i12, ns_i13, ns_i20, ns_i23, ns_i24, ns_i31, ns_i50, ns_i60, ns_i99, ns_i100, ns_i144, ns_i200, ns_i255, ns_i700, ns_i880, ns_i899, ns_i900, ns_i901, ns_i999, ns_i1000, ns_i1440, ns_i4095, ns_i1000000, pk_sub, Nat.add_sub_cancel_left, e2, e3, en, p1, show b01_ false = nI 0 from rfl]
theorem wen_c {L : List Nat} {m : fm_} (h : bc9_ L m) {x1 : Nat} (hx : x1 ≤ 900) : ∀ (l : List Nat) (i : Nat), L.drop i = l → i ≤ 900 → x1 ≤ i → ∃ z : Nat → fm_ → Option (Int32 × fm_), f_X8_scanWord_2 (nI x1) (nI i) m = (if 8 < i + run_ isl_ l - x1 then some (nI x1, m) else Option.bind (f_X8_lineWord (nI x1) (nI (i + run_ isl_ l)) m) fun q => if q.1 = 4 then Option.bind (f_X8_innerWord (nI x1) (nI (i + run_ isl_ l)) q.2) fun q2 => Option.bind (f_X8_put q2.1 0 (nI x1) q2.2) fun q3 => some (nI (i + run_ isl_ l), q3.2) else Option.bind (f_X8_put q.1 0 (nI x1) q.2) fun q3 => some (nI (i + run_ isl_ l), q3.2)) := by
  have h1 := h.1
  have h2 := h.2.1
  intro l
  induction l with
  | nil =>
    intro i hl hi hx1
    have : L.length ≤ i := by
      have := congrArg List.length hl
      rw [List.length_drop, List.length_nil] at this
      omega
    refine ⟨fun _ _ => none, ?_⟩
    rw [e_X8_scanWord_2, h2, if_pos (nI_le this (by omega)), pk_sub (by omega), show run_ isl_ [] = 0 from rfl, Nat.add_zero]
    by_cases c : 8 < i - x1
    · rw [if_pos c, if_neg (show ¬ nI (i - x1) ≤ 8 from nI_ge c (by omega))]
    · rw [if_neg c, if_pos (show nI (i - x1) ≤ 8 from show nI (i - x1) ≤ nI 8 from nI_le (by omega) (by omega))]
  | cons b l ih =>
    intro i hl hi hx1
    obtain ⟨k1, k2, k3⟩ := drop_p hl
    obtain ⟨hb, _⟩ := h.2.2 i b k1
    have e1 : f_X8_byteAt (nI i) m = some (nI b, m) := by
      rw [byt_c h (i := i) (by omega)]; unfold byt_; rw [k1]
    have e2 := isl_c hb m
    refine ⟨fun _ _ => none, ?_⟩
    rw [e_X8_scanWord_2, h2, if_neg (nI_ge k3 (by omega)), e1, Option.bind_some, e2, Option.bind_some]
    unfold run_
    by_cases c : isl_ b = true
    · obtain ⟨_, e⟩ := ih (i + 1) k2 (by omega) (by omega)
      rw [c, if_pos rfl, if_neg (show ¬ b01_ true = 0 by decide)]
      have ea : i + 1 + run_ isl_ l = i + (run_ isl_ l + 1) := by omega
      rw [ea] at e
      show f_X8_scanWord_2 (nI x1) (nI i + nI 1) m = _
      rw [nI_add]
      exact e
    · rw [if_neg c, Bool.eq_false_iff.mpr c, if_pos (show b01_ false = 0 by decide), Nat.add_zero, pk_sub (by omega)]
      by_cases c : 8 < i - x1
      · rw [if_pos c, if_neg (show ¬ nI (i - x1) ≤ 8 from nI_ge c (by omega))]
      · rw [if_neg c, if_pos (show nI (i - x1) ≤ 8 from show nI (i - x1) ≤ nI 8 from nI_le (by omega) (by omega))]
def swd_ (l : List Nat) : Nat × Nat × Nat := if 8 < run_ isl_ l then (1, 0, 0) else (wkd_ (l.take (run_ isl_ l)), 0, run_ isl_ l)
theorem swd_c {L : List Nat} {m : fm_} (h : bc9_ L m) {T : List tkn_} (ht : tkr_ T m) (hT : T.length ≤ 900) {i b : Nat} {r : List Nat} (hl : L.drop i = b :: r) : ∃ m1, f_X8_scanWord (nI i) m = some (nI (i + (swd_ (b :: r)).2.2), m1) ∧ sa_ ptw_ m m1 ∧ tkr_ (apt_ T (swd_ (b :: r)) i) m1 := by
  obtain ⟨k1, k2, k3⟩ := drop_p hl
  have h9 := h.1
  have hle := run_le (p := isl_) (b :: r)
  have hlen : (b :: r).length = L.length - i := by rw [← hl, List.length_drop]
  rw [hlen] at hle
  have hra := run_all (p := isl_) (b :: r)
  obtain ⟨_, e⟩ := wen_c h (x1 := i) (by omega) (b :: r) i hl (by omega) (Nat.le_refl _)
  have el := lin_c h (w := (b :: r).take (run_ isl_ (b :: r))) (i := i) (n := run_ isl_ (b :: r)) (by rw [hl]) hra.2 (by omega)
  have ei := inn_c h (w := (b :: r).take (run_ isl_ (b :: r))) (i := i) (n := run_ isl_ (b :: r)) (by rw [hl]) hra.2 (by omega)
  have ew := wkd_a (w := (b :: r).take (run_ isl_ (b :: r)))
  have eb := wkd_b ((b :: r).take (run_ isl_ (b :: r)))
  have b1 := fwk_b (w := (b :: r).take (run_ isl_ (b :: r))) [0, 1, 2, 3, 4, 5, 6, 7, 8] (by decide)
  unfold swd_
  unfold f_X8_scanWord
  rw [e, el, Nat.add_sub_cancel_left]
  by_cases c : 8 < run_ isl_ (b :: r)
  · rw [if_pos c, if_pos c]
    exact ⟨m, rfl, sa_rf, ht⟩
  · rw [if_neg c, if_neg c, Option.bind_some]
    obtain ⟨m1, p1, p2, p3⟩ := put_c ht hT (wkd_ ((b :: r).take (run_ isl_ (b :: r)))) 0 i
    have p1 : f_X8_put (nI (wkd_ ((b :: r).take (run_ isl_ (b :: r))))) 0 (nI i) m = some (0, m1) := p1
    refine ⟨m1, ?_, p3, ?_⟩
    · by_cases c4 : fwk_ ((b :: r).take (run_ isl_ (b :: r))) [0, 1, 2, 3, 4, 5, 6, 7, 8] = 4
      · rw [if_pos c4] at ew
        rw [if_pos (by rw [c4]; rfl), ei, Option.bind_some, ← ew, p1]
        rfl
      · rw [if_neg c4] at ew
        rw [if_neg (show ¬ nI (fwk_ _ _) = 4 from fun q => c4 ((nI_eq (by omega) (by omega)).mp q)), ← ew, p1]
        rfl
    · unfold apt_
      rw [if_neg (by show ¬ wkd_ _ = 1; omega)]
      exact p2
