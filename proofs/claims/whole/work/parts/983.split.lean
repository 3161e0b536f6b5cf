/-! ===== the class splits the tape ===== -/
theorem spt_c {L : List Nat} {m : fm_} (h : bc9_ L m) {T : List tkn_} (ht : tkr_ T m) (hT : T.length ≤ 900) {i b : Nat} {r : List Nat} (hl : L.drop i = b :: r) : (ptk_ r = true ∧ ∃ m1, f_X8_scanPoint (nI i) m = some (nI (i + (run_ isd_ r + 1)), m1) ∧ sa_ ptw_ m m1 ∧ tkr_ (T ++ [(3, nmv_ (r.take (run_ isd_ r)) 0, i)]) m1) ∨ (ptk_ r = false ∧ f_X8_scanPoint (nI i) m = some (nI i, m)) := by
  obtain ⟨k1, k2, k3⟩ := drop_p hl
  have h9 := h.1
  have hle := run_le (p := isd_) r
  have hlen : r.length = L.length - (i + 1) := by rw [← k2, List.length_drop]
  rw [hlen] at hle
  have hra := run_all (p := isd_) r
  have e1 : f_X8_digitsEnd (nI i + 1) m = some (nI (i + 1 + run_ isd_ r), m) := by
    show f_X8_digitsEnd (nI i + nI 1) m = _
    rw [nI_add]
    exact dge_c h r (i + 1) k2 (by omega)
  have e2 := byt_c h (i := i + 1 + run_ isd_ r) (by omega)
  have e3 := lec_c h (j := i + 1 + run_ isd_ r) (by omega)
  have ed : L.drop (i + 1 + run_ isd_ r) = r.drop (run_ isd_ r) := by rw [← k2, List.drop_drop]
  rw [ed] at e3
  have es : nI (i + 1 + run_ isd_ r) - nI i - 1 = nI (run_ isd_ r) := by
    show nI (i + 1 + run_ isd_ r) - nI i - nI 1 = _
    rw [pk_sub (by omega), pk_sub (by omega), show i + 1 + run_ isd_ r - i - 1 = run_ isd_ r by omega]
  unfold f_X8_scanPoint ptk_
  rw [e1]
  simp only [Option.bind_some, es]
  by_cases c1 : 1 ≤ run_ isd_ r
  · by_cases c2 : run_ isd_ r ≤ 2
    · rw [if_neg (show ¬ nI (run_ isd_ r) < 1 from show ¬ nI (run_ isd_ r) < nI 1 from nI_nlt c1 (by omega)), if_neg (show ¬ (2 : Int32) < nI (run_ isd_ r) from show ¬ nI 2 < nI (run_ isd_ r) from nI_nlt c2 (by omega)), e2, Option.bind_some, e3, Option.bind_some]
      by_cases c3 : hdl_ (r.drop (run_ isd_ r)) = true
      · rw [c3, if_neg (show ¬ b01_ true = 0 by decide)]
        refine Or.inr ⟨decide_eq_false (fun q => by cases q.2.2.1), rfl⟩
      · have c3 := Bool.eq_false_iff.mpr c3
        have en : f_X8_numberIn (nI i + 1) (nI (i + 1 + run_ isd_ r)) m = some (nI (nmv_ (r.take (run_ isd_ r)) 0), m) := by
          show f_X8_numberIn (nI i + nI 1) _ m = _
          rw [nI_add]
          exact nmi_c h _ (i + 1) 0 _ (by rw [k2]) hra.2 (by omega) (by omega) hra.1 (Nat.pow_pos (by omega))
        have hb := nmv_b _ 0 _ hra.2 (by omega) hra.1 (Nat.pow_pos (by omega))
        rw [c3, if_pos (show b01_ false = 0 by decide), en, Option.bind_some]
        by_cases c4 : nmv_ (r.take (run_ isd_ r)) 0 < 12
        · obtain ⟨m1, p1, p2, p3⟩ := put_c ht hT 3 (nmv_ (r.take (run_ isd_ r)) 0) i
          have p1 : f_X8_put 3 (nI (nmv_ (r.take (run_ isd_ r)) 0)) (nI i) m = some (0, m1) := p1
          refine Or.inl ⟨decide_eq_true ⟨c1, c2, rfl, c4⟩, m1, ?_, p3, p2⟩
          rw [if_pos (show nI (nmv_ (r.take (run_ isd_ r)) 0) < 12 from show nI (nmv_ (r.take (run_ isd_ r)) 0) < nI 12 from nI_lt c4 (by omega)), p1, Option.bind_some, show i + 1 + run_ isd_ r = i + (run_ isd_ r + 1) by omega]
        · refine Or.inr ⟨decide_eq_false (fun q => c4 q.2.2.2), ?_⟩
          rw [if_neg (show ¬ nI (nmv_ (r.take (run_ isd_ r)) 0) < 12 from show ¬ nI (nmv_ (r.take (run_ isd_ r)) 0) < nI 12 from nI_nlt (by omega) (by omega))]
    · rw [if_neg (show ¬ nI (run_ isd_ r) < 1 from show ¬ nI (run_ isd_ r) < nI 1 from nI_nlt c1 (by omega)), if_pos (show (2 : Int32) < nI (run_ isd_ r) from show nI 2 < nI (run_ isd_ r) from nI_lt (by omega) (by omega))]
      exact Or.inr ⟨decide_eq_false (fun q => c2 q.2.1), rfl⟩
  · rw [if_pos (show nI (run_ isd_ r) < 1 from show nI (run_ isd_ r) < nI 1 from nI_lt (by omega) (by omega))]
    exact Or.inr ⟨decide_eq_false (fun q => c1 q.1), rfl⟩
theorem scan_c {L : List Nat} {m : fm_} (h : bc9_ L m) {T : List tkn_} (ht : tkr_ T m) (hT : T.length ≤ 900) {i b : Nat} {r : List Nat} (hl : L.drop i = b :: r) : ∃ m1, f_X8_scan (nI i) m = some (nI (i + (scn_ (b :: r)).2.2), m1) ∧ sa_ ptw_ m m1 ∧ tkr_ (apt_ T (scn_ (b :: r)) i) m1 := by
  obtain ⟨k1, k2, k3⟩ := drop_p hl
  have h9 := h.1
  obtain ⟨hb, _⟩ := h.2.2 i b k1
  have e1 : f_X8_byteAt (nI i) m = some (nI b, m) := by
    rw [byt_c h (i := i) (by omega)]; unfold byt_; rw [k1]
  unfold f_X8_scan
  rw [e1]
  simp only [Option.bind_some, isd_c hb]
  by_cases c1 : isd_ b = true
  · obtain ⟨m1, q1, q2, q3⟩ := snb_c h ht hT hl c1
    rw [c1, if_neg (show ¬ b01_ true = 0 by decide), q1]
    exact ⟨m1, rfl, q2, q3⟩
  · rw [Bool.eq_false_iff.mpr c1, if_pos (show b01_ false = 0 by decide)]
    simp only [Option.bind_some, isl_c hb]
    by_cases c2 : isl_ b = true
    · have hsc : scn_ (b :: r) = if b = 112 ∧ ptk_ r = true then (3, nmv_ (r.take (run_ isd_ r)) 0, run_ isd_ r + 1) else swd_ (b :: r) := by
        show (if isd_ b = true then _ else if isl_ b = true then _ else _) = _
        rw [if_neg c1, if_pos c2]
        rfl
      rw [c2, if_neg (show ¬ b01_ true = 0 by decide)]
      obtain ⟨m2, q1, q2, q3⟩ := swd_c h ht hT hl
      by_cases c3 : b = 112
      · subst c3
        rw [if_pos (show nI 112 = 112 from rfl)]
        rcases spt_c h ht hT hl with ⟨g1, m1, g2, g3, g4⟩ | ⟨g1, g2⟩
        · rw [hsc, if_pos ⟨rfl, g1⟩, g2]
          refine ⟨m1, ?_, g3, g4⟩
          simp only [Option.bind_some]
          rw [if_neg (nI_ge (by omega) (by have := run_le (p := isd_) r; have : r.length = L.length - (i + 1) := by rw [← k2, List.length_drop]
                                           omega))]
        · rw [hsc, if_neg (by intro q; rw [g1] at q; cases q.2), g2]
          refine ⟨m2, ?_, q2, q3⟩
          simp only [Option.bind_some]
          rw [if_pos (nI_le (Nat.le_refl _) (by omega)), q1]
          rfl
      · rw [hsc, if_neg (show ¬ (b = 112 ∧ ptk_ r = true) from fun q => c3 q.1), if_neg (show ¬ nI b = 112 from show ¬ nI b = nI 112 from fun q => c3 ((nI_eq (by omega) (by omega)).mp q)), if_pos (nI_le (Nat.le_refl _) (by omega)), q1]
        exact ⟨m2, rfl, q2, q3⟩
    · rw [Bool.eq_false_iff.mpr c2, if_pos (show b01_ false = 0 by decide)]
      simp only [Option.bind_some, mrk_c hb]
      have hsc : scn_ (b :: r) = if mrk_ b = true then (b, 0, 1) else (1, 0, 0) := by
        show (if isd_ b = true then _ else if isl_ b = true then _ else _) = _
        rw [if_neg c1, if_neg c2]
      rw [hsc]
      by_cases c3 : mrk_ b = true
      · have hm := of_decide_eq_true c3
        obtain ⟨m1, p1, p2, p3⟩ := put_c ht hT b 0 i
        have p1 : f_X8_put (nI b) 0 (nI i) m = some (0, m1) := p1
        rw [c3, if_pos rfl, if_neg (show ¬ b01_ true = 0 by decide), p1]
        refine ⟨m1, ?_, p3, ?_⟩
        · show some (nI i + nI 1, m1) = _
          rw [nI_add]
        · unfold apt_
          rw [if_neg (by show ¬ b = 1; omega)]
          exact p2
      · rw [if_neg c3, Bool.eq_false_iff.mpr c3, if_pos (show b01_ false = 0 by decide)]
        exact ⟨m, rfl, sa_rf, ht⟩
/-- blanks are gone over -/
def sk_ (L : List Nat) (i : Nat) : Nat := i + run_ blk_ (L.drop i)
/-- the tokens from a place on -/
def Tk_ (L : List Nat) : List tkn_ → Nat → Prop
  | [], _ => False
  | t :: ts, i => t = ((scn_ (L.drop (sk_ L i))).1, (scn_ (L.drop (sk_ L i))).2.1, sk_ L i) ∧ (if t.1 ≤ 1 then ts = [] else Tk_ L ts (sk_ L i + (scn_ (L.drop (sk_ L i))).2.2))
theorem Tk_b {L : List Nat} {i b : Nat} {r : List Nat} (hl : L.drop i = b :: r) (hb : blk_ b = true) {ts : List tkn_} (h : Tk_ L ts (i + 1)) : Tk_ L ts i := by
  obtain ⟨k1, k2, k3⟩ := drop_p hl
  have : sk_ L i = sk_ L (i + 1) := by
    unfold sk_
    rw [hl, k2]
    show i + (if blk_ b = true then run_ blk_ r + 1 else 0) = _
    rw [if_pos hb]
    omega
  cases ts with
  | nil => exact h
  | cons t ts =>
    unfold Tk_ at h ⊢
    rw [this]
    exact h
theorem sk_e {L : List Nat} {i : Nat} (h : L.length ≤ i) : sk_ L i = i := by
  unfold sk_
  rw [List.drop_of_length_le h]
  rfl
theorem sk_n {L : List Nat} {i b : Nat} {r : List Nat} (hl : L.drop i = b :: r) (hb : blk_ b = false) : sk_ L i = i := by
  unfold sk_
  rw [hl]
  show i + (if blk_ b = true then run_ blk_ r + 1 else 0) = _
  rw [hb]
  rfl
theorem split1_c {L : List Nat} : ∀ (d i n : Nat) (T : List tkn_) (m : fm_), d = L.length - i → i ≤ L.length → n ≤ i → T.length ≤ i → bc9_ L m → tkr_ T m → ∃ m1 ts, f_X8_split_13 (nI i) (nI n) m = some (0, m1) ∧ Tk_ L ts i ∧ tkr_ (T ++ ts) m1 ∧ (T ++ ts).length ≤ 901 ∧ sa_ ptw_ m m1 := by
  intro d
  induction d using Nat.strongRecOn with
  | ind d ih =>
    intro i n T m hd hi hn hT h ht
    have h9 := h.1
    have h2 := h.2.1
    cases hl : L.drop i with
    | nil =>
      have hL : L.length ≤ i := by
        have := congrArg List.length hl
        rw [List.length_drop, List.length_nil] at this
        omega
      obtain ⟨m1, p1, p2, p3⟩ := put_c ht (by omega) 0 0 i
      have p1 : f_X8_put 0 0 (nI L.length) m = some (0, m1) := by rw [show L.length = i by omega]; exact p1
      refine ⟨m1, [(0, 0, i)], ?_, ?_, p2, by rw [List.length_append]; show _ + 1 ≤ 901; omega, p3⟩
      · rw [e_X8_split_13, h2, p1]
        by_cases c : 900 ≤ n
        · rw [if_pos (show (900 : Int32) ≤ nI n from show nI 900 ≤ nI n from nI_le c (by omega))]
          rfl
        · rw [if_neg (show ¬ (900 : Int32) ≤ nI n from show ¬ nI 900 ≤ nI n from nI_ge (by omega) (by omega)), if_pos (nI_le hL (by omega))]
          rfl
      · unfold Tk_
        rw [sk_e hL, hl]
        exact ⟨rfl, by rw [if_pos (show (0 : Nat) ≤ 1 by omega)]⟩
    | cons b r =>
      obtain ⟨k1, k2, k3⟩ := drop_p hl
      obtain ⟨hb, _⟩ := h.2.2 i b k1
      have e1 : f_X8_byteAt (nI i) m = some (nI b, m) := by
        rw [byt_c h (i := i) (by omega)]; unfold byt_; rw [k1]
      rw [e_X8_split_13, if_neg (show ¬ (900 : Int32) ≤ nI n from show ¬ nI 900 ≤ nI n from nI_ge (by omega) (by omega)), h2, if_neg (nI_ge k3 (by omega)), e1, Option.bind_some, blk_c hb, Option.bind_some]
      by_cases c1 : blk_ b = true
      · rw [c1, if_neg (show ¬ b01_ true = 0 by decide)]
        obtain ⟨m1, ts, q1, q2, q3⟩ := ih (L.length - (i + 1)) (by omega) (i + 1) (n + 1) T m rfl (by omega) (by omega) (by omega) h ht
        refine ⟨m1, ts, ?_, Tk_b hl c1 q2, q3⟩
        show (if nI i + nI 1 = nI i then _ else f_X8_split_13 (nI i + nI 1) (nI n + nI 1) m) = _
        rw [nI_add, nI_add, if_neg (fun q => by have := (nI_eq (by omega) (by omega)).mp q; omega)]
        exact q1
      · have c1 := Bool.eq_false_iff.mpr c1
        have hsk := sk_n hl c1
        rw [c1, if_pos (show b01_ false = 0 by decide)]
        obtain ⟨m1, q1, q2, q3⟩ := scan_c h ht (by omega) hl
        rw [q1, Option.bind_some]
        unfold apt_ at q3
        rcases scn_p b r hb with ⟨g1, g2, g3⟩ | ⟨g1, g2, g3, g4, g5, g6⟩
        · rw [if_pos g1] at q3
          obtain ⟨m2, p1, p2, p3⟩ := put_c q3 (by omega) 1 0 i
          have p1 : f_X8_put 1 0 (nI i) m1 = some (0, m2) := p1
          refine ⟨m2, [(1, 0, i)], ?_, ?_, p2, by rw [List.length_append]; show _ + 1 ≤ 901; omega, sa_t q2 p3⟩
          · rw [g3, Nat.add_zero, if_pos rfl, p1]
            rfl
          · unfold Tk_
            rw [hsk, hl, g1, g2]
            exact ⟨rfl, by rw [if_pos (show (1 : Nat) ≤ 1 by omega)]⟩
        · rw [if_neg (by omega)] at q3
          have hr : r.length = L.length - (i + 1) := by rw [← k2, List.length_drop]
          obtain ⟨m2, ts, w1, w2, w3, w4, w5⟩ := ih (L.length - (i + (scn_ (b :: r)).2.2)) (by omega) (i + (scn_ (b :: r)).2.2) (n + 1) _ m1 rfl (by omega) (by omega) (by rw [List.length_append]; show _ + 1 ≤ _; omega) (bc9_fr h q2 (by rfl)) q3
          refine ⟨m2, ((scn_ (b :: r)).1, (scn_ (b :: r)).2.1, i) :: ts, ?_, ?_, ?_, ?_, sa_t q2 w5⟩
          · rw [if_neg (fun q => by have := (nI_eq (by omega) (by omega)).mp q; omega)]
            show f_X8_split_13 _ (nI n + nI 1) m1 = _
            rw [nI_add]
            exact w1
          · unfold Tk_
            rw [hsk, hl]
            exact ⟨rfl, by rw [if_neg (show ¬ (scn_ (b :: r)).1 ≤ 1 by omega)]; exact w2⟩
          · rw [List.append_assoc] at w3; exact w3
          · rw [List.append_assoc] at w4; exact w4
theorem split_c {L : List Nat} {m : fm_} (h : bc9_ L m) : ∃ m1 ts, f_X8_split m = some (0, m1) ∧ Tk_ L ts 0 ∧ tkr_ ts m1 ∧ ts.length ≤ 901 ∧ gi_ m1 1 6 = nI 0 ∧ gi_ m1 1 7 = nI 0 ∧ gi_ m1 1 8 = -1 := by
  have h0 : bc9_ L (si_ (si_ (si_ (si_ m 1 5 0) 1 6 0) 1 7 0) 1 8 (-1)) := bc9_fr (w := [(1, 1, 6), (1, 1, 7), (1, 1, 8), (1, 1, 9)]) h (sa_si (by rfl) (sa_si (by rfl) (sa_si (by rfl) (sa_si (by rfl) sa_rf)))) (by rfl)
  obtain ⟨m1, ts, q1, q2, q3, q4, q5⟩ := split1_c _ 0 0 [] (si_ (si_ (si_ (si_ m 1 5 0) 1 6 0) 1 7 0) 1 8 (-1)) rfl (Nat.zero_le _) (Nat.le_refl _) (Nat.le_refl _) h0 ⟨by rw [gi_si_ne (by omega), gi_si_ne (by omega), gi_si_ne (by omega), gi_si_self]; rfl, fun j t hj => by cases hj⟩
  refine ⟨m1, ts, q1, q2, q3, q4, ?_, ?_, ?_⟩
  · rw [sa_gi q5 (by rfl), gi_si_ne (by omega), gi_si_ne (by omega), gi_si_self]; rfl
  · rw [sa_gi q5 (by rfl), gi_si_ne (by omega), gi_si_self]; rfl
  · rw [sa_gi q5 (by rfl), gi_si_self]
