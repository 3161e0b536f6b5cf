theorem wlp_m {L : List Nat} {i : Nat} {x1 : Int32} : ∀ (l : List Nat) (n a : Nat) (m : fm_), L.drop (i + n) = l → bm9_ L m → gi_ m 106 4 = nI i → (n ≤ 8 → gl_ m 106 9 = Int64.ofNat a ∧ a < 256 ^ n) → i + n ≤ 900 → ∃ m1, f_X12_next_133 x1 (nI n) m = some (0, m1) ∧ sa_ [(106, 106, 10), (106, 106, 5), (106, 106, 7)] m m1 ∧ (if 8 < n + run_ isl_ l then gi_ m1 106 6 = nI 4 ∧ gi_ m1 106 4 = nI i else gi_ m1 106 6 = nI 1 ∧ gi_ m1 106 4 = nI (i + (n + run_ isl_ l)) ∧ gl_ m1 106 9 = Int64.ofNat (pkw_ (l.take (run_ isl_ l)) a)) := by
  have stop : ∀ (l : List Nat) (n a : Nat) (m : fm_), L.drop (i + n) = l → hdl_ l = false → run_ isl_ l = 0 → bm9_ L m → gi_ m 106 4 = nI i → (n ≤ 8 → gl_ m 106 9 = Int64.ofNat a ∧ a < 256 ^ n) → i + n ≤ 900 → ∃ m1, f_X12_next_133 x1 (nI n) m = some (0, m1) ∧ sa_ [(106, 106, 10), (106, 106, 5), (106, 106, 7)] m m1 ∧ (if 8 < n + run_ isl_ l then gi_ m1 106 6 = nI 4 ∧ gi_ m1 106 4 = nI i else gi_ m1 106 6 = nI 1 ∧ gi_ m1 106 4 = nI (i + (n + run_ isl_ l)) ∧ gl_ m1 106 9 = Int64.ofNat (pkw_ (l.take (run_ isl_ l)) a)) := by
    intro l n a m hl h0 hr h hp ha hi
    have e1 : f_X12_here (nI n) m = some (byt_ L (i + n), m) := her_m h hp (by omega)
    have e2 := ltr_m h (i + n)
    rw [hl, h0] at e2
    rw [hr, Nat.add_zero, e_X12_next_133, e1, Option.bind_some, e2, Option.bind_some, if_pos (show b01_ false = 0 by decide)]
    by_cases c : 8 < n
    · rw [if_neg (show ¬ nI n ≤ 8 from show ¬ nI n ≤ nI 8 from nI_ge c (by omega)), if_pos (show (4 : Int32) = 4 from rfl)]
      refine ⟨_, rfl, sa_si (by rfl) sa_rf, ?_⟩
      rw [if_pos c]
      exact ⟨gi_si_self, by rw [gi_si_ne (by omega)]; exact hp⟩
    · rw [if_pos (show nI n ≤ 8 from show nI n ≤ nI 8 from nI_le (by omega) (by omega)), if_neg (show ¬ (1 : Int32) = 4 by decide)]
      refine ⟨_, rfl, sa_si (by rfl) (sa_si (by rfl) sa_rf), ?_⟩
      rw [if_neg c]
      refine ⟨?_, ?_, ?_⟩
      · rw [gi_si_ne (by omega), gi_si_self]; rfl
      · rw [gi_si_self]
        show gi_ m 106 4 + nI n = _
        rw [hp, nI_add]
      · exact (ha (by omega)).1
  intro l
  induction l with
  | nil => intro n a m hl; exact stop [] n a m hl rfl rfl
  | cons b l ih =>
    intro n a m hl h hp ha hi
    by_cases c : isl_ b = true
    · obtain ⟨k1, k2, k3⟩ := drop_p hl
      have hb := (h.2.2 _ b k1).1
      have h9 := h.1
      have e1 : f_X12_here (nI n) m = some (nI b, m) := by
        rw [her_m h hp (by omega)]; unfold byt_; rw [k1]
      have e2 : f_X12_isLetter (nI b) m = some (b01_ (isl_ b), m) := isl_c hb m
      have er : run_ isl_ (b :: l) = run_ isl_ l + 1 := by
        show (if isl_ b = true then _ else _) = _
        rw [if_pos c]
      rw [er, e_X12_next_133, e1, Option.bind_some, e2, Option.bind_some, c, if_neg (show ¬ b01_ true = 0 by decide)]
      rw [show n + (run_ isl_ l + 1) = n + 1 + run_ isl_ l by omega, List.take_succ_cons]
      by_cases c8 : 8 ≤ n
      · obtain ⟨m1, q1, q2, q3⟩ := ih (n + 1) (a * 256 + b) m k2 h hp (fun q => absurd q (by omega)) (by omega)
        refine ⟨m1, ?_, q2, q3⟩
        rw [if_pos (show (8 : Int32) ≤ nI n from show nI 8 ≤ nI n from nI_le c8 (by omega))]
        show f_X12_next_133 x1 (nI n + nI 1) m = _
        rw [nI_add]
        exact q1
      · obtain ⟨g1, g2⟩ := ha (by omega)
        have g3 : 256 ^ n ≤ 256 ^ 7 := Nat.pow_le_pow_right (by omega) (by omega)
        have g4 : 256 ^ 7 = 2 ^ 56 := by decide
        have s1 : sa_ [(106, 106, 10), (106, 106, 5), (106, 106, 7)] m (sl_ m 106 9 (Int64.ofNat (a * 256 + b))) := sa_sl (by rfl) sa_rf
        obtain ⟨m1, q1, q2, q3⟩ := ih (n + 1) (a * 256 + b) (sl_ m 106 9 (Int64.ofNat (a * 256 + b))) k2 (bm9_fr h s1 (by rfl)) hp (fun _ => ⟨gl_sl_self, by rw [Nat.pow_succ]; omega⟩) (by omega)
        refine ⟨m1, ?_, sa_t s1 q2, q3⟩
        rw [if_neg (show ¬ (8 : Int32) ≤ nI n from show ¬ nI 8 ≤ nI n from nI_ge (by omega) (by omega)), e1, Option.bind_some, g1]
        show f_X12_next_133 x1 (nI n + nI 1) (sl_ m 106 9 ((Int64.ofNat a <<< (Int32.toInt64 8 &&& 63)) ||| Int32.toInt64 (nI b))) = _
        rw [nI_add, pk_w8 (by omega) hb]
        exact q1
    · have c := Bool.eq_false_iff.mpr c
      refine stop (b :: l) n a m hl c ?_ h hp ha hi
      show (if isl_ b = true then _ else _) = _
      rw [c]
      rfl
theorem dlp_m {L : List Nat} {i : Nat} {x1 : Int32} : ∀ (l : List Nat) (n a : Nat) (m : fm_), L.drop (i + n) = l → bm9_ L m → gi_ m 106 4 = nI i → (n ≤ 4 → gi_ m 106 8 = nI a ∧ a < 10 ^ n) → i + n ≤ 900 → ∃ m1, f_X12_next_199 x1 (nI n) m = some (0, m1) ∧ sa_ [(106, 106, 9), (106, 106, 5), (106, 106, 7)] m m1 ∧ (if 4 < n + run_ isd_ l ∨ hdl_ (l.drop (run_ isd_ l)) = true then gi_ m1 106 6 = nI 4 ∧ gi_ m1 106 4 = nI i else gi_ m1 106 6 = nI 2 ∧ gi_ m1 106 4 = nI (i + (n + run_ isd_ l)) ∧ gi_ m1 106 8 = nI (nmv_ (l.take (run_ isd_ l)) a)) := by
  have stop : ∀ (l : List Nat) (n a : Nat) (m : fm_), L.drop (i + n) = l → hdd_ l = false → run_ isd_ l = 0 → bm9_ L m → gi_ m 106 4 = nI i → (n ≤ 4 → gi_ m 106 8 = nI a ∧ a < 10 ^ n) → i + n ≤ 900 → ∃ m1, f_X12_next_199 x1 (nI n) m = some (0, m1) ∧ sa_ [(106, 106, 9), (106, 106, 5), (106, 106, 7)] m m1 ∧ (if 4 < n + run_ isd_ l ∨ hdl_ (l.drop (run_ isd_ l)) = true then gi_ m1 106 6 = nI 4 ∧ gi_ m1 106 4 = nI i else gi_ m1 106 6 = nI 2 ∧ gi_ m1 106 4 = nI (i + (n + run_ isd_ l)) ∧ gi_ m1 106 8 = nI (nmv_ (l.take (run_ isd_ l)) a)) := by
    intro l n a m hl h0 hr h hp ha hi
    have e1 : f_X12_here (nI n) m = some (byt_ L (i + n), m) := her_m h hp (by omega)
    have e2 := dgt_m h (i + n)
    have e3 := ltr_m h (i + n)
    rw [hl, h0] at e2
    rw [hl] at e3
    rw [hr, Nat.add_zero, e_X12_next_199, e1, Option.bind_some, e2, Option.bind_some, if_pos (show b01_ false = 0 by decide)]
    rw [List.drop_zero]
    by_cases c : 4 < n
    · rw [if_pos (show 4 < nI n from show nI 4 < nI n from nI_lt c (by omega)), if_pos (show (4 : Int32) = 4 from rfl)]
      refine ⟨_, rfl, sa_si (by rfl) sa_rf, ?_⟩
      rw [if_pos (Or.inl c)]
      exact ⟨gi_si_self, by rw [gi_si_ne (by omega)]; exact hp⟩
    · rw [if_neg (show ¬ 4 < nI n from show ¬ nI 4 < nI n from nI_nlt (by omega) (by omega)), e1, Option.bind_some, e3, Option.bind_some]
      by_cases c2 : hdl_ l = true
      · rw [c2, if_neg (show ¬ b01_ true = 0 by decide), if_pos (show (4 : Int32) = 4 from rfl)]
        refine ⟨_, rfl, sa_si (by rfl) sa_rf, ?_⟩
        rw [if_pos (Or.inr rfl)]
        exact ⟨gi_si_self, by rw [gi_si_ne (by omega)]; exact hp⟩
      · have c2 := Bool.eq_false_iff.mpr c2
        rw [c2, if_pos (show b01_ false = 0 by decide), if_neg (show ¬ (2 : Int32) = 4 by decide)]
        refine ⟨_, rfl, sa_si (by rfl) (sa_si (by rfl) sa_rf), ?_⟩
        rw [if_neg (fun (q : 4 < n ∨ false = true) => q.elim c (fun z => by cases z))]
        refine ⟨?_, ?_, ?_⟩
        · rw [gi_si_ne (by omega), gi_si_self]; rfl
        · rw [gi_si_self]
          show gi_ m 106 4 + nI n = _
          rw [hp, nI_add]
        · rw [gi_si_ne (by omega), gi_si_ne (by omega)]
          exact (ha (by omega)).1
  intro l
  induction l with
  | nil => intro n a m hl; exact stop [] n a m hl rfl rfl
  | cons b l ih =>
    intro n a m hl h hp ha hi
    by_cases c : isd_ b = true
    · obtain ⟨k1, k2, k3⟩ := drop_p hl
      have hb := (h.2.2 _ b k1).1
      have hc := of_decide_eq_true c
      have h9 := h.1
      have e1 : f_X12_here (nI n) m = some (nI b, m) := by
        rw [her_m h hp (by omega)]; unfold byt_; rw [k1]
      have e2 : f_X12_isDigit (nI b) m = some (b01_ (isd_ b), m) := isd_c hb m
      have er : run_ isd_ (b :: l) = run_ isd_ l + 1 := by
        show (if isd_ b = true then _ else _) = _
        rw [if_pos c]
      rw [er, e_X12_next_199, e1, Option.bind_some, e2, Option.bind_some, c, if_neg (show ¬ b01_ true = 0 by decide)]
      rw [show n + (run_ isd_ l + 1) = n + 1 + run_ isd_ l by omega, List.take_succ_cons, List.drop_succ_cons]
      by_cases c8 : 4 ≤ n
      · obtain ⟨m1, q1, q2, q3⟩ := ih (n + 1) (a * 10 + b - 48) m k2 h hp (fun q => absurd q (by omega)) (by omega)
        refine ⟨m1, ?_, q2, q3⟩
        rw [if_pos (show (4 : Int32) ≤ nI n from show nI 4 ≤ nI n from nI_le c8 (by omega))]
        show f_X12_next_199 x1 (nI n + nI 1) m = _
        rw [nI_add]
        exact q1
      · obtain ⟨g1, g2⟩ := ha (by omega)
        have g3 : 10 ^ n ≤ 10 ^ 3 := Nat.pow_le_pow_right (by omega) (by omega)
        have s1 : sa_ [(106, 106, 9), (106, 106, 5), (106, 106, 7)] m (si_ m 106 8 (nI (a * 10 + b - 48))) := sa_si (by rfl) sa_rf
        obtain ⟨m1, q1, q2, q3⟩ := ih (n + 1) (a * 10 + b - 48) (si_ m 106 8 (nI (a * 10 + b - 48))) k2 (bm9_fr h s1 (by rfl)) (by rw [gi_si_ne (by omega)]; exact hp) (fun _ => ⟨gi_si_self, by rw [Nat.pow_succ]; omega⟩) (by omega)
        refine ⟨m1, ?_, sa_t s1 q2, q3⟩
        rw [if_neg (show ¬ (4 : Int32) ≤ nI n from show ¬ nI 4 ≤ nI n from nI_ge (by omega) (by omega)), e1, Option.bind_some, g1]
        show f_X12_next_199 x1 (nI n + nI 1) (si_ m 106 8 (nI 10 * nI a + nI b - nI 48)) = _
        rw [nI_add, pk_mul, nI_add, pk_sub (by omega), Nat.mul_comm]
        exact q1
    · have c := Bool.eq_false_iff.mpr c
      refine stop (b :: l) n a m hl c ?_ h hp ha hi
      show (if isd_ b = true then _ else _) = _
      rw [c]
      rfl
