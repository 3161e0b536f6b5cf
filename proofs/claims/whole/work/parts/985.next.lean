/-! ===== the reference reads one token ===== -/
def srk_ (k : Nat) : Nat := if k = 1 then 4 else if k = 4 ∨ 100 ≤ k then 1 else k
/-- the reference stands at the tokens ts -/
def rsa_ (L : List Nat) (ts : List tkn_) (m : fm_) : Prop := ∃ t rest, ts = t :: rest ∧ gi_ m 106 7 = nI t.2.2 ∧ (t.1 = 2 ∨ t.1 = 3 → gi_ m 106 8 = nI t.2.1) ∧ gi_ m 106 6 = nI (srk_ t.1) ∧ (srk_ t.1 = 1 → ∀ k, k < 23 → (gl_ m 106 9 = Int64.ofNat (pkw_ (wdn_ k) 0) ↔ t.1 = kd_ k)) ∧ ∃ i, gi_ m 106 4 = nI i ∧ i ≤ 900 ∧ (if t.1 ≤ 1 then rest = [] else Tk_ L rest i)
theorem bm9_fr {w : List (Nat × Nat × Nat)} {L : List Nat} {m m1 : fm_} (h : bm9_ L m) (hs : sa_ w m m1) (hd : dj_ [(106, 106, 6), (107, 107, 0)] w = true) : bm9_ L m1 := by
  obtain ⟨h1, h2, h3⟩ := h
  have hg := sa_ag hd hs
  refine ⟨h1, (hg 106 5 (by rfl)).1.trans h2, fun j b hj => ⟨(h3 j b hj).1, ?_⟩⟩
  rw [(hg 107 j (by rfl)).1]
  exact (h3 j b hj).2
theorem nxb_m {L : List Nat} : ∀ (l : List Nat) (i : Nat) (m : fm_), L.drop i = l → bm9_ L m → i ≤ 900 → gi_ m 106 4 = nI i → ∃ m1, f_X12_next_0 m = f_X12_next_0 m1 ∧ gi_ m1 106 4 = nI (i + run_ blk_ l) ∧ sa_ [(106, 106, 5)] m m1 := by
  intro l
  induction l with
  | nil => intro i m hl h hi hp; exact ⟨m, rfl, hp, sa_rf⟩
  | cons b l ih =>
    intro i m hl h hi hp
    obtain ⟨k1, k2, k3⟩ := drop_p hl
    have h9 := h.1
    have e0 : f_X12_here 0 m = some (nI b, m) := by
      have : f_X12_here (nI 0) m = some (byt_ L (i + 0), m) := her_m h hp (by omega)
      unfold byt_ at this
      rw [Nat.add_zero, k1] at this
      exact this
    unfold run_
    by_cases c : blk_ b = true
    · have s1 : sa_ [(106, 106, 5)] m (si_ m 106 4 (nI (i + 1))) := sa_si (by rfl) sa_rf
      obtain ⟨m1, q1, q2, q3⟩ := ih (i + 1) (si_ m 106 4 (nI (i + 1))) k2 (bm9_fr h s1 (by rfl)) (by omega) gi_si_self
      refine ⟨m1, ?_, ?_, sa_t s1 q3⟩
      · rw [← q1]
        rw [e_X12_next_0 m, e0, Option.bind_some]
        rcases of_decide_eq_true c with e | e
        · subst e
          rw [if_pos (show nI 32 = 32 from rfl), hp]
          show f_X12_next_0 (si_ m 106 4 (nI i + nI 1)) = _
          rw [nI_add]
        · subst e
          rw [if_neg (show ¬ nI 10 = 32 by decide), e0, Option.bind_some, if_pos (show nI 10 = 10 from rfl), hp]
          show f_X12_next_0 (si_ m 106 4 (nI i + nI 1)) = _
          rw [nI_add]
      · rw [if_pos c, q2, show i + 1 + run_ blk_ l = i + (run_ blk_ l + 1) by omega]
    · refine ⟨m, rfl, ?_, sa_rf⟩
      rw [if_neg c]
      exact hp
theorem psz_l {b : Nat} {r : List Nat} : psz_ (b :: r) = if b = 112 ∧ ptk_ r = true then run_ isd_ r + 1 else 0 := rfl
theorem psz_m {L : List Nat} {m : fm_} (h : bm9_ L m) {i : Nat} (hi : i ≤ 900) (hp : gi_ m 106 4 = nI i) : f_X12_pointSize m = some (nI (psz_ (L.drop i)), m) := by
  have hh : ∀ k, k < 4 → f_X12_here (nI k) m = some (byt_ L (i + k), m) := fun k hk => her_m h hp (by omega)
  have h0 : f_X12_here 0 m = some (byt_ L (i + 0), m) := hh 0 (by omega)
  have h1 : f_X12_here 1 m = some (byt_ L (i + 1), m) := hh 1 (by omega)
  have h2 : f_X12_here 2 m = some (byt_ L (i + 2), m) := hh 2 (by omega)
  have h3 : f_X12_here 3 m = some (byt_ L (i + 3), m) := hh 3 (by omega)
  unfold f_X12_pointSize
  rw [h0, Nat.add_zero, Option.bind_some]
  cases e0 : L.drop i with
  | nil =>
    have : L.length ≤ i := by
      have := congrArg List.length e0
      rw [List.length_drop, List.length_nil] at this
      omega
    unfold byt_
    rw [List.getElem?_eq_none this, if_neg (show ¬ (-1 : Int32) = 112 by decide)]
    rfl
  | cons b r =>
    obtain ⟨k1, k2, k3⟩ := drop_p e0
    have hb := (h.2.2 i b k1).1
    have eb : byt_ L i = nI b := by unfold byt_; rw [k1]
    rw [eb]
    rw [psz_l]
    by_cases c0 : b = 112
    · subst c0
      rw [if_pos (show nI 112 = 112 from rfl), h1, Option.bind_some, dgt_m h, Option.bind_some, k2]
      by_cases c1 : hdd_ r = true
      · rw [c1, if_neg (show ¬ b01_ true = 0 by decide), h2, Option.bind_some, dgt_m h, Option.bind_some]
        cases r with
        | nil => cases c1
        | cons c s =>
          obtain ⟨j1, j2, j3⟩ := drop_p k2
          have hc := (h.2.2 _ c j1).1
          have ec : byt_ L (i + 1) = nI c := by unfold byt_; rw [j1]
          have c1 : isd_ c = true := c1
          have hd1 := of_decide_eq_true c1
          have er : run_ isd_ (c :: s) = run_ isd_ s + 1 := by
            show (if isd_ c = true then _ else _) = _
            rw [if_pos c1]
          rw [show i + 2 = i + 1 + 1 from rfl, j2]
          by_cases c2 : hdd_ s = true
          · rw [c2, if_neg (show ¬ b01_ true = 0 by decide), h1, Option.bind_some, h2, Option.bind_some]
            cases s with
            | nil => cases c2
            | cons d u =>
              obtain ⟨i1, i2, i3⟩ := drop_p j2
              have hd := (h.2.2 _ d i1).1
              have ed : byt_ L (i + 2) = nI d := by unfold byt_; rw [show i + 2 = i + 1 + 1 from rfl, i1]
              have c2 : isd_ d = true := c2
              have hd2 := of_decide_eq_true c2
              have er2 : run_ isd_ (d :: u) = run_ isd_ u + 1 := by
                show (if isd_ d = true then _ else _) = _
                rw [if_pos c2]
              have ev : ((10 * (nI c - 48)) + nI d) - 48 = nI ((c - 48) * 10 + d - 48) := by
                show ((nI 10 * (nI c - nI 48)) + nI d) - nI 48 = _
                rw [pk_sub (by omega), pk_mul, nI_add, pk_sub (by omega), Nat.mul_comm]
              rw [ec, ed]
              simp only
              rw [ev, h3]
              have et : (c :: d :: u).take 2 = [c, d] := rfl
              by_cases c3 : (c - 48) * 10 + d - 48 < 12
              · rw [if_neg (show ¬ (12 : Int32) ≤ nI ((c - 48) * 10 + d - 48) from show ¬ nI 12 ≤ nI ((c - 48) * 10 + d - 48) from nI_ge c3 (by omega)), Option.bind_some, dgt_m h, Option.bind_some, h3, Option.bind_some, ltr_m h, Option.bind_some, show i + 3 = i + 1 + 1 + 1 from rfl, i2]
                by_cases c4 : hdd_ u = true
                · rw [c4, if_neg (show ¬ b01_ true = 0 by decide), if_neg]
                  · rfl
                  · intro q
                    have q := of_decide_eq_true q.2
                    rw [er, er2] at q
                    have : run_ isd_ u = 0 := by omega
                    rw [← run_0, c4] at this
                    cases this
                · have c4 := Bool.eq_false_iff.mpr c4
                  have r0 := run_0.mp c4
                  have er3 : run_ isd_ (c :: d :: u) = 2 := by rw [er, er2, r0]
                  rw [c4, if_pos (show b01_ false = 0 by decide)]
                  by_cases c5 : hdl_ u = true
                  · rw [c5, if_neg (show ¬ b01_ true = 0 by decide), if_neg]
                    · rfl
                    · intro q
                      have q := of_decide_eq_true q.2
                      rw [er3] at q
                      have q := q.2.2.1
                      have q : hdl_ u = false := q
                      rw [c5] at q
                      cases q
                  · have c5 := Bool.eq_false_iff.mpr c5
                    rw [c5, if_pos (show b01_ false = 0 by decide), if_pos, er3]
                    · rfl
                    · refine ⟨by trivial, decide_eq_true ?_⟩
                      rw [er3]
                      refine ⟨by omega, by omega, c5, ?_⟩
                      show (0 * 10 + c - 48) * 10 + d - 48 < 12
                      omega
              · rw [if_pos (show (12 : Int32) ≤ nI ((c - 48) * 10 + d - 48) from show nI 12 ≤ nI ((c - 48) * 10 + d - 48) from nI_le (by omega) (by omega)), if_neg]
                · rfl
                · intro q
                  have q := of_decide_eq_true q.2
                  rw [er, er2] at q
                  have r0 : run_ isd_ u = 0 := by omega
                  rw [r0] at q
                  have q : (0 * 10 + c - 48) * 10 + d - 48 < 12 := q.2.2.2
                  omega
          · have c2 := Bool.eq_false_iff.mpr c2
            have r0 := run_0.mp c2
            have er3 : run_ isd_ (c :: s) = 1 := by rw [er, r0]
            have ev : nI c - 48 = nI (c - 48) := by
              show nI c - nI 48 = _
              rw [pk_sub (by omega)]
            rw [c2, if_pos (show b01_ false = 0 by decide), h1, Option.bind_some]
            simp only
            rw [ec, ev, if_neg (show ¬ (12 : Int32) ≤ nI (c - 48) from show ¬ nI 12 ≤ nI (c - 48) from nI_ge (by omega) (by omega)), h2, Option.bind_some, dgt_m h, Option.bind_some, h2, Option.bind_some, ltr_m h, Option.bind_some, show i + 2 = i + 1 + 1 from rfl, j2, c2, if_pos (show b01_ false = 0 by decide)]
            by_cases c5 : hdl_ s = true
            · rw [c5, if_neg (show ¬ b01_ true = 0 by decide), if_neg]
              · rfl
              · intro q
                have q := of_decide_eq_true q.2
                rw [er3] at q
                have q : hdl_ s = false := q.2.2.1
                rw [c5] at q
                cases q
            · have c5 := Bool.eq_false_iff.mpr c5
              rw [c5, if_pos (show b01_ false = 0 by decide), if_pos, er3]
              · rfl
              · refine ⟨by trivial, decide_eq_true ?_⟩
                rw [er3]
                refine ⟨by omega, by omega, c5, ?_⟩
                show 0 * 10 + c - 48 < 12
                omega
      · have c1 := Bool.eq_false_iff.mpr c1
        have r0 := run_0.mp c1
        rw [c1, if_pos (show b01_ false = 0 by decide), if_neg]
        · rfl
        · intro q
          have q := of_decide_eq_true q.2
          omega
    · rw [if_neg (show ¬ nI b = 112 from show ¬ nI b = nI 112 from fun q => c0 ((nI_eq (by omega) (by omega)).mp q)), if_neg (show ¬ (b = 112 ∧ ptk_ r = true) from fun q => c0 q.1)]
      rfl
