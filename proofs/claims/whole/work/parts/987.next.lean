theorem run_dr {p : Nat → Bool} : ∀ l : List Nat, run_ p (l.drop (run_ p l)) = 0
  | [] => rfl
  | b :: l => by
    by_cases c : p b = true
    · have e : run_ p (b :: l) = run_ p l + 1 := by
        show (if p b = true then _ else _) = _
        rw [if_pos c]
      rw [e, List.drop_succ_cons]
      exact run_dr l
    · have e : run_ p (b :: l) = 0 := by
        show (if p b = true then _ else _) = _
        rw [if_neg c]
      rw [e]
      exact e
theorem sk_sk (L : List Nat) (i : Nat) : sk_ L (sk_ L i) = sk_ L i := by
  show sk_ L i + run_ blk_ (L.drop (sk_ L i)) = sk_ L i
  unfold sk_
  rw [← List.drop_drop, run_dr]
  rfl
theorem sk_9 {L : List Nat} (h : L.length ≤ 900) {i : Nat} (hi : i ≤ 900) : sk_ L i ≤ 900 := by
  have := run_le (p := blk_) (L.drop i)
  rw [List.length_drop] at this
  unfold sk_
  omega
theorem scn_l {b : Nat} {r : List Nat} : scn_ (b :: r) = if isd_ b = true then (if 4 < run_ isd_ (b :: r) ∨ hdl_ ((b :: r).drop (run_ isd_ (b :: r))) = true then (1, 0, 0) else (2, nmv_ ((b :: r).take (run_ isd_ (b :: r))) 0, run_ isd_ (b :: r)))
    else if isl_ b = true then (if b = 112 ∧ ptk_ r = true then (3, nmv_ (r.take (run_ isd_ r)) 0, run_ isd_ r + 1) else if 8 < run_ isl_ (b :: r) then (1, 0, 0) else (wkd_ ((b :: r).take (run_ isl_ (b :: r))), 0, run_ isl_ (b :: r)))
    else if mrk_ b = true then (b, 0, 1) else (1, 0, 0) := rfl
def nxr_ (s : Nat × Nat × Nat) (i : Nat) (m1 : fm_) : Prop := gi_ m1 106 7 = nI i ∧ (s.1 = 2 ∨ s.1 = 3 → gi_ m1 106 8 = nI s.2.1) ∧ gi_ m1 106 6 = nI (srk_ s.1) ∧ (srk_ s.1 = 1 → ∀ k, k < 23 → (gl_ m1 106 9 = Int64.ofNat (pkw_ (wdn_ k) 0) ↔ s.1 = kd_ k)) ∧ gi_ m1 106 4 = nI (i + s.2.2)
theorem nx1_m {L : List Nat} {m : fm_} (h : bm9_ L m) {i : Nat} (hi : i ≤ 900) (hp : gi_ m 106 4 = nI i) (hb : sk_ L i = i) : ∃ m1, f_X12_next_0 m = some (0, m1) ∧ nxr_ (scn_ (L.drop i)) i m1 := by
  have s0 : sa_ [(106, 106, 8)] m (si_ m 106 7 (nI i)) := sa_si (by rfl) sa_rf
  have h0 : bm9_ L (si_ m 106 7 (nI i)) := bm9_fr h s0 (by rfl)
  have p0 : gi_ (si_ m 106 7 (nI i)) 106 4 = nI i := by rw [gi_si_ne (by omega)]; exact hp
  have e0 : f_X12_here 0 m = some (byt_ L i, m) := by
    have : f_X12_here (nI 0) m = some (byt_ L (i + 0), m) := her_m h hp (by omega)
    exact this
  have e1 : f_X12_here 0 (si_ m 106 7 (nI i)) = some (byt_ L i, si_ m 106 7 (nI i)) := by
    have : f_X12_here (nI 0) (si_ m 106 7 (nI i)) = some (byt_ L (i + 0), _) := her_m h0 p0 (by omega)
    exact this
  have eps := psz_m h0 hi p0
  have nb : ¬ byt_ L i = 32 ∧ ¬ byt_ L i = 10 := by
    unfold byt_
    cases hl : L.drop i with
    | nil =>
      have : L.length ≤ i := by
        have := congrArg List.length hl
        rw [List.length_drop, List.length_nil] at this
        omega
      rw [List.getElem?_eq_none this]
      exact ⟨by decide, by decide⟩
    | cons b r =>
      obtain ⟨k1, k2, k3⟩ := drop_p hl
      have hb2 := (h.2.2 i b k1).1
      rw [k1]
      have nk : ¬ blk_ b = true := fun q => by
        unfold sk_ at hb
        rw [hl] at hb
        have : run_ blk_ (b :: r) = run_ blk_ r + 1 := by
          show (if blk_ b = true then _ else _) = _
          rw [if_pos q]
        omega
      have nk := of_decide_eq_false (Bool.eq_false_iff.mpr nk)
      exact ⟨show ¬ nI b = nI 32 from fun q => nk (Or.inl ((nI_eq (by omega) (by omega)).mp q)), show ¬ nI b = nI 10 from fun q => nk (Or.inr ((nI_eq (by omega) (by omega)).mp q))⟩
  have m2d : ∃ m2, m2 = si_ (sl_ (si_ m 106 7 (nI i)) 106 9 0) 106 8 0 := ⟨_, rfl⟩
  obtain ⟨m2, hm2⟩ := m2d
  have s2 : sa_ [(106, 106, 8), (106, 106, 9), (106, 106, 10)] m m2 := by rw [hm2]; exact sa_si (by rfl) (sa_sl (by rfl) (sa_si (by rfl) sa_rf))
  have h2 : bm9_ L m2 := bm9_fr h s2 (by rfl)
  have p2 : gi_ m2 106 4 = nI i := (sa_gi s2 (by rfl)).trans hp
  have g7 : gi_ m2 106 7 = nI i := by rw [hm2, gi_si_ne (by omega), gi_sl, gi_si_self]
  have g8 : gi_ m2 106 8 = nI 0 := by rw [hm2, gi_si_self]; rfl
  have g9 : gl_ m2 106 9 = Int64.ofNat 0 := by rw [hm2, gl_si, gl_sl_self]; rfl
  rw [e_X12_next_0, e0, Option.bind_some, if_neg nb.1, e0, Option.bind_some, if_neg nb.2, hp, e1, Option.bind_some, eps, Option.bind_some]
  dsimp only
  rw [← hm2]
  cases hl : L.drop i with
  | nil =>
    have : L.length ≤ i := by
      have := congrArg List.length hl
      rw [List.length_drop, List.length_nil] at this
      omega
    have eb : byt_ L i = -1 := by unfold byt_; rw [List.getElem?_eq_none this]
    rw [eb, if_neg (show ¬ (0 : Int32) ≤ -1 by decide), if_neg (show ¬ (0 : Int32) = 4 by decide), gi_si_ne (by omega), hp]
    refine ⟨_, rfl, ?_, fun q => ?_, ?_, fun q => ?_, ?_⟩
    · rw [gi_si_ne (by omega), gi_si_ne (by omega)]; exact g7
    · rcases q with q | q <;> cases q
    · rw [gi_si_ne (by omega), gi_si_self]; rfl
    · cases q
    · rw [gi_si_self]
      show nI i + nI 0 = _
      rw [nI_add]
      rfl
  | cons b r =>
    obtain ⟨k1, k2, k3⟩ := drop_p hl
    have hb2 := (h.2.2 i b k1).1
    have h9 := h.1
    have eb : byt_ L i = nI b := by unfold byt_; rw [k1]
    rw [eb, if_pos (show (0 : Int32) ≤ nI b from nI_pos' (by omega)), psz_l]
    by_cases cp : b = 112 ∧ ptk_ r = true
    · obtain ⟨c0, c1⟩ := cp
      subst c0
      have q := of_decide_eq_true c1
      have hsc : scn_ (112 :: r) = (3, nmv_ (r.take (run_ isd_ r)) 0, run_ isd_ r + 1) := by
        rw [scn_l, if_neg (show ¬ isd_ 112 = true by decide), if_pos (show isl_ 112 = true by decide), if_pos (show 112 = 112 ∧ ptk_ r = true from ⟨rfl, c1⟩)]
      rw [if_pos (show 112 = 112 ∧ ptk_ r = true from ⟨rfl, c1⟩), hsc]
      have f1 : f_X12_here 1 m2 = some (byt_ L (i + 1), m2) := her_m (i := 1) h2 p2 (by omega)
      have f2 : f_X12_here 2 m2 = some (byt_ L (i + 2), m2) := her_m (i := 2) h2 p2 (by omega)
      have hra := run_all (p := isd_) r
      cases r with
      | nil => exact absurd q.1 (by show ¬ 1 ≤ 0; omega)
      | cons c s =>
        obtain ⟨j1, j2, j3⟩ := drop_p k2
        have ec : byt_ L (i + 1) = nI c := by unfold byt_; rw [j1]
        have c2 : isd_ c = true := by
          cases hc : isd_ c with
          | true => rfl
          | false =>
            have : run_ isd_ (c :: s) = 0 := by
              show (if isd_ c = true then _ else _) = _
              rw [hc]; rfl
            omega
        have hd1 := of_decide_eq_true c2
        have er : run_ isd_ (c :: s) = run_ isd_ s + 1 := by
          show (if isd_ c = true then _ else _) = _
          rw [if_pos c2]
        by_cases c3 : run_ isd_ (c :: s) = 1
        · rw [c3, if_neg (show ¬ nI (1 + 1) ≤ 0 by decide), if_pos (show nI (1 + 1) = 2 from rfl), f1, Option.bind_some, ec, if_neg (show ¬ (3 : Int32) = 4 by decide)]
          dsimp only
          rw [p2]
          refine ⟨_, rfl, ?_, fun _ => ?_, ?_, fun q => ?_, ?_⟩
          · rw [gi_si_ne (by omega), gi_si_ne (by omega), gi_si_ne (by omega)]; exact g7
          · rw [gi_si_ne (by omega), gi_si_ne (by omega), gi_si_self]
            show nI c - nI 48 = nI (0 * 10 + c - 48)
            rw [pk_sub (by omega), show 0 * 10 + c - 48 = c - 48 by omega]
          · rw [gi_si_ne (by omega), gi_si_self]; rfl
          · cases q
          · rw [gi_si_self, nI_add]
        · have c4 : run_ isd_ (c :: s) = 2 := by omega
          cases s with
          | nil => exact absurd er (by rw [c4]; show ¬ 2 = 0 + 1; omega)
          | cons d u =>
            obtain ⟨i1, i2, i3⟩ := drop_p j2
            have ed : byt_ L (i + 2) = nI d := by unfold byt_; rw [show i + 2 = i + 1 + 1 from rfl, i1]
            have c5 : isd_ d = true := by
              cases hc : isd_ d with
              | true => rfl
              | false =>
                have : run_ isd_ (d :: u) = 0 := by
                  show (if isd_ d = true then _ else _) = _
                  rw [hc]; rfl
                omega
            have hd2 := of_decide_eq_true c5
            rw [c4, if_neg (show ¬ nI (2 + 1) ≤ 0 by decide), if_neg (show ¬ nI (2 + 1) = 2 by decide), f1, Option.bind_some, f2, Option.bind_some, ec, ed, if_neg (show ¬ (3 : Int32) = 4 by decide)]
            dsimp only
            rw [p2]
            refine ⟨_, rfl, ?_, fun _ => ?_, ?_, fun q => ?_, ?_⟩
            · rw [gi_si_ne (by omega), gi_si_ne (by omega), gi_si_ne (by omega)]; exact g7
            · rw [gi_si_ne (by omega), gi_si_ne (by omega), gi_si_self]
              show nI 10 * (nI c - nI 48) + nI d - nI 48 = nI ((0 * 10 + c - 48) * 10 + d - 48)
              rw [pk_sub (by omega), pk_mul, nI_add, pk_sub (by omega), show 10 * (c - 48) + d - 48 = (0 * 10 + c - 48) * 10 + d - 48 by omega]
            · rw [gi_si_ne (by omega), gi_si_self]; rfl
            · cases q
            · rw [gi_si_self, nI_add]
    · rw [if_neg cp, if_pos (show nI 0 ≤ 0 by decide)]
      have el : f_X12_isLetter (nI b) m2 = some (b01_ (isl_ b), m2) := isl_c hb2 m2
      have edg : f_X12_isDigit (nI b) m2 = some (b01_ (isd_ b), m2) := isd_c hb2 m2
      rw [el, Option.bind_some]
      by_cases c1 : isl_ b = true
      · have nd : ¬ isd_ b = true := fun q => by
          have := of_decide_eq_true c1
          have := of_decide_eq_true q
          omega
        have hsc : scn_ (b :: r) = if 8 < run_ isl_ (b :: r) then (1, 0, 0) else (wkd_ ((b :: r).take (run_ isl_ (b :: r))), 0, run_ isl_ (b :: r)) := by
          rw [scn_l, if_neg nd, if_pos c1, if_neg cp]
        rw [c1, if_neg (show ¬ b01_ true = 0 by decide), hsc]
        obtain ⟨m3, q1, q2, q3⟩ := wlp_m (x1 := nI b) (b :: r) 0 0 m2 hl h2 p2 (fun _ => ⟨g9, Nat.pow_pos (by omega)⟩) hi
        refine ⟨m3, q1, ?_⟩
        have w7 : gi_ m3 106 7 = nI i := (sa_gi q2 (by rfl)).trans g7
        rw [Nat.zero_add] at q3
        by_cases c8 : 8 < run_ isl_ (b :: r)
        · rw [if_pos c8] at q3 ⊢
          exact ⟨w7, fun q => (by rcases q with q | q <;> cases q), q3.1, fun q => (by cases q), q3.2⟩
        · rw [if_neg c8] at q3 ⊢
          have hra := run_all (p := isl_) (b :: r)
          have hwb := wkd_b ((b :: r).take (run_ isl_ (b :: r)))
          have hs1 : srk_ (wkd_ ((b :: r).take (run_ isl_ (b :: r)))) = 1 := by
            unfold srk_
            rw [if_neg (by omega), if_pos (by omega)]
          refine ⟨w7, fun q => ?_, ?_, fun _ k hk => ?_, q3.2.1⟩
          · have q : wkd_ _ = 2 ∨ wkd_ _ = 3 := q
            omega
          · show _ = nI (srk_ (wkd_ _))
            rw [hs1]; exact q3.1
          · rw [q3.2.2]
            exact pk_wk (by rw [hra.2]; omega) hra.1 hk
      · rw [Bool.eq_false_iff.mpr c1, if_pos (show b01_ false = 0 by decide), edg, Option.bind_some]
        by_cases c2 : isd_ b = true
        · have hsc : scn_ (b :: r) = if 4 < run_ isd_ (b :: r) ∨ hdl_ ((b :: r).drop (run_ isd_ (b :: r))) = true then (1, 0, 0) else (2, nmv_ ((b :: r).take (run_ isd_ (b :: r))) 0, run_ isd_ (b :: r)) := by
            rw [scn_l, if_pos c2]
          rw [c2, if_neg (show ¬ b01_ true = 0 by decide), hsc]
          obtain ⟨m3, q1, q2, q3⟩ := dlp_m (x1 := nI b) (b :: r) 0 0 m2 hl h2 p2 (fun _ => ⟨g8, Nat.pow_pos (by omega)⟩) hi
          refine ⟨m3, q1, ?_⟩
          have w7 : gi_ m3 106 7 = nI i := (sa_gi q2 (by rfl)).trans g7
          rw [Nat.zero_add] at q3
          by_cases c8 : 4 < run_ isd_ (b :: r) ∨ hdl_ ((b :: r).drop (run_ isd_ (b :: r))) = true
          · rw [if_pos c8] at q3 ⊢
            exact ⟨w7, fun q => (by rcases q with q | q <;> cases q), q3.1, fun q => (by cases q), q3.2⟩
          · rw [if_neg c8] at q3 ⊢
            exact ⟨w7, fun _ => q3.2.2, q3.1, fun q => (by cases q), q3.2.1⟩
        · rw [Bool.eq_false_iff.mpr c2, if_pos (show b01_ false = 0 by decide), sgn_m hb2, Option.bind_some]
          have hsc : scn_ (b :: r) = if mrk_ b = true then (b, 0, 1) else (1, 0, 0) := by
            rw [scn_l, if_neg c2, if_neg c1]
          rw [hsc]
          by_cases c3 : mrk_ b = true
          · have hm := of_decide_eq_true c3
            rw [c3, if_neg (show ¬ b01_ true = 0 by decide), if_neg (show ¬ nI b = 4 from show ¬ nI b = nI 4 from fun q => by have := (nI_eq (by omega) (by omega)).mp q; omega), if_pos rfl]
            dsimp only
            rw [p2]
            refine ⟨_, rfl, ?_, fun q => ?_, ?_, fun q => ?_, ?_⟩
            · rw [gi_si_ne (by omega), gi_si_ne (by omega)]; exact g7
            · have q : b = 2 ∨ b = 3 := q
              omega
            · rw [gi_si_ne (by omega), gi_si_self]
              show nI b = nI (srk_ b)
              unfold srk_
              rw [if_neg (by omega), if_neg (by omega)]
            · have q : srk_ b = 1 := q
              unfold srk_ at q
              rw [if_neg (by omega), if_neg (by omega)] at q
              omega
            · rw [gi_si_self]
              show nI i + nI 1 = _
              rw [nI_add]
          · rw [Bool.eq_false_iff.mpr c3, if_pos (show b01_ false = 0 by decide), if_pos (show (4 : Int32) = 4 from rfl)]
            refine ⟨_, rfl, ?_, fun q => ?_, ?_, fun q => ?_, ?_⟩
            · rw [gi_si_ne (by omega)]; exact g7
            · rcases q with q | q <;> cases q
            · rw [gi_si_self]; rfl
            · cases q
            · rw [gi_si_ne (by omega)]; exact p2
theorem next_m {L : List Nat} {m : fm_} (h : bm9_ L m) {i : Nat} (hi : i ≤ 900) (hp : gi_ m 106 4 = nI i) {ts : List tkn_} (hT : Tk_ L ts i) : ∃ m1, f_X12_next m = some (0, m1) ∧ rsa_ L ts m1 := by
  have h9 := h.1
  obtain ⟨m1, e1, e2, e3⟩ := nxb_m (L.drop i) i m rfl h hi hp
  have e2 : gi_ m1 106 4 = nI (sk_ L i) := e2
  obtain ⟨m2, f1, f2⟩ := nx1_m (bm9_fr h e3 (by rfl)) (sk_9 h9 hi) e2 (sk_sk L i)
  refine ⟨m2, e1.trans f1, ?_⟩
  obtain ⟨g1, g2, g3, g4, g5⟩ := f2
  cases ts with
  | nil => exact absurd hT id
  | cons t rest =>
    obtain ⟨ht, hr⟩ := hT
    have hk : sk_ L i + (scn_ (L.drop (sk_ L i))).2.2 ≤ 900 := by
      cases hl : L.drop (sk_ L i) with
      | nil => exact sk_9 h9 hi
      | cons b r =>
        obtain ⟨k1, k2, k3⟩ := drop_p hl
        have hrl : r.length = L.length - (sk_ L i + 1) := by rw [← k2, List.length_drop]
        rcases scn_p b r (h.2.2 _ b k1).1 with q | q
        · rw [q.2.2]; omega
        · have := q.2.2.2.2.1
          omega
    refine ⟨t, rest, rfl, ?_, ?_, ?_, ?_, _, g5, hk, hr⟩
    · rw [ht]; exact g1
    · rw [ht]; exact g2
    · rw [ht]; exact g3
    · rw [ht]; exact g4
