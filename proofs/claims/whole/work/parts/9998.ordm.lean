/-! ===== orders: the reference, whole ===== -/
theorem beg_g {m m1 : fm_} (h : sa_ w_X12_begin m m1) : ∀ a k, (¬ a = 106 ∨ 10 ≤ k) → gi_ m1 a k = gi_ m a k := fun a k ha => sa_gi h (by
  cases hq : wi_ w_X12_begin a k with
  | false => rfl
  | true =>
    obtain ⟨q, hq, q1, q2, q3⟩ := wi_mem.mp hq
    have : ∀ q ∈ w_X12_begin, q.1 = 106 ∧ q.2.1 = 106 ∧ 1 ≤ q.2.2 ∧ q.2.2 ≤ 10 := by decide
    have := this q hq
    omega)
theorem ord_m {L : List Nat} (hL : L.length ≤ 700) (hb : ∀ x ∈ L, x < 256) {ts : List tkn_} (hT : Tk_ L ts 0) (hw : wts_ ts) (h7 : ts.length ≤ 701) {m : fm_} (h : tm_ L m) {O : List od_} (hO : oko_ O) (hm : lom_ O m) {dy : Nat} (hdy : dy < 100) (h6 : O.length < 6) : (∃ f m1, sord_ ts dy = .inl f ∧ f_X12_orders (nI dy) m = some (-1, m1) ∧ flm_ f m1 ∧ gi_ m1 106 1 = 0 ∧ lom_ O m1) ∨ (∃ d m1, sord_ ts dy = .inr d ∧ f_X12_orders (nI dy) m = some (nI O.length, m1) ∧ gi_ m1 106 2 = nI 0 ∧ gi_ m1 106 3 = -1 ∧ gi_ m1 106 1 = 0 ∧ lom_ (O ++ [d]) m1) := by
  have jd : ∃ j, j = O.length := ⟨_, rfl⟩
  obtain ⟨j, hjd⟩ := jd
  have hj : j < 6 := by omega
  have c33 : gi_ m 106 33 = nI j := by rw [hjd]; exact hm.1.1
  have m0d : ∃ m0, m0 = si_ (si_ (si_ (si_ (si_ (si_ (si_ (si_ (si_ m 132 j (nI dy)) 127 j 0) 129 j 0) 130 j 1440) 131 j 0) 106 47 0) 106 48 0) 106 49 0) 106 50 0 := ⟨_, rfl⟩
  obtain ⟨m0, hm0⟩ := m0d
  have k0 : ∀ a k, ¬ (a = 132 ∧ k = j) → ¬ (a = 127 ∧ k = j) → ¬ (a = 129 ∧ k = j) → ¬ (a = 130 ∧ k = j) → ¬ (a = 131 ∧ k = j) → ¬ (a = 106 ∧ 47 ≤ k ∧ k ≤ 50) → gi_ m0 a k = gi_ m a k := fun a k y1 y2 y3 y4 y5 y6 => by
    rw [hm0, gi_si_ne (by omega), gi_si_ne (by omega), gi_si_ne (by omega), gi_si_ne (by omega), gi_si_ne (by omega), gi_si_ne (by omega), gi_si_ne (by omega), gi_si_ne (by omega), gi_si_ne (by omega)]
  have v132 : gi_ m0 132 j = nI dy := by
    rw [hm0, gi_si_ne (by omega), gi_si_ne (by omega), gi_si_ne (by omega), gi_si_ne (by omega), gi_si_ne (by omega), gi_si_ne (by omega), gi_si_ne (by omega), gi_si_ne (by omega), gi_si_self]
  have v127 : gi_ m0 127 j = 0 := by
    rw [hm0, gi_si_ne (by omega), gi_si_ne (by omega), gi_si_ne (by omega), gi_si_ne (by omega), gi_si_ne (by omega), gi_si_ne (by omega), gi_si_ne (by omega), gi_si_self]
  have v129 : gi_ m0 129 j = 0 := by
    rw [hm0, gi_si_ne (by omega), gi_si_ne (by omega), gi_si_ne (by omega), gi_si_ne (by omega), gi_si_ne (by omega), gi_si_ne (by omega), gi_si_self]
  have v130 : gi_ m0 130 j = 1440 := by
    rw [hm0, gi_si_ne (by omega), gi_si_ne (by omega), gi_si_ne (by omega), gi_si_ne (by omega), gi_si_ne (by omega), gi_si_self]
  have v131 : gi_ m0 131 j = 0 := by
    rw [hm0, gi_si_ne (by omega), gi_si_ne (by omega), gi_si_ne (by omega), gi_si_ne (by omega), gi_si_self]
  have v47 : gi_ m0 106 47 = 0 := by
    rw [hm0, gi_si_ne (by omega), gi_si_ne (by omega), gi_si_ne (by omega), gi_si_self]
  have v48 : gi_ m0 106 48 = 0 := by
    rw [hm0, gi_si_ne (by omega), gi_si_ne (by omega), gi_si_self]
  have v49 : gi_ m0 106 49 = 0 := by
    rw [hm0, gi_si_ne (by omega), gi_si_self]
  have v50 : gi_ m0 106 50 = 0 := by
    rw [hm0, gi_si_self]
  have em : f_X12_orders (nI dy) m = f_X12_orders_93 (nI dy) (nI j) (nI 0) m0 := by
    unfold f_X12_orders
    rw [h.1, if_neg (show ¬ (700 : Int32) < nI L.length from show ¬ nI 700 < nI L.length from nI_nlt hL (by omega)), ns_day2 hdy, Option.bind_some]
    dsimp only
    rw [if_neg (show ¬ nI 1 = 0 by decide), c33, if_neg (show ¬ nI j = 6 from show ¬ nI j = nI 6 from fun q => by have := (nI_eq (by omega) (by omega)).mp q; omega), ns_gd (by omega) (by omega), ns_gd (by omega) (by omega), ns_gd (by omega) (by omega), ns_gd (by omega) (by omega), ns_gd (by omega) (by omega), nI_clamp (by omega), hm0]
    rfl
  obtain ⟨m1, a1, a2, a3⟩ := o93_m hj (x1 := nI dy) 10 0 m0 (by omega)
  obtain ⟨m2, b1, b2, b3⟩ := o126_m hj (x1 := nI dy) 8 0 m1 (by omega)
  have b1 : f_X12_orders_126 (nI dy) (nI j) 0 m1 = _ := b1
  have t2 : tm_ L m2 := by
    refine ⟨?_, fun i x hi => ?_⟩
    · rw [b3 _ _ (by omega), a3 _ _ (by omega) (by omega), k0 _ _ (by omega) (by omega) (by omega) (by omega) (by omega) (by omega)]; exact h.1
    · rw [b3 _ _ (by omega), a3 _ _ (by omega) (by omega), k0 _ _ (by omega) (by omega) (by omega) (by omega) (by omega) (by omega)]; exact h.2 i x hi
  obtain ⟨m3, e1, e2, e3⟩ := begin_m (by omega) hb hT hw t2
  have s3 := fr_X12_begin e1
  have g3 := beg_g s3
  have g23 : ∀ a k, (¬ a = 106 ∨ 10 ≤ k) → ¬ (a = 133 ∧ 8 * j ≤ k) → ¬ (a = 128 ∧ 10 * j ≤ k) → ¬ a = 134 → gi_ m3 a k = gi_ m0 a k := fun a k y1 y2 y3 y4 => by
    rw [g3 a k y1, b3 a k (by omega), a3 a k (by omega) (by omega)]
  have f03 : mfo_ j m m3 := fun a k y => by
    unfold lwj_ at y
    rw [g23 a k (by omega) (by omega) (by omega) (by omega), k0 a k (by omega) (by omega) (by omega) (by omega) (by omega) (by omega)]
  have dt : dtm_ L j (d0_ dy) 0 0 ts m3 := by
    refine ⟨e2, ⟨?_, fun k hk => ⟨?_, ?_⟩, ⟨?_, ?_, ?_⟩, ⟨?_, ?_⟩, ?_, fun l q hl => (by cases hl), ?_, ?_⟩, ?_, ?_, ?_, by omega, by omega⟩
    · rw [g23 _ _ (by omega) (by omega) (by omega) (by omega)]; exact v132
    · rw [g3 _ _ (by omega), b3 _ _ (by omega)]; exact (a2 k (by omega) hk).1
    · rw [g3 _ _ (by omega), b3 _ _ (by omega)]; exact (a2 k (by omega) hk).2
    · rw [g23 _ _ (by omega) (by omega) (by omega) (by omega)]; exact v129
    · rw [g23 _ _ (by omega) (by omega) (by omega) (by omega)]; exact v130
    · rw [g23 _ _ (by omega) (by omega) (by omega) (by omega)]; exact v47
    · rw [g23 _ _ (by omega) (by omega) (by omega) (by omega)]; exact v131
    · rw [g23 _ _ (by omega) (by omega) (by omega) (by omega)]; exact v48
    · rw [g23 _ _ (by omega) (by omega) (by omega) (by omega)]; exact v127
    · show gi_ m3 133 (8 * j + 6) = 0
      rw [g3 _ _ (by omega)]; exact b2 6 (by omega) (by omega)
    · show gi_ m3 133 (8 * j + 7) = 0
      rw [g3 _ _ (by omega)]; exact b2 7 (by omega) (by omega)
    · rw [g23 _ _ (by omega) (by omega) (by omega) (by omega), k0 _ _ (by omega) (by omega) (by omega) (by omega) (by omega) (by omega)]; exact c33
    · rw [g23 _ _ (by omega) (by omega) (by omega) (by omega)]; exact v49
    · rw [g23 _ _ (by omega) (by omega) (by omega) (by omega)]; exact v50
  rw [em, a1, b1, e1, Option.bind_some]
  dsimp only
  rcases rlo_m hj (x1 := nI dy) (x2 := nI j) (x3 := nI 8) 701 ts (d0_ dy) 0 0 m3 h7 dt ook_0 (fun k v hv => by cases hv) with ⟨f, m4, x1, x2, x3, x4, x5⟩ | ⟨d1, u1, b4, r1, m4, x1, x2, x3, x4, x5, x6, x7⟩
  · have fo := mfo_t f03 x4
    refine Or.inl ⟨f, m4, x1, x2, x3, ?_, ⟨⟨?_, fun i o hi => ?_⟩, fun i o hi => ?_⟩⟩
    · rw [sa_gi x5 (by rfl)]; exact e3
    · rw [fo 106 33 (by unfold lwj_; omega)]; exact hm.1.1
    · have hil := (List.getElem?_eq_some_iff.mp hi).1
      have := hm.1.2 i o hi
      exact ⟨(fo _ _ (by unfold lwj_; omega)).trans this.1, fun k hk => (fo _ _ (by unfold lwj_; omega)).trans (this.2 k hk)⟩
    · have hil := (List.getElem?_eq_some_iff.mp hi).1
      exact orm_o (j := j) (by omega) (hO.2 o (List.mem_of_getElem? hi)) (hm.2 i o hi) (fun a k _ y => fo a k y)
  · have fo := mfo_t f03 x4
    obtain ⟨y1, y2, y3, y4, y5, y6, y7⟩ := x3
    obtain ⟨t, r, rfl⟩ := wts_n y1.2.2.1
    rw [List.length_cons] at y7
    have fo2 : ∀ a k, 122 ≤ a → lwj_ j a k → gi_ (si_ m4 106 33 (nI (j + 1))) a k = gi_ m a k := fun a k z1 z2 => by
      rw [gi_si_ne (by omega)]
      exact fo a k z2
    have oj : orm_ j d1 (si_ m4 106 33 (nI (j + 1))) := orm_fr (odm_d y2 (by omega)) (fun a k z1 z2 => gi_si_ne (by omega))
    refine Or.inr ⟨d1, si_ m4 106 33 (nI (j + 1)), x1, by rw [x2, hjd], ?_, ?_, ?_, ⟨⟨?_, fun i o hi => ?_⟩, fun i o hi => ?_⟩⟩
    · rw [gi_si_ne (by omega)]; exact y1.2.1.1
    · rw [gi_si_ne (by omega)]; exact y1.2.1.2
    · rw [gi_si_ne (by omega), sa_gi x5 (by rfl)]; exact e3
    · rw [gi_si_self, List.length_append, hjd]; rfl
    · rcases app_o hi with ⟨z1, z2⟩ | ⟨z1, z2⟩
      · have := hm.1.2 i o z2
        exact ⟨(fo2 _ _ (by omega) (by unfold lwj_; omega)).trans this.1, fun k hk => (fo2 _ _ (by omega) (by unfold lwj_; omega)).trans (this.2 k hk)⟩
      · rw [← hjd] at z1
        subst z1
        subst z2
        exact ⟨by rw [gi_si_ne (by omega)]; exact y2.1, fun k hk => by rw [gi_si_ne (by omega)]; exact (y2.2.1 k hk).1⟩
    · rcases app_o hi with ⟨z1, z2⟩ | ⟨z1, z2⟩
      · exact orm_o (j := j) (by omega) (hO.2 o (List.mem_of_getElem? z2)) (hm.2 i o z2) fo2
      · rw [← hjd] at z1
        subst z1
        subst z2
        exact oj
theorem ord_0m {L : List Nat} {m : fm_} (hL : L.length ≤ 900) (h : tm_ L m) {O : List od_} (hl : O.length ≤ 6) (hm : lom_ O m) {x : Int32} (hx : 700 < L.length ∨ nat_ x 100 = none ∨ O.length = 6) : f_X12_orders x m = some (-2, m) := by
  have c33 : gi_ m 106 33 = nI O.length := hm.1.1
  unfold f_X12_orders
  rw [h.1]
  by_cases c : 700 < L.length
  · rw [if_pos (show (700 : Int32) < nI L.length from show nI 700 < nI L.length from nI_lt c (by omega))]
  · rw [if_neg (show ¬ (700 : Int32) < nI L.length from show ¬ nI 700 < nI L.length from nI_nlt (by omega) (by omega)), day_m, Option.bind_some]
    dsimp only
    by_cases c2 : nat_ x 100 = none
    · rw [bu_0 c2, if_pos rfl]
    · have c3 : O.length = 6 := (hx.resolve_left c).resolve_left c2
      have : ∃ j, nat_ x 100 = some j := by
        cases e : nat_ x 100 with
        | none => exact absurd e c2
        | some j => exact ⟨j, rfl⟩
      obtain ⟨j, hj⟩ := this
      rw [bu_1 hj, if_neg (show ¬ (1 : Int32) = 0 by decide), c33, c3, if_pos (show nI 6 = 6 from rfl)]
