/-! the class's machine -/
theorem join_c {w : Nat} (h1 : 21 ≤ w) (h2 : w ≤ 27) (x y : Int32) (m : fm_) {e : Int32} (he : e = enc_ (w, 0)) : ¬ e = -100 ∧ e ≤ -9 ∧ ¬ e = -114 ∧ f_X4_joined e x y m = some (bin_ w x y, m) := by
  have key : w = 21 ∨ w = 22 ∨ w = 23 ∨ w = 24 ∨ w = 25 ∨ w = 26 ∨ w = 27 := by omega
  have lt_le : ∀ a b : Int32, ¬ a < b ↔ b ≤ a := fun a b => by rw [Int32.lt_iff_toInt_lt, Int32.le_iff_toInt_le]; omega
  rcases key with rfl | rfl | rfl | rfl | rfl | rfl | rfl
  · have he : e = -112 := he
    subst he
    exact ⟨by decide, by decide, by decide, rfl⟩
  · have he : e = -113 := he
    subst he
    exact ⟨by decide, by decide, by decide, rfl⟩
  · have he : e = -61 := he
    subst he
    refine ⟨by decide, by decide, by decide, ?_⟩
    show (if x = y then some ((1 : Int32), m) else some (0, m)) = some ((if x = y then 1 else 0), m)
    by_cases c : x = y
    · rw [if_pos c, if_pos c]
    · rw [if_neg c, if_neg c]
  · have he : e = -60 := he
    subst he
    refine ⟨by decide, by decide, by decide, ?_⟩
    show (if y ≤ x then some ((0 : Int32), m) else some (1, m)) = some ((if x < y then 1 else 0), m)
    by_cases c : x < y
    · rw [if_pos c, if_neg fun q => (lt_le x y).mpr q c]
    · rw [if_neg c, if_pos ((lt_le x y).mp c)]
  · have he : e = -62 := he
    subst he
    refine ⟨by decide, by decide, by decide, ?_⟩
    show (if x ≤ y then some ((0 : Int32), m) else some (1, m)) = some ((if y < x then 1 else 0), m)
    by_cases c : y < x
    · rw [if_pos c, if_neg fun q => (lt_le y x).mpr q c]
    · rw [if_neg c, if_pos ((lt_le y x).mp c)]
  · have he : e = -43 := he
    subst he
    exact ⟨by decide, by decide, by decide, rfl⟩
  · have he : e = -45 := he
    subst he
    exact ⟨by decide, by decide, by decide, rfl⟩
theorem enc_w {q : Nat × Nat} (h : 20 ≤ q.1) : enc_ q = enc_ (q.1, 0) := by
  unfold enc_
  rw [if_neg (by omega), if_neg (show ¬ (q.1, 0).1 = 0 by show ¬ q.1 = 0; omega)]
theorem hold_c {o : Nat} (ho : o + 5 < 93) {al : Nat → Bool} {uw : Nat → Int32} (ha8 : ∀ w, al w = true → 1 ≤ w ∧ w ≤ 8) {m0 : fm_} {n : Nat} (hn : gi_ m0 o 2 = nI n) (hn4 : n ≤ 400) (hask : askc_ al uw m0) {x1 : Int32} : ∀ (c : cd_) (pos : Nat) (S : List Int32) (t : List Bool) (m : fm_), (∀ a k, ¬ a = o + 5 → gi_ m a k = gi_ m0 a k) → (∀ i q, c[i]? = some q → gi_ m0 (o + 1) (pos + i) = enc_ q) → gi_ m0 (o + 1) (pos + c.length) = -100 → pos + c.length < n → stk_ (o + 5) S m → vt_ t S → S.length ≤ 50 → tyc_ al c t = some [true] → ∃ m', f_X4_holds_11 o x1 (nI S.length) (nI pos) m = some (b01_ (hv_ (ev_ uw c S)), m') ∧ ∀ a k, ¬ a = o + 5 → gi_ m' a k = gi_ m0 a k := by
  intro c
  induction c with
  | nil =>
    intro pos S t m hfr hcode hend hlen hst hvt hS hty
    cases hty
    have hl := vt_len hvt
    match S, hvt with
    | [v], hvt =>
      have hv := hvt.1 rfl
      have g0 : gi_ m (o + 5) 0 = v := (stk_top hst).1
      have gn : gi_ m o 2 = nI n := (hfr o 2 (by omega)).trans hn
      have ge : gi_ m (o + 1) pos = -100 := (hfr (o + 1) pos (by omega)).trans hend
      have hlen : pos < n := hlen
      refine ⟨m, ?_, hfr⟩
      rw [e_X4_holds_11, if_neg (show ¬ gi_ m o 2 ≤ nI pos by rw [gn]; exact nI_ge (by omega) (by omega)), gd_t (show ix_ (nI pos) 400 = true from ix_i (vp_in_nI (by omega) (by omega))), nI_clamp (show pos < 2 ^ 31 by omega), ge, if_pos rfl, if_pos (show nI [v].length = 1 from rfl), gd_t (show ix_ 0 51 = true from rfl), show Int32.toNatClampNeg 0 = 0 from rfl, g0]
      rcases hv with hv | hv
      · subst hv
        rfl
      · subst hv
        rfl
  | cons q c ih =>
    intro pos S t m hfr hcode hend hlen hst hvt hS hty
    obtain ⟨t', h1, h2, h3⟩ := tyc_s hty
    obtain ⟨v1, v2⟩ := tys_v (uw := uw) h1 hvt
    have hl' := vt_len v1
    have gn : gi_ m o 2 = nI n := (hfr o 2 (by omega)).trans hn
    have gq : gi_ m (o + 1) pos = enc_ q := (hfr (o + 1) pos (by omega)).trans (hcode 0 q rfl)
    rw [List.length_cons] at hend hlen
    have nx : ∀ m1, (∀ a k, ¬ a = o + 5 → gi_ m1 a k = gi_ m0 a k) → stk_ (o + 5) (es_ uw q S) m1 → f_X4_holds_11 o x1 (nI S.length) (nI pos) m = f_X4_holds_11 o x1 (nI (es_ uw q S).length) (nI (pos + 1)) m1 → ∃ m', f_X4_holds_11 o x1 (nI S.length) (nI pos) m = some (b01_ (hv_ (ev_ uw (q :: c) S)), m') ∧ ∀ a k, ¬ a = o + 5 → gi_ m' a k = gi_ m0 a k := fun m1 hfr1 hst1 hs => by
      obtain ⟨m', e1, e2⟩ := ih (pos + 1) (es_ uw q S) t' m1 hfr1 (fun i r hi => by
        have := hcode (i + 1) r hi
        rw [show pos + (i + 1) = pos + 1 + i by omega] at this
        exact this) (by rw [show pos + 1 + c.length = pos + (c.length + 1) by omega]; exact hend) (by omega) hst1 v1 (by omega) h3
      exact ⟨m', by rw [hs, e1]; rfl, e2⟩
    have fr1 : ∀ (j : Nat) (x : Int32), ∀ a k, ¬ a = o + 5 → gi_ (si_ m (o + 5) j x) a k = gi_ m0 a k := fun j x a k ha => (gi_si_ne (fun z => ha z.1)).trans (hfr a k ha)
    rcases v2 with ⟨q0, q9, e⟩ | ⟨q1, q8, qa, e⟩ | ⟨q20, y, R, hS2, hy, e⟩ | ⟨qb, x, y, R, hS2, hxy, e⟩
    · have eq : enc_ q = nI q.2 := by unfold enc_; rw [if_pos q0]
      obtain ⟨n1, n2, n3⟩ := num_ q9
      rw [e] at nx
      refine nx (si_ m (o + 5) S.length (nI q.2)) (fr1 _ _) (stk_push hst) ?_
      rw [e_X4_holds_11, if_neg (show ¬ gi_ m o 2 ≤ nI pos by rw [gn]; exact nI_ge (by omega) (by omega)), gd_t (show ix_ (nI pos) 400 = true from ix_i (vp_in_nI (by omega) (by omega))), nI_clamp (show pos < 2 ^ 31 by omega), gq, eq, if_neg n1, gd_t (show ix_ (nI pos) 400 = true from ix_i (vp_in_nI (by omega) (by omega)))]
      unfold f_X4_isPush f_X4_pushed
      rw [if_neg n2]
      simp only [Option.bind_some]
      rw [if_neg (show ¬ (1 : Int32) = 0 by decide), if_pos (show nI S.length < Int32.ofNat 51 from nI_lt (b := 51) (by omega) (by omega)), if_pos n3]
      simp only [Option.bind_some]
      rw [gd_t (show ix_ (nI S.length) 51 = true from ix_i (vp_in_nI (by omega) (by omega))), nI_clamp (show S.length < 2 ^ 31 by omega), nI_1, nI_1]
      rfl
    · have eq : enc_ q = -(nI q.1) := by unfold enc_; rw [if_neg (by omega), if_pos q8]
      obtain ⟨n1, n2, n3, n4, n5, n6⟩ := uni_ q1 q8
      have ga : gi_ m 93 (q.1 - 1) = uw q.1 := (hfr 93 _ (by omega)).trans (hask q.1 qa)
      rw [e] at nx
      refine nx (si_ m (o + 5) S.length (uw q.1)) (fr1 _ _) (stk_push hst) ?_
      rw [e_X4_holds_11, if_neg (show ¬ gi_ m o 2 ≤ nI pos by rw [gn]; exact nI_ge (by omega) (by omega)), gd_t (show ix_ (nI pos) 400 = true from ix_i (vp_in_nI (by omega) (by omega))), nI_clamp (show pos < 2 ^ 31 by omega), gq, eq, if_neg n1, gd_t (show ix_ (nI pos) 400 = true from ix_i (vp_in_nI (by omega) (by omega)))]
      unfold f_X4_isPush f_X4_pushed
      rw [if_neg n2]
      simp only [Option.bind_some]
      rw [if_neg (show ¬ (1 : Int32) = 0 by decide), if_pos (show nI S.length < Int32.ofNat 51 from nI_lt (b := 51) (by omega) (by omega)), if_neg n3, if_neg n4, gd_t n5, n6, ga]
      simp only [Option.bind_some]
      rw [gd_t (show ix_ (nI S.length) 51 = true from ix_i (vp_in_nI (by omega) (by omega))), nI_clamp (show S.length < 2 ^ 31 by omega), nI_1, nI_1]
      rfl
    · have eq : enc_ q = -114 := by unfold enc_; rw [if_neg (by omega), if_neg (by omega), if_pos q20]
      rw [hS2] at hst hS nx ⊢
      rw [hS2] at e
      rw [e] at nx
      obtain ⟨g1, st1⟩ := stk_top hst
      rw [List.length_cons] at hS
      refine nx (si_ m (o + 5) R.length (1 - y)) (fr1 _ _) (stk_push st1) ?_
      have el : R.length + 1 - 1 = R.length := by omega
      rw [List.length_cons]
      rw [e_X4_holds_11, if_neg (show ¬ gi_ m o 2 ≤ nI pos by rw [gn]; exact nI_ge (by omega) (by omega)), gd_t (show ix_ (nI pos) 400 = true from ix_i (vp_in_nI (by omega) (by omega))), nI_clamp (show pos < 2 ^ 31 by omega), gq, eq, if_neg (show ¬ (-114 : Int32) = -100 by decide), gd_t (show ix_ (nI pos) 400 = true from ix_i (vp_in_nI (by omega) (by omega)))]
      unfold f_X4_isPush
      rw [if_pos (show (-114 : Int32) ≤ -9 by decide)]
      simp only [Option.bind_some]
      rw [if_pos trivial, if_pos trivial, if_pos (show (1 : Int32) ≤ nI (R.length + 1) from nI_le (a := 1) (by omega) (by omega)), nI_pred, gd_t (show ix_ (nI R.length) 51 = true from ix_i (vp_in_nI (by omega) (by omega))), gd_t (show ix_ (nI R.length) 51 = true from ix_i (vp_in_nI (by omega) (by omega))), nI_clamp (show R.length < 2 ^ 31 by omega), g1, nI_1]
      rfl
    · have eq : enc_ q = enc_ (q.1, 0) := enc_w (by omega)
      rw [hS2] at hst hS nx ⊢
      rw [hS2] at e
      rw [e] at nx
      obtain ⟨g1, st1⟩ := stk_top hst
      obtain ⟨g2, st2⟩ := stk_top st1
      rw [List.length_cons, List.length_cons] at hS
      rw [List.length_cons] at g1
      obtain ⟨n1, n2, n3, n4⟩ := join_c qb.1 qb.2 x y m eq
      refine nx (si_ m (o + 5) R.length (bin_ q.1 x y)) (fr1 _ _) (stk_push st2) ?_
      have el : R.length + 1 + 1 - 1 = R.length + 1 := by omega
      have el2 : R.length + 1 - 1 = R.length := by omega
      rw [List.length_cons, List.length_cons]
      rw [e_X4_holds_11, if_neg (show ¬ gi_ m o 2 ≤ nI pos by rw [gn]; exact nI_ge (by omega) (by omega)), gd_t (show ix_ (nI pos) 400 = true from ix_i (vp_in_nI (by omega) (by omega))), nI_clamp (show pos < 2 ^ 31 by omega), gq, if_neg n1, gd_t (show ix_ (nI pos) 400 = true from ix_i (vp_in_nI (by omega) (by omega)))]
      unfold f_X4_isPush
      rw [if_pos n2]
      simp only [Option.bind_some]
      rw [if_pos trivial, if_neg n3, if_pos (show (2 : Int32) ≤ nI (R.length + 1 + 1) from nI_le (a := 2) (by omega) (by omega)), pk_m1, nI_pred, gd_t (show ix_ (nI R.length) 51 = true from ix_i (vp_in_nI (by omega) (by omega))), gd_t (show ix_ (nI (R.length + 1)) 51 = true from ix_i (vp_in_nI (by omega) (by omega))), nI_clamp (show R.length < 2 ^ 31 by omega), nI_clamp (show R.length + 1 < 2 ^ 31 by omega), g1, g2, n4]
      simp only [Option.bind_some]
      rw [gd_t (show ix_ (nI R.length) 51 = true from ix_i (vp_in_nI (by omega) (by omega))), nI_1]
      rfl
