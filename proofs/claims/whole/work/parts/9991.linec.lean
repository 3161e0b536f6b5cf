/-! ===== the class: lines with an e ===== -/
theorem bif_ {x : Option (Int32 × fm_)} {y K : Int32 × fm_ → Option (Int32 × fm_)} (hK : ∀ z, K (0, z) = some (0, z)) : Option.bind (Option.bind x fun q => if q.1 = 0 then some (0, q.2) else y q) K = Option.bind x fun q => if q.1 = 0 then some (0, q.2) else Option.bind (y q) K := by
  cases x with
  | none => rfl
  | some q =>
    show Option.bind (if q.1 = 0 then some (0, q.2) else y q) K = if q.1 = 0 then some (0, q.2) else Option.bind (y q) K
    by_cases c : q.1 = 0
    · rw [if_pos c, if_pos c]; exact hK q.2
    · rw [if_neg c, if_neg c]
theorem bid_ {x : Option (Int32 × fm_)} {K : Int32 × fm_ → Option (Int32 × fm_)} : Option.bind (Option.bind x fun q => some (q.1, q.2)) K = Option.bind x K := by
  cases x <;> rfl
/-- a line that asks, from its first token -/
noncomputable def LA_ (o : Nat) (m : fm_) : Option (Int32 × fm_) := Option.bind (f_X5_readHead o m) fun q13 => if q13.1 = 0 then some (0, q13.2) else Option.bind (f_X5_readWhen o q13.2) fun q19 => if q19.1 = 0 then some (0, q19.2) else Option.bind (f_X8_take 59 q19.2) fun q24 => some (q24.1, q24.2)
noncomputable def LB_ (o : Nat) (m : fm_) : Option (Int32 × fm_) := Option.bind (f_X5_readHead o m) fun q13 => if q13.1 = 0 then some (0, q13.2) else Option.bind (f_X8_take 59 q13.2) fun q24 => some (q24.1, q24.2)
theorem LA_k {o : Nat} {m : fm_} {K : Int32 × fm_ → Option (Int32 × fm_)} (hK : ∀ z, K (0, z) = some (0, z)) : Option.bind (LA_ o m) K = Option.bind (f_X5_readHead o m) fun q13 => if q13.1 = 0 then some (0, q13.2) else Option.bind (f_X5_readWhen o q13.2) fun q19 => if q19.1 = 0 then some (0, q19.2) else Option.bind (f_X8_take 59 q19.2) K := by
  unfold LA_
  rw [bif_ hK]
  congr 1
  funext q13
  by_cases c : q13.1 = 0
  · rw [if_pos c, if_pos c]
  · rw [if_neg c, if_neg c, bif_ hK]
    congr 1
    funext q19
    by_cases c : q19.1 = 0
    · rw [if_pos c, if_pos c]
    · rw [if_neg c, if_neg c, bid_]
theorem LB_k {o : Nat} {m : fm_} {K : Int32 × fm_ → Option (Int32 × fm_)} (hK : ∀ z, K (0, z) = some (0, z)) : Option.bind (LB_ o m) K = Option.bind (f_X5_readHead o m) fun q13 => if q13.1 = 0 then some (0, q13.2) else Option.bind (f_X8_take 59 q13.2) K := by
  unfold LB_
  rw [bif_ hK]
  congr 1
  funext q13
  by_cases c : q13.1 = 0
  · rw [if_pos c, if_pos c]
  · rw [if_neg c, if_neg c, bid_]
theorem bl_1 : bl_ (nI 1) = true := by decide
theorem bl_0 : bl_ (nI 0) = true := by decide
theorem lcl_c {o : Nat} (ho : 32 ≤ o) (ho2 : o ≤ 62) {d : od_} (hk : ook_ d) {u n : Nat} {t : tkn_} {r : List tkn_} {m : fm_} (h : dtc_ o d u n (t :: r) m) (ht : t.1 = 127) : LR_ o (if d.2.2.2.2.1.length < 6 then lcl_ d u r else .inl (flt_ 2 t)) (LA_ o (si_ m 68 2 (nI t.1))) m := by
  obtain ⟨h1, ⟨o1, o2, o3, o4, o5, o6, o7, o8⟩, h3, h4, h5, h6⟩ := h
  have i1 : csn_ (t :: r) (si_ m 68 2 (nI t.1)) := csn_si h1 (by omega)
  have g2 : gi_ (si_ m 68 2 (nI t.1)) 68 2 = nI 127 := by rw [gi_si_self, ht]
  have f0 : ofs_ o m (si_ m 68 2 (nI t.1)) := fun a k k1 k2 k3 => gi_si_ne (by omega)
  have gg : ∀ a k, ¬ a = 68 → gi_ (si_ m 68 2 (nI t.1)) a k = gi_ m a k := fun a k ha => gi_si_ne (by omega)
  have g3 : gi_ (si_ m 68 2 (nI t.1)) 68 3 = nI u := by rw [gi_si_ne (by omega)]; exact h4
  generalize si_ m 68 2 (nI t.1) = mm at i1 g2 f0 gg g3
  have hd : f_X5_readHead o mm = Option.bind (f_X5_readClass o mm) fun q38 => gd_ (bl_ q38.1) (some (q38.1, q38.2)) := by
    unfold f_X5_readHead
    rw [g2]
    rfl
  have e5 : gi_ mm o 5 = nI d.2.2.2.2.1.length := (gg _ _ (by omega)).trans o5
  have hlen := hk.1
  generalize hL : d.2.2.2.2.1.length = len at e5 hlen
  unfold LA_
  rw [hd]
  unfold f_X5_readClass
  by_cases c : len < 6
  · rw [if_pos c, e5, if_pos (show nI len < 6 from show nI len < nI 6 from nI_lt c (by omega))]
    obtain ⟨m1, a1, a2, a3⟩ := stn_c i1 (by omega)
    have g := tfw_6 a3
    have e2 : gi_ m1 o 2 = nI n := by rw [g _ _ (by omega), gg _ _ (by omega)]; exact h3
    rw [a1, Option.bind_some]
    dsimp only
    rw [ns_gd (by omega) (by omega), nI_clamp (by omega), e2]
    unfold lcl_
    have i2 : csn_ r (si_ m1 (o + 3) len (nI n)) := csn_si a2 (by omega)
    rcases tkn_c i2 (lo := 0) (hi := 9) (by omega) (by omega) with ⟨f, m2, b1, b2, b3, b4⟩ | ⟨v, ra, m2, b1, b2, b3, b4, b5, b6⟩
    · have b2 : f_X8_takeNumber 0 9 (si_ m1 (o + 3) len (nI n)) = some (-1, m2) := b2
      refine Or.inl ⟨f, _, by rw [b1]; rfl, ?_, flc_si (flc_si b3 (a := o + 2) (k := len) (x := -1) (by omega)) (a := o) (k := 5) (x := gi_ (si_ m2 (o + 2) len (-1)) o 5 + 1) (by omega)⟩
      rw [b2, Option.bind_some]
      dsimp only
      rw [ns_gd (by omega) (by omega), ns_gd (by omega) (by omega), gi_si_ne (show ¬ (o + 2 = o ∧ len = 5) by omega), gi_si_self, if_pos rfl]
      rfl
    · have b4 : f_X8_takeNumber 0 9 (si_ m1 (o + 3) len (nI n)) = some (nI v, m2) := b4
      have g6 := tfw_6 b6
      have e52 : gi_ (si_ m2 (o + 2) len (nI v)) o 5 + 1 = nI (len + 1) := by
        rw [gi_si_ne (by omega), g6 _ _ (by omega), gi_si_ne (by omega), g _ _ (by omega), e5]
        show nI len + nI 1 = _
        rw [nI_add]
      rw [b1, sbd_r, b4, Option.bind_some]
      dsimp only
      rw [ns_gd (by omega) (by omega), ns_gd (by omega) (by omega), gi_si_ne (show ¬ (o + 2 = o ∧ len = 5) by omega), gi_si_self, if_neg (nm1_ (by omega)), e52, Option.bind_some]
      dsimp only
      rw [gd_t (show bl_ 1 = true by decide), Option.bind_some, if_neg (show ¬ (1 : Int32) = 0 by decide)]
      dsimp only
      have key : ∀ a k, o ≤ a → a ≤ o + 4 → ¬ (a = o + 3 ∧ k = len) → ¬ (a = o + 2 ∧ k = len) → ¬ (a = o ∧ k = 5) → gi_ (si_ (si_ m2 (o + 2) len (nI v)) o 5 (nI (len + 1))) a k = gi_ m a k := fun a k k1 k2 k3 k4 k5 => by
        rw [gi_si_ne k5, gi_si_ne k4, g6 _ _ (by omega), gi_si_ne k3, g _ _ (by omega), gg _ _ (by omega)]
      have fo : ofs_ o m (si_ (si_ m2 (o + 2) len (nI v)) o 5 (nI (len + 1))) := fun a k k1 k2 k3 => by
        rw [gi_si_ne (by omega), gi_si_ne (by omega), ofs_1 (o := o) b6 a k k1 k2 k3, gi_si_ne (by omega), ofs_1 (o := o) a3 a k k1 k2 k3, gg _ _ k2]
      have q2 : gi_ (si_ (si_ m2 (o + 2) len (nI v)) o 5 (nI (len + 1))) (o + 2) len = nI v := by rw [gi_si_ne (by omega), gi_si_self]
      have q3 : gi_ (si_ (si_ m2 (o + 2) len (nI v)) o 5 (nI (len + 1))) (o + 3) len = nI n := by rw [gi_si_ne (by omega), gi_si_ne (by omega), g6 _ _ (by omega), gi_si_self]
      have q5 : gi_ (si_ (si_ m2 (o + 2) len (nI v)) o 5 (nI (len + 1))) o 5 = nI (len + 1) := gi_si_self
      have q68 : ∀ k, gi_ (si_ (si_ m2 (o + 2) len (nI v)) o 5 (nI (len + 1))) 68 k = gi_ mm 68 k := fun k => by
        rw [gi_si_ne (by omega), gi_si_ne (by omega), g6 _ _ (by omega), gi_si_ne (by omega), g _ _ (by omega)]
      have i4 : csn_ ra (si_ (si_ m2 (o + 2) len (nI v)) o 5 (nI (len + 1))) := csn_si (csn_si b5 (by omega)) (by omega)
      generalize si_ (si_ m2 (o + 2) len (nI v)) o 5 (nI (len + 1)) = m4 at key fo q2 q3 q5 q68 i4
      refine ask1_c ho ho2 may_1 (d := d) (mk := fun S1 => (d.1, d.2.1, d.2.2.1, d.2.2.2.1, d.2.2.2.2.1 ++ [(v, S1)], d.2.2.2.2.2.1, d.2.2.2.2.2.2)) i4 ((q68 2).trans g2) ((key _ _ (by omega) (by omega) (by omega) (by omega) (by omega)).trans h3) ((q68 3).trans g3) h5 h6 fo ?_
      intro S1 m5 w1 w2 w3
      have rb : ∀ k, k < n → gi_ m5 (o + 1) k = gi_ m (o + 1) k := fun k hk => (w2 k hk).trans (key _ _ (by omega) (by omega) (by omega) (by omega) (by omega))
      have kk : ∀ a k, o ≤ a → a ≤ o + 4 → ¬ (a = o ∧ k = 2) → ¬ a = o + 1 → ¬ (a = o + 3 ∧ k = len) → ¬ (a = o + 2 ∧ k = len) → ¬ (a = o ∧ k = 5) → gi_ m5 a k = gi_ m a k := fun a k k1 k2 k3 k4 k5 k6 k7 => (w3 a k k1 k2 k3 k4).trans (key a k k1 k2 k5 k6 k7)
      refine ⟨(kk _ _ (by omega) (by omega) (by omega) (by omega) (by omega) (by omega) (by omega)).trans o1, fun k hk => (kk _ _ (by omega) (by omega) (by omega) (by omega) (by omega) (by omega) (by omega)).trans (o2 k hk), hrc_g o3 (kk _ _ (by omega) (by omega) (by omega) (by omega) (by omega) (by omega) (by omega)) (kk _ _ (by omega) (by omega) (by omega) (by omega) (by omega) (by omega) (by omega)), (kk _ _ (by omega) (by omega) (by omega) (by omega) (by omega) (by omega) (by omega)).trans o4, ?_, ?_, ?_, ?_⟩
      · rw [w3 _ _ (by omega) (by omega) (by omega) (by omega), q5]
        show nI (len + 1) = nI (d.2.2.2.2.1 ++ [(v, S1)]).length
        rw [List.length_append, hL]
        rfl
      · intro l q hl
        rcases app_q hl with ⟨z1, z2⟩ | ⟨z1, z2⟩
        · obtain ⟨y1, s, y2, y3⟩ := o6 l q z2
          rw [hL] at z1
          exact ⟨(kk _ _ (by omega) (by omega) (by omega) (by omega) (by omega) (by omega) (by omega)).trans y1, s, (kk _ _ (by omega) (by omega) (by omega) (by omega) (by omega) (by omega) (by omega)).trans y2, ccb_g y3 (by omega) rb⟩
        · rw [hL] at z1
          subst z1
          subst z2
          exact ⟨(w3 _ _ (by omega) (by omega) (by omega) (by omega)).trans q2, n, (w3 _ _ (by omega) (by omega) (by omega) (by omega)).trans q3, w1⟩
      · rw [kk o 10 (by omega) (by omega) (by omega) (by omega) (by omega) (by omega) (by omega)]
        exact ocb_g o7 (by omega) rb
      · rw [kk o 11 (by omega) (by omega) (by omega) (by omega) (by omega) (by omega) (by omega)]
        exact ocb_g o8 (by omega) rb
  · rw [if_neg c, e5, if_neg (show ¬ nI len < 6 from show ¬ nI len < nI 6 from nI_nlt (by omega) (by omega))]
    obtain ⟨m9, z1, z2, _⟩ := fai_c i1 2
    have z1 : f_X8_fail 2 mm = some (0, m9) := z1
    refine Or.inl ⟨_, m9, rfl, ?_, z2⟩
    rw [z1]
    rfl
theorem lfr_c {o : Nat} (ho : 32 ≤ o) (ho2 : o ≤ 62) {d : od_} {u n : Nat} {t : tkn_} {r : List tkn_} {m : fm_} (h : dtc_ o d u n (t :: r) m) (ht : t.1 = 108) : LR_ o (if d.2.2.2.2.2.1 = none then lfr_ d u r else .inl (flt_ 2 t)) (LA_ o (si_ m 68 2 (nI t.1))) m := by
  obtain ⟨h1, ⟨o1, o2, o3, o4, o5, o6, o7, o8⟩, h3, h4, h5, h6⟩ := h
  have i1 : csn_ (t :: r) (si_ m 68 2 (nI t.1)) := csn_si h1 (by omega)
  have g2 : gi_ (si_ m 68 2 (nI t.1)) 68 2 = nI 108 := by rw [gi_si_self, ht]
  have f0 : ofs_ o m (si_ m 68 2 (nI t.1)) := fun a k k1 k2 k3 => gi_si_ne (by omega)
  have gg : ∀ a k, ¬ a = 68 → gi_ (si_ m 68 2 (nI t.1)) a k = gi_ m a k := fun a k ha => gi_si_ne (by omega)
  have g3 : gi_ (si_ m 68 2 (nI t.1)) 68 3 = nI u := by rw [gi_si_ne (by omega)]; exact h4
  generalize si_ m 68 2 (nI t.1) = mm at i1 g2 f0 gg g3
  have hd : f_X5_readHead o mm = Option.bind (f_X5_readFree o mm) fun q38 => gd_ (bl_ q38.1) (some (q38.1, q38.2)) := by
    unfold f_X5_readHead
    rw [g2]
    rfl
  have e10 : gi_ mm o 10 = gi_ m o 10 := gg _ _ (by omega)
  have hn := ocb_n o7 (by omega)
  unfold LA_
  rw [hd]
  unfold f_X5_readFree
  by_cases c : d.2.2.2.2.2.1 = none
  · rw [if_pos c, e10, if_pos (hn.mpr c)]
    obtain ⟨m1, a1, a2, a3⟩ := stn_c i1 (by omega)
    have g := tfw_6 a3
    have e2 : gi_ m1 o 2 = nI n := by rw [g _ _ (by omega), gg _ _ (by omega)]; exact h3
    rw [a1, Option.bind_some]
    dsimp only
    rw [e2, Option.bind_some]
    dsimp only
    rw [gd_t (show bl_ 1 = true by decide), Option.bind_some, if_neg (show ¬ (1 : Int32) = 0 by decide)]
    dsimp only
    unfold lfr_
    have key : ∀ a k, o ≤ a → a ≤ o + 4 → ¬ (a = o ∧ k = 10) → gi_ (si_ m1 o 10 (nI n)) a k = gi_ m a k := fun a k k1 k2 k3 => by
      rw [gi_si_ne k3, g _ _ (by omega), gg _ _ (by omega)]
    have fo : ofs_ o m (si_ m1 o 10 (nI n)) := fun a k k1 k2 k3 => by
      rw [gi_si_ne (by omega), ofs_1 (o := o) a3 a k k1 k2 k3, gg _ _ k2]
    have q10 : gi_ (si_ m1 o 10 (nI n)) o 10 = nI n := gi_si_self
    have q68 : ∀ k, gi_ (si_ m1 o 10 (nI n)) 68 k = gi_ mm 68 k := fun k => by
      rw [gi_si_ne (by omega), g _ _ (by omega)]
    have i4 : csn_ r (si_ m1 o 10 (nI n)) := csn_si a2 (by omega)
    generalize si_ m1 o 10 (nI n) = m4 at key fo q10 q68 i4
    refine ask1_c ho ho2 may_2 (d := d) (mk := fun S1 => (d.1, d.2.1, d.2.2.1, d.2.2.2.1, d.2.2.2.2.1, some S1, d.2.2.2.2.2.2)) i4 ((q68 2).trans g2) ((key _ _ (by omega) (by omega) (by omega)).trans h3) ((q68 3).trans g3) h5 h6 fo ?_
    intro S1 m5 w1 w2 w3
    have rb : ∀ k, k < n → gi_ m5 (o + 1) k = gi_ m (o + 1) k := fun k hk => (w2 k hk).trans (key _ _ (by omega) (by omega) (by omega))
    have kk : ∀ a k, o ≤ a → a ≤ o + 4 → ¬ (a = o ∧ k = 2) → ¬ a = o + 1 → ¬ (a = o ∧ k = 10) → gi_ m5 a k = gi_ m a k := fun a k k1 k2 k3 k4 k5 => (w3 a k k1 k2 k3 k4).trans (key a k k1 k2 k5)
    refine ⟨(kk _ _ (by omega) (by omega) (by omega) (by omega) (by omega)).trans o1, fun k hk => (kk _ _ (by omega) (by omega) (by omega) (by omega) (by omega)).trans (o2 k hk), hrc_g o3 (kk _ _ (by omega) (by omega) (by omega) (by omega) (by omega)) (kk _ _ (by omega) (by omega) (by omega) (by omega) (by omega)), (kk _ _ (by omega) (by omega) (by omega) (by omega) (by omega)).trans o4, (kk _ _ (by omega) (by omega) (by omega) (by omega) (by omega)).trans o5, clc_g o6 (by omega) rb (fun k hk => ⟨kk _ _ (by omega) (by omega) (by omega) (by omega) (by omega), kk _ _ (by omega) (by omega) (by omega) (by omega) (by omega)⟩), ?_, ?_⟩
    · exact ⟨n, (w3 _ _ (by omega) (by omega) (by omega) (by omega)).trans q10, w1⟩
    · rw [kk o 11 (by omega) (by omega) (by omega) (by omega) (by omega)]
      exact ocb_g o8 (by omega) rb
  · rw [if_neg c, e10, if_neg (fun q => c (hn.mp q))]
    obtain ⟨m9, z1, z2, _⟩ := fai_c i1 2
    have z1 : f_X8_fail 2 mm = some (0, m9) := z1
    refine Or.inl ⟨_, m9, rfl, ?_, z2⟩
    rw [z1]
    rfl
theorem lap_c {o : Nat} (ho : 32 ≤ o) (ho2 : o ≤ 62) {d : od_} {u n : Nat} {t : tkn_} {r : List tkn_} {m : fm_} (h : dtc_ o d u n (t :: r) m) (ht : t.1 = 110) : LR_ o (if d.2.2.2.2.2.2 = none then lap_ d u r else .inl (flt_ 2 t)) (LA_ o (si_ m 68 2 (nI t.1))) m := by
  obtain ⟨h1, ⟨o1, o2, o3, o4, o5, o6, o7, o8⟩, h3, h4, h5, h6⟩ := h
  have i1 : csn_ (t :: r) (si_ m 68 2 (nI t.1)) := csn_si h1 (by omega)
  have g2 : gi_ (si_ m 68 2 (nI t.1)) 68 2 = nI 110 := by rw [gi_si_self, ht]
  have f0 : ofs_ o m (si_ m 68 2 (nI t.1)) := fun a k k1 k2 k3 => gi_si_ne (by omega)
  have gg : ∀ a k, ¬ a = 68 → gi_ (si_ m 68 2 (nI t.1)) a k = gi_ m a k := fun a k ha => gi_si_ne (by omega)
  have g3 : gi_ (si_ m 68 2 (nI t.1)) 68 3 = nI u := by rw [gi_si_ne (by omega)]; exact h4
  generalize si_ m 68 2 (nI t.1) = mm at i1 g2 f0 gg g3
  have hd : f_X5_readHead o mm = Option.bind (f_X5_readAppeal o mm) fun q38 => gd_ (bl_ q38.1) (some (q38.1, q38.2)) := by
    unfold f_X5_readHead
    rw [g2]
    rfl
  have e10 : gi_ mm o 11 = gi_ m o 11 := gg _ _ (by omega)
  have hn := ocb_n o8 (by omega)
  unfold LA_
  rw [hd]
  unfold f_X5_readAppeal
  by_cases c : d.2.2.2.2.2.2 = none
  · rw [if_pos c, e10, if_pos (hn.mpr c)]
    obtain ⟨m1, a1, a2, a3⟩ := stn_c i1 (by omega)
    have g := tfw_6 a3
    have e2 : gi_ m1 o 2 = nI n := by rw [g _ _ (by omega), gg _ _ (by omega)]; exact h3
    rw [a1, Option.bind_some]
    dsimp only
    rw [e2, Option.bind_some]
    dsimp only
    rw [gd_t (show bl_ 1 = true by decide), Option.bind_some, if_neg (show ¬ (1 : Int32) = 0 by decide)]
    dsimp only
    unfold lap_
    have key : ∀ a k, o ≤ a → a ≤ o + 4 → ¬ (a = o ∧ k = 11) → gi_ (si_ m1 o 11 (nI n)) a k = gi_ m a k := fun a k k1 k2 k3 => by
      rw [gi_si_ne k3, g _ _ (by omega), gg _ _ (by omega)]
    have fo : ofs_ o m (si_ m1 o 11 (nI n)) := fun a k k1 k2 k3 => by
      rw [gi_si_ne (by omega), ofs_1 (o := o) a3 a k k1 k2 k3, gg _ _ k2]
    have q10 : gi_ (si_ m1 o 11 (nI n)) o 11 = nI n := gi_si_self
    have q68 : ∀ k, gi_ (si_ m1 o 11 (nI n)) 68 k = gi_ mm 68 k := fun k => by
      rw [gi_si_ne (by omega), g _ _ (by omega)]
    have i4 : csn_ r (si_ m1 o 11 (nI n)) := csn_si a2 (by omega)
    generalize si_ m1 o 11 (nI n) = m4 at key fo q10 q68 i4
    refine ask1_c ho ho2 may_3 (d := d) (mk := fun S1 => (d.1, d.2.1, d.2.2.1, d.2.2.2.1, d.2.2.2.2.1, d.2.2.2.2.2.1, some S1)) i4 ((q68 2).trans g2) ((key _ _ (by omega) (by omega) (by omega)).trans h3) ((q68 3).trans g3) h5 h6 fo ?_
    intro S1 m5 w1 w2 w3
    have rb : ∀ k, k < n → gi_ m5 (o + 1) k = gi_ m (o + 1) k := fun k hk => (w2 k hk).trans (key _ _ (by omega) (by omega) (by omega))
    have kk : ∀ a k, o ≤ a → a ≤ o + 4 → ¬ (a = o ∧ k = 2) → ¬ a = o + 1 → ¬ (a = o ∧ k = 11) → gi_ m5 a k = gi_ m a k := fun a k k1 k2 k3 k4 k5 => (w3 a k k1 k2 k3 k4).trans (key a k k1 k2 k5)
    refine ⟨(kk _ _ (by omega) (by omega) (by omega) (by omega) (by omega)).trans o1, fun k hk => (kk _ _ (by omega) (by omega) (by omega) (by omega) (by omega)).trans (o2 k hk), hrc_g o3 (kk _ _ (by omega) (by omega) (by omega) (by omega) (by omega)) (kk _ _ (by omega) (by omega) (by omega) (by omega) (by omega)), (kk _ _ (by omega) (by omega) (by omega) (by omega) (by omega)).trans o4, (kk _ _ (by omega) (by omega) (by omega) (by omega) (by omega)).trans o5, clc_g o6 (by omega) rb (fun k hk => ⟨kk _ _ (by omega) (by omega) (by omega) (by omega) (by omega), kk _ _ (by omega) (by omega) (by omega) (by omega) (by omega)⟩), ?_, ?_⟩
    · rw [kk o 10 (by omega) (by omega) (by omega) (by omega) (by omega)]
      exact ocb_g o7 (by omega) rb
    · exact ⟨n, (w3 _ _ (by omega) (by omega) (by omega) (by omega)).trans q10, w1⟩
  · rw [if_neg c, e10, if_neg (fun q => c (hn.mp q))]
    obtain ⟨m9, z1, z2, _⟩ := fai_c i1 2
    have z1 : f_X8_fail 2 mm = some (0, m9) := z1
    refine Or.inl ⟨_, m9, rfl, ?_, z2⟩
    rw [z1]
    rfl
