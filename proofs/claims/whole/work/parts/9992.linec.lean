/-! ===== the class: lines without an e ===== -/
theorem nfl_c {o : Nat} {t : tkn_} {r : List tkn_} {mm m : fm_} (i1 : csn_ (t :: r) mm) {g : Option (Int32 × fm_)} (hd : f_X5_readHead o mm = Option.bind g fun q38 => gd_ (bl_ q38.1) (some (q38.1, q38.2))) (hg : g = Option.bind (f_X8_fail 2 mm) fun q => gd_ (bl_ q.1) (some (q.1, q.2))) : LR_ o (.inl (flt_ 2 t)) (LB_ o mm) m := by
  obtain ⟨m9, z1, z2, _⟩ := fai_c i1 2
  have z1 : f_X8_fail 2 mm = some (0, m9) := z1
  refine Or.inl ⟨_, m9, rfl, ?_, z2⟩
  unfold LB_
  rw [hd, hg, z1]
  rfl
theorem lgr_c {o : Nat} (ho : 32 ≤ o) (ho2 : o ≤ 62) {d : od_} (hk : ook_ d) {u n : Nat} {t : tkn_} {r : List tkn_} {m : fm_} (h : dtc_ o d u n (t :: r) m) (ht : t.1 = 109) : LR_ o (if d.2.2.2.1 = none then lgr_ d u r else .inl (flt_ 2 t)) (LB_ o (si_ m 68 2 (nI t.1))) m := by
  obtain ⟨h1, ⟨o1, o2, o3, o4, o5, o6, o7, o8⟩, h3, h4, h5, h6⟩ := h
  have i1 : csn_ (t :: r) (si_ m 68 2 (nI t.1)) := csn_si h1 (by omega)
  have g2 : gi_ (si_ m 68 2 (nI t.1)) 68 2 = nI 109 := by rw [gi_si_self, ht]
  have gg : ∀ a k, ¬ a = 68 → gi_ (si_ m 68 2 (nI t.1)) a k = gi_ m a k := fun a k ha => gi_si_ne (by omega)
  have g3 : gi_ (si_ m 68 2 (nI t.1)) 68 3 = nI u := by rw [gi_si_ne (by omega)]; exact h4
  generalize si_ m 68 2 (nI t.1) = mm at i1 g2 gg g3
  have hd : f_X5_readHead o mm = Option.bind (f_X5_readGrace o mm) fun q38 => gd_ (bl_ q38.1) (some (q38.1, q38.2)) := by
    unfold f_X5_readHead
    rw [g2]
    rfl
  have e9 : gi_ mm o 9 = gi_ m o 9 := gg _ _ (by omega)
  have hn : gi_ m o 9 = -1 ↔ d.2.2.2.1 = none := by
    rw [o4]
    exact ooc_n (fun v hv => by have := hk.2.2.2.2.2 v hv; omega)
  by_cases c : d.2.2.2.1 = none
  · rw [if_pos c]
    unfold LB_
    rw [hd]
    unfold f_X5_readGrace lgr_
    rw [e9, if_pos (hn.mpr c)]
    obtain ⟨m1, a1, a2, a3⟩ := stn_c i1 (by omega)
    have g := tfw_6 a3
    rw [a1, Option.bind_some]
    dsimp only
    rcases tkn_c a2 (lo := 0) (hi := 20) (by omega) (by omega) with ⟨f, m2, b1, b2, b3, b4⟩ | ⟨v, ra, m2, b1, b2, b3, b4, b5, b6⟩
    · have b2 : f_X8_takeNumber 0 20 m1 = some (-1, m2) := b2
      refine Or.inl ⟨f, _, by rw [b1]; rfl, ?_, flc_si b3 (a := o) (k := 9) (x := -1) (by omega)⟩
      rw [b2, Option.bind_some]
      dsimp only
      rw [gi_si_self, if_pos rfl]
      rfl
    · have b4 : f_X8_takeNumber 0 20 m1 = some (nI v, m2) := b4
      have g6 := tfw_6 b6
      rw [b1, sbd_r, b4, Option.bind_some]
      dsimp only
      rw [gi_si_self, if_neg (nm1_ (by omega)), Option.bind_some]
      dsimp only
      rw [gd_t (show bl_ 1 = true by decide), Option.bind_some, if_neg (show ¬ (1 : Int32) = 0 by decide)]
      dsimp only
      have key : ∀ a k, o ≤ a → a ≤ o + 4 → ¬ (a = o ∧ k = 9) → gi_ (si_ m2 o 9 (nI v)) a k = gi_ m a k := fun a k k1 k2 k3 => by
        rw [gi_si_ne k3, g6 _ _ (by omega), g _ _ (by omega), gg _ _ (by omega)]
      have fo : ofs_ o m (si_ m2 o 9 (nI v)) := fun a k k1 k2 k3 => by
        rw [gi_si_ne (by omega), ofs_1 (o := o) b6 a k k1 k2 k3, ofs_1 (o := o) a3 a k k1 k2 k3, gg _ _ k2]
      have dt : dtc_ o (d.1, d.2.1, d.2.2.1, some v, d.2.2.2.2.1, d.2.2.2.2.2.1, d.2.2.2.2.2.2) u n ra (si_ m2 o 9 (nI v)) := by
        refine ⟨csn_si b5 (by omega), ⟨(key _ _ (by omega) (by omega) (by omega)).trans o1, fun k hk => (key _ _ (by omega) (by omega) (by omega)).trans (o2 k hk), hrc_g o3 (key _ _ (by omega) (by omega) (by omega)) (key _ _ (by omega) (by omega) (by omega)), gi_si_self, (key _ _ (by omega) (by omega) (by omega)).trans o5, clc_g o6 (Nat.le_refl _) (fun k hk => key _ _ (by omega) (by omega) (by omega)) (fun k hk => ⟨key _ _ (by omega) (by omega) (by omega), key _ _ (by omega) (by omega) (by omega)⟩), ?_, ?_⟩, (key _ _ (by omega) (by omega) (by omega)).trans h3, ?_, h5, h6⟩
        · rw [key o 10 (by omega) (by omega) (by omega)]
          exact ocb_g o7 (Nat.le_refl _) (fun k hk => key _ _ (by omega) (by omega) (by omega))
        · rw [key o 11 (by omega) (by omega) (by omega)]
          exact ocb_g o8 (Nat.le_refl _) (fun k hk => key _ _ (by omega) (by omega) (by omega))
        · rw [gi_si_ne (by omega), g6 _ _ (by omega), g _ _ (by omega)]; exact g3
      rcases fin_c ho dt with ⟨f, m3, x1, x2, x3⟩ | ⟨r2, m3, x1, x2, x3, x4⟩
      · refine Or.inl ⟨f, m3, by rw [x1]; rfl, ?_, x3⟩
        rw [x2]
        rfl
      · refine Or.inr ⟨_, u, r2, n, m3, by rw [x1]; rfl, ?_, x3, ofs_t fo x4⟩
        rw [x2]
        rfl
  · rw [if_neg c]
    refine nfl_c i1 hd ?_
    unfold f_X5_readGrace
    rw [e9, if_neg (fun q => c (hn.mp q))]
theorem lhr_c {o : Nat} (ho : 32 ≤ o) (ho2 : o ≤ 62) {d : od_} (hk : ook_ d) {u n : Nat} {t : tkn_} {r : List tkn_} {m : fm_} (h : dtc_ o d u n (t :: r) m) (ht : t.1 = 107) : LR_ o (if d.2.2.1 = none then lhr_ d u r else .inl (flt_ 2 t)) (LB_ o (si_ m 68 2 (nI t.1))) m := by
  obtain ⟨h1, ⟨o1, o2, o3, o4, o5, o6, o7, o8⟩, h3, h4, h5, h6⟩ := h
  have i1 : csn_ (t :: r) (si_ m 68 2 (nI t.1)) := csn_si h1 (by omega)
  have g2 : gi_ (si_ m 68 2 (nI t.1)) 68 2 = nI 107 := by rw [gi_si_self, ht]
  have gg : ∀ a k, ¬ a = 68 → gi_ (si_ m 68 2 (nI t.1)) a k = gi_ m a k := fun a k ha => gi_si_ne (by omega)
  have g3 : gi_ (si_ m 68 2 (nI t.1)) 68 3 = nI u := by rw [gi_si_ne (by omega)]; exact h4
  generalize si_ m 68 2 (nI t.1) = mm at i1 g2 gg g3
  have hd : f_X5_readHead o mm = Option.bind (f_X5_readHours o mm) fun q38 => gd_ (bl_ q38.1) (some (q38.1, q38.2)) := by
    unfold f_X5_readHead
    rw [g2]
    rfl
  have e7 : gi_ mm o 7 = gi_ m o 7 := gg _ _ (by omega)
  have hn : gi_ m o 7 = -1 ↔ d.2.2.1 = none := hrc_n o3 hk.2.2.2.2.1
  by_cases c : d.2.2.1 = none
  · rw [if_pos c]
    unfold LB_
    rw [hd]
    unfold f_X5_readHours lhr_
    rw [e7, if_pos (hn.mpr c)]
    obtain ⟨m1, a1, a2, a3⟩ := stn_c i1 (by omega)
    have g := tfw_6 a3
    rw [a1, Option.bind_some]
    dsimp only
    rcases tkn_c a2 (lo := 0) (hi := 1440) (by omega) (by omega) with ⟨f, m2, b1, b2, b3, b4⟩ | ⟨v, ra, m2, b1, b2, b3, b4, b5, b6⟩
    · have b2 : f_X8_takeNumber 0 1440 m1 = some (-1, m2) := b2
      refine Or.inl ⟨f, _, by rw [b1]; rfl, ?_, flc_si b3 (a := o) (k := 7) (x := -1) (by omega)⟩
      rw [b2, Option.bind_some]
      dsimp only
      rw [gi_si_self, if_pos rfl]
      rfl
    · have b4 : f_X8_takeNumber 0 1440 m1 = some (nI v, m2) := b4
      have g6 := tfw_6 b6
      rw [b1, sbd_r, b4, Option.bind_some]
      dsimp only
      rw [gi_si_self, if_neg (nm1_ (by omega))]
      have i2 : csn_ ra (si_ m2 o 7 (nI v)) := csn_si b5 (by omega)
      rcases tak_c i2 (k := 104) (by omega) (by omega) with ⟨f, m3, y1, y2, y3, _⟩ | ⟨rb, m3, y1, y2, y3, y4⟩
      · have y2 : f_X8_take 104 (si_ m2 o 7 (nI v)) = some (0, m3) := y2
        refine Or.inl ⟨f, m3, by rw [y1]; rfl, ?_, y3⟩
        rw [y2]
        rfl
      · have y2 : f_X8_take 104 (si_ m2 o 7 (nI v)) = some (1, m3) := y2
        have g7 := tfw_6 y4
        have e73 : gi_ m3 o 7 + 1 = nI (v + 1) := by
          rw [g7 _ _ (by omega), gi_si_self]
          show nI v + nI 1 = _
          rw [nI_add]
        rw [y1, sbd_r, y2, Option.bind_some, if_neg (show ¬ (1 : Int32) = 0 by decide)]
        dsimp only
        rw [e73]
        rcases tkn_c y3 (lo := v + 1) (hi := 1440) (by omega) (by omega) with ⟨f, m4, x1, x2, x3, x4⟩ | ⟨w, rc, m4, x1, x2, x3, x4, x5, x6⟩
        · have x2 : f_X8_takeNumber (nI (v + 1)) 1440 m3 = some (-1, m4) := x2
          refine Or.inl ⟨f, _, by rw [x1]; rfl, ?_, flc_si x3 (a := o) (k := 8) (x := -1) (by omega)⟩
          rw [x2, Option.bind_some]
          dsimp only
          rw [gi_si_self, if_pos rfl]
          rfl
        · have x4 : f_X8_takeNumber (nI (v + 1)) 1440 m3 = some (nI w, m4) := x4
          have g8 := tfw_6 x6
          rw [x1, sbd_r, x4, Option.bind_some]
          dsimp only
          rw [gi_si_self, if_neg (nm1_ (by omega)), Option.bind_some]
          dsimp only
          rw [gd_t (show bl_ 1 = true by decide), Option.bind_some, if_neg (show ¬ (1 : Int32) = 0 by decide)]
          dsimp only
          have key : ∀ a k, o ≤ a → a ≤ o + 4 → ¬ (a = o ∧ k = 7) → ¬ (a = o ∧ k = 8) → gi_ (si_ m4 o 8 (nI w)) a k = gi_ m a k := fun a k k1 k2 k3 k4 => by
            rw [gi_si_ne k4, g8 _ _ (by omega), g7 _ _ (by omega), gi_si_ne k3, g6 _ _ (by omega), g _ _ (by omega), gg _ _ (by omega)]
          have fo : ofs_ o m (si_ m4 o 8 (nI w)) := fun a k k1 k2 k3 => by
            rw [gi_si_ne (by omega), ofs_1 (o := o) x6 a k k1 k2 k3, ofs_1 (o := o) y4 a k k1 k2 k3, gi_si_ne (by omega), ofs_1 (o := o) b6 a k k1 k2 k3, ofs_1 (o := o) a3 a k k1 k2 k3, gg _ _ k2]
          have dt : dtc_ o (d.1, d.2.1, some (v, w), d.2.2.2.1, d.2.2.2.2.1, d.2.2.2.2.2.1, d.2.2.2.2.2.2) u n rc (si_ m4 o 8 (nI w)) := by
            refine ⟨csn_si x5 (by omega), ⟨(key _ _ (by omega) (by omega) (by omega) (by omega)).trans o1, fun k hk => (key _ _ (by omega) (by omega) (by omega) (by omega)).trans (o2 k hk), ⟨?_, gi_si_self⟩, (key _ _ (by omega) (by omega) (by omega) (by omega)).trans o4, (key _ _ (by omega) (by omega) (by omega) (by omega)).trans o5, clc_g o6 (Nat.le_refl _) (fun k hk => key _ _ (by omega) (by omega) (by omega) (by omega)) (fun k hk => ⟨key _ _ (by omega) (by omega) (by omega) (by omega), key _ _ (by omega) (by omega) (by omega) (by omega)⟩), ?_, ?_⟩, (key _ _ (by omega) (by omega) (by omega) (by omega)).trans h3, ?_, h5, h6⟩
            · rw [gi_si_ne (by omega), g8 _ _ (by omega), g7 _ _ (by omega), gi_si_self]
            · rw [key o 10 (by omega) (by omega) (by omega) (by omega)]
              exact ocb_g o7 (Nat.le_refl _) (fun k hk => key _ _ (by omega) (by omega) (by omega) (by omega))
            · rw [key o 11 (by omega) (by omega) (by omega) (by omega)]
              exact ocb_g o8 (Nat.le_refl _) (fun k hk => key _ _ (by omega) (by omega) (by omega) (by omega))
            · rw [gi_si_ne (by omega), g8 _ _ (by omega), g7 _ _ (by omega), gi_si_ne (by omega), g6 _ _ (by omega), g _ _ (by omega)]; exact g3
          rcases fin_c ho dt with ⟨f, m5, z1, z2, z3⟩ | ⟨r2, m5, z1, z2, z3, z4⟩
          · refine Or.inl ⟨f, m5, by rw [z1]; rfl, ?_, z3⟩
            rw [z2]
            rfl
          · refine Or.inr ⟨_, u, r2, n, m5, by rw [z1]; rfl, ?_, z3, ofs_t fo z4⟩
            rw [z2]
            rfl
  · rw [if_neg c]
    refine nfl_c i1 hd ?_
    unfold f_X5_readHours
    rw [e7, if_neg (fun q => c (hn.mp q))]
/-- a charge, behind its word -/
noncomputable def ctl_ (o : Nat) (m : fm_) : Option (Int32 × fm_) := Option.bind (f_X8_takeNumber 0 9 m) fun q36 =>
(if q36.1 = (-1) then
((some (0, q36.2)))
else
(Option.bind (f_X8_take 106 q36.2) fun q41 =>
(if q41.1 = 0 then
((some (0, q41.2)))
else
(Option.bind (f_X8_takeNumber 0 999 q41.2) fun q46 =>
(gd_ (ix_ q36.1 10)
(gd_ (ix_ q36.1 10)
(if (gi_ (si_ q46.2 (o + 4) (Int32.toNatClampNeg q36.1) q46.1) (o + 4) (Int32.toNatClampNeg q36.1)) = (-1) then
((some (0, (si_ q46.2 (o + 4) (Int32.toNatClampNeg q36.1) q46.1))))
else
((some (1, (si_ q46.2 (o + 4) (Int32.toNatClampNeg q36.1) q46.1)))))))))))
theorem lch_c {o : Nat} (ho : 32 ≤ o) (ho2 : o ≤ 62) {d : od_} (hdv : ∀ k v, d.2.1 k = some v → v ≤ 999) {u n : Nat} {t : tkn_} {r : List tkn_} {m : fm_} (h : dtc_ o d u n (t :: r) m) (ht : t.1 = 105) : LR_ o (lch_ d u r) (LB_ o (si_ m 68 2 (nI t.1))) m := by
  obtain ⟨h1, ⟨o1, o2, o3, o4, o5, o6, o7, o8⟩, h3, h4, h5, h6⟩ := h
  have i1 : csn_ (t :: r) (si_ m 68 2 (nI t.1)) := csn_si h1 (by omega)
  have g2 : gi_ (si_ m 68 2 (nI t.1)) 68 2 = nI 105 := by rw [gi_si_self, ht]
  have gg : ∀ a k, ¬ a = 68 → gi_ (si_ m 68 2 (nI t.1)) a k = gi_ m a k := fun a k ha => gi_si_ne (by omega)
  have g3 : gi_ (si_ m 68 2 (nI t.1)) 68 3 = nI u := by rw [gi_si_ne (by omega)]; exact h4
  generalize si_ m 68 2 (nI t.1) = mm at i1 g2 gg g3
  have hd : f_X5_readHead o mm = Option.bind (f_X5_readCharge o mm) fun q38 => gd_ (bl_ q38.1) (some (q38.1, q38.2)) := by
    unfold f_X5_readHead
    rw [g2]
    rfl
  obtain ⟨m1, a1, a2, a3⟩ := stn_c i1 (by omega)
  have g := tfw_6 a3
  obtain ⟨t2, r2, rfl⟩ := wts_n a2.2.2
  have ht2 := a2.2.2
  have kv := knd_c a2.1
  have hc : f_X5_readCharge o mm = (if t2.1 = 2 ∧ t2.2.1 < 10 ∧ ¬ d.2.1 t2.2.1 = none then Option.bind (f_X8_fail 2 m1) fun q78 => gd_ (bl_ q78.1) (some (q78.1, q78.2)) else ctl_ o m1) := by
    have ctl : (Option.bind (f_X8_takeNumber 0 9 m1) fun q36 =>
(if q36.1 = (-1) then
((some (0, q36.2)))
else
(Option.bind (f_X8_take 106 q36.2) fun q41 =>
(if q41.1 = 0 then
((some (0, q41.2)))
else
(Option.bind (f_X8_takeNumber 0 999 q41.2) fun q46 =>
(gd_ (ix_ q36.1 10)
(gd_ (ix_ q36.1 10)
(if (gi_ (si_ q46.2 (o + 4) (Int32.toNatClampNeg q36.1) q46.1) (o + 4) (Int32.toNatClampNeg q36.1)) = (-1) then
((some (0, (si_ q46.2 (o + 4) (Int32.toNatClampNeg q36.1) q46.1))))
else
((some (1, (si_ q46.2 (o + 4) (Int32.toNatClampNeg q36.1) q46.1))))))))))))= ctl_ o m1 := rfl
    unfold f_X5_readCharge
    rw [a1, Option.bind_some]
    dsimp only
    rw [kv.2, Option.bind_some]
    dsimp only
    rw [kv.1, Option.bind_some]
    dsimp only
    by_cases c1 : t2.1 = 2
    · rw [if_pos (show nI t2.1 = 2 by rw [c1]; rfl)]
      by_cases c2 : t2.2.1 < 10
      · have un : f_X11_isUnder (nI t2.2.1) 10 m1 = some (nI 1, m1) := ns_un1 (n := 10) c2 (by omega)
        have e4 : gi_ m1 (o + 4) t2.2.1 = ooc_ (d.2.1 t2.2.1) := by rw [g _ _ (by omega), gg _ _ (by omega)]; exact o2 _ c2
        have hn := ooc_n (c := d.2.1 t2.2.1) (fun v hv => by have := hdv _ v hv; omega)
        rw [un, Option.bind_some]
        dsimp only
        rw [if_neg (show ¬ nI 1 = 0 by decide), ns_gd c2 (by omega), nI_clamp (by omega), e4]
        by_cases c3 : d.2.1 t2.2.1 = none
        · rw [if_pos (hn.mpr c3), ctl, if_neg (fun q => q.2.2 c3)]
        · rw [if_neg (fun q => c3 (hn.mp q)), if_pos ⟨c1, c2, c3⟩]
      · have un : f_X11_isUnder (nI t2.2.1) 10 m1 = some (nI 0, m1) := ns_un0 (n := 10) (by omega) (by have := ht2.2.1; omega)
        rw [un, Option.bind_some]
        dsimp only
        rw [if_pos (show nI 0 = 0 from rfl), ctl, if_neg (fun q => c2 q.2.1)]
    · rw [if_neg (show ¬ nI t2.1 = 2 from show ¬ nI t2.1 = nI 2 from fun q => c1 ((nI_eq (by have := ht2.1; omega) (by omega)).mp q)), ctl, if_neg (fun q => c1 q.1)]
  unfold LB_ lch_
  rw [hd, hc, chq_l]
  by_cases c : t2.1 = 2 ∧ t2.2.1 < 10 ∧ ¬ d.2.1 t2.2.1 = none
  · rw [if_pos c, if_pos c]
    obtain ⟨m9, z1, z2, _⟩ := fai_c a2 2
    have z1 : f_X8_fail 2 m1 = some (0, m9) := z1
    refine Or.inl ⟨_, m9, rfl, ?_, z2⟩
    rw [z1]
    rfl
  · rw [if_neg c, if_neg c]
    unfold ctl_
    rcases tkn_c a2 (lo := 0) (hi := 9) (by omega) (by omega) with ⟨f, m2, b1, b2, b3, b4⟩ | ⟨v, ra, m2, b1, b2, b3, b4, b5, b6⟩
    · have b2 : f_X8_takeNumber 0 9 m1 = some (-1, m2) := b2
      refine Or.inl ⟨f, m2, by rw [b1]; rfl, ?_, b3⟩
      rw [b2, Option.bind_some, if_pos rfl]
      rfl
    · have b4 : f_X8_takeNumber 0 9 m1 = some (nI v, m2) := b4
      have g6 := tfw_6 b6
      rw [b1, sbd_r, b4, Option.bind_some]
      dsimp only
      rw [if_neg (nm1_ (by omega))]
      rcases tak_c b5 (k := 106) (by omega) (by omega) with ⟨f, m3, y1, y2, y3, _⟩ | ⟨rb, m3, y1, y2, y3, y4⟩
      · have y2 : f_X8_take 106 m2 = some (0, m3) := y2
        refine Or.inl ⟨f, m3, by rw [y1]; rfl, ?_, y3⟩
        rw [y2]
        rfl
      · have y2 : f_X8_take 106 m2 = some (1, m3) := y2
        have g7 := tfw_6 y4
        rw [y1, sbd_r, y2, Option.bind_some, if_neg (show ¬ (1 : Int32) = 0 by decide)]
        dsimp only
        rcases tkn_c y3 (lo := 0) (hi := 999) (by omega) (by omega) with ⟨f, m4, x1, x2, x3, x4⟩ | ⟨w, rc, m4, x1, x2, x3, x4, x5, x6⟩
        · have x2 : f_X8_takeNumber 0 999 m3 = some (-1, m4) := x2
          refine Or.inl ⟨f, _, by rw [x1]; rfl, ?_, flc_si x3 (a := o + 4) (k := v) (x := -1) (by omega)⟩
          rw [x2, Option.bind_some]
          dsimp only
          rw [ns_gd (by omega) (by omega), ns_gd (by omega) (by omega), nI_clamp (by omega), gi_si_self, if_pos rfl]
          rfl
        · have x4 : f_X8_takeNumber 0 999 m3 = some (nI w, m4) := x4
          have g8 := tfw_6 x6
          rw [x1, sbd_r, x4, Option.bind_some]
          dsimp only
          rw [ns_gd (by omega) (by omega), ns_gd (by omega) (by omega), nI_clamp (by omega), gi_si_self, if_neg (nm1_ (by omega)), Option.bind_some]
          dsimp only
          rw [gd_t (show bl_ 1 = true by decide), Option.bind_some, if_neg (show ¬ (1 : Int32) = 0 by decide)]
          dsimp only
          have key : ∀ a k, o ≤ a → a ≤ o + 4 → ¬ (a = o + 4 ∧ k = v) → gi_ (si_ m4 (o + 4) v (nI w)) a k = gi_ m a k := fun a k k1 k2 k3 => by
            rw [gi_si_ne k3, g8 _ _ (by omega), g7 _ _ (by omega), g6 _ _ (by omega), g _ _ (by omega), gg _ _ (by omega)]
          have fo : ofs_ o m (si_ m4 (o + 4) v (nI w)) := fun a k k1 k2 k3 => by
            rw [gi_si_ne (by omega), ofs_1 (o := o) x6 a k k1 k2 k3, ofs_1 (o := o) y4 a k k1 k2 k3, ofs_1 (o := o) b6 a k k1 k2 k3, ofs_1 (o := o) a3 a k k1 k2 k3, gg _ _ k2]
          have dt : dtc_ o (d.1, (fun k => if k = v then some w else d.2.1 k), d.2.2.1, d.2.2.2.1, d.2.2.2.2.1, d.2.2.2.2.2.1, d.2.2.2.2.2.2) u n rc (si_ m4 (o + 4) v (nI w)) := by
            refine ⟨csn_si x5 (by omega), ⟨(key _ _ (by omega) (by omega) (by omega)).trans o1, fun k hk => ?_, hrc_g o3 (key _ _ (by omega) (by omega) (by omega)) (key _ _ (by omega) (by omega) (by omega)), (key _ _ (by omega) (by omega) (by omega)).trans o4, (key _ _ (by omega) (by omega) (by omega)).trans o5, clc_g o6 (Nat.le_refl _) (fun k hk => key _ _ (by omega) (by omega) (by omega)) (fun k hk => ⟨key _ _ (by omega) (by omega) (by omega), key _ _ (by omega) (by omega) (by omega)⟩), ?_, ?_⟩, (key _ _ (by omega) (by omega) (by omega)).trans h3, ?_, h5, h6⟩
            · show _ = ooc_ (if k = v then some w else d.2.1 k)
              by_cases cv : k = v
              · rw [if_pos cv, cv, gi_si_self]
                rfl
              · rw [if_neg cv, key _ _ (by omega) (by omega) (by omega)]
                exact o2 k hk
            · rw [key o 10 (by omega) (by omega) (by omega)]
              exact ocb_g o7 (Nat.le_refl _) (fun k hk => key _ _ (by omega) (by omega) (by omega))
            · rw [key o 11 (by omega) (by omega) (by omega)]
              exact ocb_g o8 (Nat.le_refl _) (fun k hk => key _ _ (by omega) (by omega) (by omega))
            · rw [gi_si_ne (by omega), g8 _ _ (by omega), g7 _ _ (by omega), g6 _ _ (by omega), g _ _ (by omega)]; exact g3
          rcases fin_c ho dt with ⟨f, m5, z1, z2, z3⟩ | ⟨r9, m5, z1, z2, z3, z4⟩
          · refine Or.inl ⟨f, m5, by rw [z1]; rfl, ?_, z3⟩
            rw [z2]
            rfl
          · refine Or.inr ⟨_, u, r9, n, m5, by rw [z1]; rfl, ?_, z3, ofs_t fo z4⟩
            rw [z2]
            rfl
