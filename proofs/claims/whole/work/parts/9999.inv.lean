/-! ===== what both hold between two calls ===== -/
def lod_ : List (Nat × Nat × Nat) := [(0, 105, 0)]
def hid_ : List (Nat × Nat × Nat) := [(106, 167, 0)]
theorem lod_s {m m1 : fm_} (h : ag_ lod_ m m1) {d : List (Nat × Nat × Nat)} (hd : (d.all fun q => Nat.ble q.2.1 105) = true) : ag_ d m m1 := fun a k ha => by
  obtain ⟨q, hq, q1, q2, _⟩ := wi_mem.mp ha
  have := Nat.le_of_ble_eq_true (List.all_eq_true.mp hd q hq)
  exact h a k (wi_r (q := (0, 105, 0)) (by decide) (Nat.zero_le _) (by show a ≤ 105; omega) (Or.inl rfl))
theorem hid_s {m m1 : fm_} (h : ag_ hid_ m m1) {d : List (Nat × Nat × Nat)} (hd : (d.all fun q => Nat.ble 106 q.1 && Nat.ble q.2.1 167) = true) : ag_ d m m1 := fun a k ha => by
  obtain ⟨q, hq, q1, q2, _⟩ := wi_mem.mp ha
  have h1 := List.all_eq_true.mp hd q hq
  rw [Bool.and_eq_true] at h1
  have h2 := Nat.le_of_ble_eq_true h1.1
  have h3 := Nat.le_of_ble_eq_true h1.2
  exact h a k (wi_r (q := (106, 167, 0)) (by decide) (by show 106 ≤ a; omega) (by show a ≤ 167; omega) (Or.inl rfl))
/-! the class -/
def flcd_ : List (Nat × Nat × Nat) := [(1, 1, 8), (1, 1, 9)]
def fxc_ (a b : Int32) (m : fm_) : Prop := gi_ m 1 7 = a ∧ gi_ m 1 8 = b
theorem fxc_ag {a b : Int32} {m m1 : fm_} (h : fxc_ a b m) (ha : ag_ flcd_ m m1) : fxc_ a b m1 := ⟨(ha 1 7 rfl).1.trans h.1, (ha 1 8 rfl).1.trans h.2⟩
def kc8d_ : List (Nat × Nat × Nat) := [(69, 69, 3), (70, 71, 0), (72, 72, 8), (72, 72, 9), (73, 79, 0), (80, 81, 0), (6, 6, 9), (10, 12, 0), (14, 14, 0), (6, 6, 5), (30, 30, 2), (32, 36, 0), (38, 42, 0), (44, 48, 0), (50, 54, 0), (56, 60, 0), (62, 66, 0), (82, 82, 4), (83, 86, 0)]
def cchd_ : List (Nat × Nat × Nat) := [(82, 82, 4), (83, 86, 0)]
theorem ag_sb {d e : List (Nat × Nat × Nat)} (h : sb_ d e = true) {m m1 : fm_} (ha : ag_ e m m1) : ag_ d m m1 := fun a k hw => by
  obtain ⟨q, hq, q1, q2, q3⟩ := wi_mem.mp hw
  have h1 := List.all_eq_true.mp h q hq
  obtain ⟨p, hp, hp2⟩ := List.any_eq_true.mp h1
  rw [Bool.and_eq_true, Bool.and_eq_true, Bool.or_eq_true] at hp2
  have b1 := Nat.le_of_ble_eq_true hp2.1
  have b2 := Nat.le_of_ble_eq_true hp2.2.1
  refine ha a k (wi_mem.mpr ⟨p, hp, by omega, by omega, ?_⟩)
  rcases hp2.2.2 with z | z
  · exact Or.inl (Nat.eq_of_beq_eq_true z)
  · have := Nat.eq_of_beq_eq_true z
    omega
theorem cch_ag {W : List (Nat × Nat × Nat)} {P : pl_} {F : List fa_} {C : List (Nat × Nat × Nat)} {st : Nat} {m m1 : fm_} (h : cch_ W P F C st m) (ha : ag_ cchd_ m m1) : cch_ W P F C st m1 := by
  refine ⟨(ha 82 3 rfl).1.trans h.1, fun d hd => ?_⟩
  obtain ⟨sd, h1, h2, h3⟩ := h.2 d hd
  refine ⟨sd, (ha 83 d rfl).1.trans h1, h2, fun q => ?_⟩
  rw [(ha 84 d rfl).1]
  exact chs_cg (h3 q) (ha 85 d rfl).1 fun r _ => (ha 86 r rfl).1
theorem kc8_ag {W : List (Nat × Nat × Nat)} {z : Nat} {P : pl_} {F : List fa_} {T : Nat} {C : List (Nat × Nat × Nat)} {O : List od_} (hO : O.length ≤ 6) {st : Nat} {m m1 : fm_} (h : kc8_ W z P F T C O st m) (ha : ag_ kc8d_ m m1) : kc8_ W z P F T C O st m1 :=
  ⟨kwc_ag h.1 (ag_sb (by decide) ha), (ha 6 4 rfl).1.trans h.2.1, loc_ag hO h.2.2.1 (ag_sb (by decide) ha), cch_ag h.2.2.2 (ag_sb (by decide) ha)⟩
/-- the rest of a map in the class -/
def twr_ (W : List (Nat × Nat × Nat)) (z cp : Nat) (m : fm_) : Prop := hr_ W m ∧ tb_ (bes_ W z) 15 m ∧ tb_ (byz_ W z) 16 m ∧ tb_ (byo_ W z) 17 m ∧ gi_ m 6 9 = nI cp
def twrd_ : List (Nat × Nat × Nat) := [(6, 6, 4), (6, 6, 10), (7, 9, 0), (13, 13, 0), (15, 17, 0)]
theorem twr_ag {W : List (Nat × Nat × Nat)} {z cp : Nat} {m m1 : fm_} (h : twr_ W z cp m) (ha : ag_ twrd_ m m1) : twr_ W z cp m1 :=
  ⟨⟨wc_ag h.1.1 (ag_sb (by decide) ha), fun a b h1 h2 => (ha 13 _ rfl).1.trans (h.1.2 a b h1 h2)⟩, fun a b h1 h2 => (ha 15 _ rfl).1.trans (h.2.1 a b h1 h2), fun a b h1 h2 => (ha 16 _ rfl).1.trans (h.2.2.1 a b h1 h2), fun a b h1 h2 => (ha 17 _ rfl).1.trans (h.2.2.2.1 a b h1 h2), (ha 6 9 rfl).1.trans h.2.2.2.2⟩
def trcd_ : List (Nat × Nat × Nat) := [(98, 98, 8), (99, 103, 0)]
theorem trc_ag {TR : tp_} {m m1 : fm_} (h : trc_ TR m) (ha : ag_ trcd_ m m1) : trc_ TR m1 :=
  ⟨(ha 98 7 rfl).1.trans h.1, fun j q hj => by
    obtain ⟨q1, q2, q3, q4, q5⟩ := h.2 j q hj
    exact ⟨(ha 99 j rfl).1.trans q1, (ha 100 j rfl).1.trans q2, (ha 101 j rfl).1.trans q3, (ha 102 j rfl).1.trans q4, (ha 103 j rfl).1.trans q5⟩⟩
def rcd_ : List (Nat × Nat × Nat) := [(94, 94, 3), (95, 96, 0)]
theorem rc_g {A : air_} {n : Nat} {m m1 : fm_} (h : rc_ A n m) (ha : ag_ rcd_ m m1) : rc_ A n m1 := rc_ag h (ha 94 2 rfl).1 (fun c => (ha 96 c rfl).1) (fun c => (ha 95 c rfl).1)
/-! the reference -/
def flmd_ : List (Nat × Nat × Nat) := [(106, 106, 3), (106, 106, 4)]
def fxm_ (a b : Int32) (m : fm_) : Prop := gi_ m 106 2 = a ∧ gi_ m 106 3 = b
theorem fxm_ag {a b : Int32} {m m1 : fm_} (h : fxm_ a b m) (ha : ag_ flmd_ m m1) : fxm_ a b m1 := ⟨(ha 106 2 rfl).1.trans h.1, (ha 106 3 rfl).1.trans h.2⟩
def km9d_ : List (Nat × Nat × Nat) := [(106, 106, 58), (138, 138, 0), (140, 140, 0), (106, 106, 59), (106, 106, 60), (139, 139, 0), (141, 150, 0), (106, 106, 31), (117, 119, 0), (120, 120, 0), (106, 106, 32), (106, 106, 34), (122, 133, 0)]
theorem km9_ag {W : List (Nat × Nat × Nat)} {z : Nat} {P : pl_} {F : List fa_} {T : Nat} {C : List (Nat × Nat × Nat)} {O : List od_} {m m1 : fm_} (h : km9_ W z P F T C O m) (ha : ag_ km9d_ m m1) : km9_ W z P F T C O m1 :=
  ⟨kwm_ag h.1 (ag_sb (by decide) ha), (ha 106 31 rfl).1.trans h.2.1, lom_ag h.2.2 (ag_sb (by decide) ha)⟩
def twq_ (W : List (Nat × Nat × Nat)) (cp : Nat) (m : fm_) : Prop := wm_ W m ∧ tb_ (hm_ W) 121 m ∧ gi_ m 106 32 = nI cp
def twqd_ : List (Nat × Nat × Nat) := [(106, 106, 30), (106, 106, 33), (114, 116, 0), (121, 121, 0)]
theorem twq_ag {W : List (Nat × Nat × Nat)} {cp : Nat} {m m1 : fm_} (h : twq_ W cp m) (ha : ag_ twqd_ m m1) : twq_ W cp m1 :=
  ⟨⟨(ha 106 29 rfl).1.trans h.1.1, fun j q hj => by
    obtain ⟨q1, q2, q3⟩ := h.1.2 j q hj
    exact ⟨(ha 114 j rfl).1.trans q1, (ha 115 j rfl).1.trans q2, (ha 116 j rfl).1.trans q3⟩⟩, fun a b h1 h2 => (ha 121 _ rfl).1.trans (h.2.1 a b h1 h2), (ha 106 32 rfl).1.trans h.2.2⟩
def trmd_ : List (Nat × Nat × Nat) := [(106, 106, 88), (160, 164, 0)]
theorem trm_ag {TR : tp_} {m m1 : fm_} (h : trm_ TR m) (ha : ag_ trmd_ m m1) : trm_ TR m1 :=
  ⟨(ha 106 87 rfl).1.trans h.1, fun j q hj => by
    obtain ⟨q1, q2, q3, q4, q5⟩ := h.2 j q hj
    exact ⟨(ha 160 j rfl).1.trans q1, (ha 161 j rfl).1.trans q2, (ha 162 j rfl).1.trans q3, (ha 163 j rfl).1.trans q4, (ha 164 j rfl).1.trans q5⟩⟩
def rmd_ : List (Nat × Nat × Nat) := [(106, 106, 82), (156, 157, 0), (159, 159, 0)]
theorem rm_g {A : air_} {n : Nat} {m m1 : fm_} (h : rm_ A n m) (ha : ag_ rmd_ m m1) : rm_ A n m1 := rm_ag h (ha 106 81 rfl).1 (fun c => (ha 159 c rfl).1) (fun c => (ha 156 c rfl).1) (fun c => (ha 157 c rfl).1)
/-! both, and bounds -/
def CB_ (L : List Nat) (a b : Int32) (W : List (Nat × Nat × Nat)) (z : Nat) (C : List (Nat × Nat × Nat)) (cp : Nat) (O : List od_) (P : pl_) (F : List fa_) (T st : Nat) (TR : tp_) (A : air_) (n : Nat) (m : fm_) : Prop := tc_ L m ∧ fxc_ a b m ∧ kc8_ W z P F T C O st m ∧ twr_ W z cp m ∧ trc_ TR m ∧ rc_ A n m
def MB_ (L : List Nat) (a b : Int32) (W : List (Nat × Nat × Nat)) (z : Nat) (C : List (Nat × Nat × Nat)) (cp : Nat) (O : List od_) (P : pl_) (F : List fa_) (T : Nat) (TR : tp_) (A : air_) (n : Nat) (m : fm_) : Prop := tm_ L m ∧ fxm_ a b m ∧ km9_ W z P F T C O m ∧ twq_ W cp m ∧ trm_ TR m ∧ rm_ A n m
def OB_ (W : List (Nat × Nat × Nat)) (z : Nat) (C : List (Nat × Nat × Nat)) (cp : Nat) (O : List od_) (P : pl_) (F : List fa_) (T : Nat) (TR : tp_) (A : air_) : Prop := kok_ W P F T C ∧ rok2_ F ∧ z < 4096 ∧ cp < 4096 ∧ oko_ O ∧ tok_ W TR ∧ ∀ c q, A c = some q → q.1 < 4 ∧ q.2 < 1000
theorem CB_lo {L : List Nat} {a b : Int32} {W : List (Nat × Nat × Nat)} {z : Nat} {C : List (Nat × Nat × Nat)} {cp : Nat} {O : List od_} {P : pl_} {F : List fa_} {T st : Nat} {TR : tp_} {A : air_} {n : Nat} {m m1 : fm_} (hO : O.length ≤ 6) (h : CB_ L a b W z C cp O P F T st TR A n m) (ha : ag_ lod_ m m1) : CB_ L a b W z C cp O P F T st TR A n m1 := by
  obtain ⟨h1, h2, h3, h4, h5, h6⟩ := h
  exact ⟨tc_ag h1 (lod_s ha (by decide)), fxc_ag h2 (lod_s ha (by decide)), kc8_ag hO h3 (lod_s ha (by decide)), twr_ag h4 (lod_s ha (by decide)), trc_ag h5 (lod_s ha (by decide)), rc_g h6 (lod_s ha (by decide))⟩
theorem MB_hi {L : List Nat} {a b : Int32} {W : List (Nat × Nat × Nat)} {z : Nat} {C : List (Nat × Nat × Nat)} {cp : Nat} {O : List od_} {P : pl_} {F : List fa_} {T : Nat} {TR : tp_} {A : air_} {n : Nat} {m m1 : fm_} (h : MB_ L a b W z C cp O P F T TR A n m) (ha : ag_ hid_ m m1) : MB_ L a b W z C cp O P F T TR A n m1 := by
  obtain ⟨h1, h2, h3, h4, h5, h6⟩ := h
  exact ⟨tm_ag h1 (hid_s ha (by decide)), fxm_ag h2 (hid_s ha (by decide)), km9_ag h3 (hid_s ha (by decide)), twq_ag h4 (hid_s ha (by decide)), trm_ag h5 (hid_s ha (by decide)), rm_g h6 (hid_s ha (by decide))⟩
def J_ (k : Nat) (m : fm_) : Prop := ∃ L a b W z C cp O P F T st TR A n, OB_ W z C cp O P F T TR A ∧ st ≤ k + 1 ∧ CB_ L a b W z C cp O P F T st TR A n m ∧ MB_ L a b W z C cp O P F T TR A n m
/-- one call: the class's part, then the reference's -/
theorem sm_i {fc fm : fm_ → Option (Int32 × fm_)} (H : ∀ (k : Nat) (L : List Nat) (a b : Int32) (W : List (Nat × Nat × Nat)) (z : Nat) (C : List (Nat × Nat × Nat)) (cp : Nat) (O : List od_) (P : pl_) (F : List fa_) (T st : Nat) (TR : tp_) (A : air_) (n : Nat) (m : fm_), k < 512 → OB_ W z C cp O P F T TR A → st ≤ k + 1 → CB_ L a b W z C cp O P F T st TR A n m → MB_ L a b W z C cp O P F T TR A n m → ∃ r m1 m2, fc m = some (r, m1) ∧ fm m1 = some (r, m2) ∧ J_ (k + 1) m2) : sm_ J_ fc fm := by
  intro k m hk ⟨L, a, b, W, z, C, cp, O, P, F, T, st, TR, A, n, h1, h2, h3, h4⟩
  exact H k L a b W z C cp O P F T st TR A n m hk h1 h2 h3 h4
/-- a call that leaves all as it was -/
theorem sm_q {fc fm : fm_ → Option (Int32 × fm_)} (H : ∀ (L : List Nat) (a b : Int32) (W : List (Nat × Nat × Nat)) (z : Nat) (C : List (Nat × Nat × Nat)) (cp : Nat) (O : List od_) (P : pl_) (F : List fa_) (T st : Nat) (TR : tp_) (A : air_) (n : Nat), OB_ W z C cp O P F T TR A → st < 2 ^ 20 → ∃ r, (∀ m, CB_ L a b W z C cp O P F T st TR A n m → ∃ m1, fc m = some (r, m1) ∧ CB_ L a b W z C cp O P F T st TR A n m1 ∧ ag_ hid_ m m1) ∧ (∀ m, MB_ L a b W z C cp O P F T TR A n m → ∃ m1, fm m = some (r, m1) ∧ MB_ L a b W z C cp O P F T TR A n m1 ∧ ag_ lod_ m m1)) : sm_ J_ fc fm := by
  refine sm_i ?_
  intro k L a b W z C cp O P F T st TR A n m hk h1 h2 h3 h4
  obtain ⟨r, hc, hm⟩ := H L a b W z C cp O P F T st TR A n h1 (by omega)
  obtain ⟨m1, e1, e2, e3⟩ := hc m h3
  obtain ⟨m2, f1, f2, f3⟩ := hm m1 (MB_hi h4 e3)
  exact ⟨r, m1, m2, e1, f1, L, a, b, W, z, C, cp, O, P, F, T, st, TR, A, n, h1, by omega, CB_lo h1.2.2.2.2.1.1.1 e2 f3, f2⟩
