/-! ===== memory: reading what was written ===== -/
theorem gi_si {m : fm_} {a k : Nat} {x : Int32} {b j : Nat} : gi_ (si_ m a k x) b j = if b = a ∧ j = k then x else gi_ m b j := by
  unfold gi_ si_ am_u
  simp only
  by_cases h1 : b = a
  · by_cases h2 : j = k
    · simp [h1, h2]
    · simp [h1, h2]
  · simp [h1]
theorem gi_si_self {m : fm_} {a k : Nat} {x : Int32} : gi_ (si_ m a k x) a k = x := by rw [gi_si, if_pos ⟨rfl, rfl⟩]
theorem gi_si_ne {m : fm_} {a k : Nat} {x : Int32} {b j : Nat} (h : ¬ (b = a ∧ j = k)) : gi_ (si_ m a k x) b j = gi_ m b j := by rw [gi_si, if_neg h]
theorem gi_sl {m : fm_} {a k : Nat} {x : Int64} {b j : Nat} : gi_ (sl_ m a k x) b j = gi_ m b j := rfl
theorem gl_si {m : fm_} {a k : Nat} {x : Int32} {b j : Nat} : gl_ (si_ m a k x) b j = gl_ m b j := rfl
theorem gl_sl {m : fm_} {a k : Nat} {x : Int64} {b j : Nat} : gl_ (sl_ m a k x) b j = if b = a ∧ j = k then x else gl_ m b j := by
  unfold gl_ sl_ am_u
  simp only
  by_cases h1 : b = a
  · by_cases h2 : j = k
    · simp [h1, h2]
    · simp [h1, h2]
  · simp [h1]
/-- the two agree at the places of d -/
def ag_ (d : List (Nat × Nat × Nat)) (m m1 : fm_) : Prop := ∀ a k, wi_ d a k = true → gi_ m1 a k = gi_ m a k ∧ gl_ m1 a k = gl_ m a k
/-- no place of d is one of w -/
def dj_ (d w : List (Nat × Nat × Nat)) : Bool := d.all fun q => w.all fun p => Nat.blt q.2.1 p.1 || (Nat.blt p.2.1 q.1 || (!(Nat.beq q.2.2 0) && (!(Nat.beq p.2.2 0) && !(Nat.beq q.2.2 p.2.2))))
theorem sa_ag {d w : List (Nat × Nat × Nat)} (hd : dj_ d w = true) {m m1 : fm_} (h : sa_ w m m1) : ag_ d m m1 := by
  intro a k ha
  obtain ⟨q, hq, h1, h2, h3⟩ := wi_mem.mp ha
  refine h a k ?_
  cases hw : wi_ w a k with
  | false => rfl
  | true =>
    obtain ⟨p, hp, g1, g2, g3⟩ := wi_mem.mp hw
    have := List.all_eq_true.mp (List.all_eq_true.mp hd q hq) p hp
    simp only [Bool.or_eq_true, Bool.and_eq_true, Bool.not_eq_true'] at this
    rcases this with e | e | ⟨e1, e2, e3⟩
    · have e : q.2.1 + 1 ≤ p.1 := Nat.le_of_ble_eq_true e
      omega
    · have e : p.2.1 + 1 ≤ q.1 := Nat.le_of_ble_eq_true e
      omega
    · rcases h3 with h3 | h3
      · rw [h3] at e1; cases e1
      · rcases g3 with g3 | g3
        · rw [g3] at e2; cases e2
        · rw [h3, g3, Nat.beq_refl] at e3; cases e3
theorem sa_gi {w : List (Nat × Nat × Nat)} {m m1 : fm_} (h : sa_ w m m1) {a k : Nat} (hw : wi_ w a k = false) : gi_ m1 a k = gi_ m a k := (h a k hw).1
theorem sa_gl {w : List (Nat × Nat × Nat)} {m m1 : fm_} (h : sa_ w m m1) {a k : Nat} (hw : wi_ w a k = false) : gl_ m1 a k = gl_ m a k := (h a k hw).2
/-! ===== bytes ===== -/
theorem by_255 (v : Int32) : (Int8.toInt32 (Int32.toInt8 (Int8.toInt32 (Int32.toInt8 v)))) &&& 255 = v &&& 255 := by
  apply Int32.toBitVec_inj.mp
  rw [Int32.toBitVec_and, Int32.toBitVec_and, Int8.toBitVec_toInt32, Int32.toBitVec_toInt8, Int8.toBitVec_toInt32, Int32.toBitVec_toInt8]
  apply BitVec.eq_of_getLsbD_eq
  intro i hi
  rw [BitVec.getLsbD_and, BitVec.getLsbD_and]
  by_cases h8 : i < 8
  · congr 1
    rw [BitVec.getLsbD_signExtend, if_pos h8, BitVec.getLsbD_signExtend, if_pos hi, BitVec.getLsbD_signExtend, if_pos h8, BitVec.getLsbD_signExtend, if_pos hi, decide_eq_true h8, decide_eq_true hi]
    simp only [Bool.true_and]
  · have : (Int32.toBitVec 255).getLsbD i = false := by
      have : ∀ j, j < 32 → ¬ j < 8 → (Int32.toBitVec 255).getLsbD j = false := by decide
      exact this i hi h8
    rw [this, Bool.and_false, Bool.and_false]
/-- the byte of v at a shift -/
def by_ (v s : Int32) : Nat := (v >>> (s &&& 31)).toBitVec.toNat % 256
theorem by_lt (v s : Int32) : by_ v s < 256 := Nat.mod_lt _ (by omega)
theorem by_eq (v s : Int32) : v >>> (s &&& 31) &&& 255 = nI (by_ v s) := pk_and (v >>> (s &&& 31)) (m := 255) 8 rfl
/-- the four bytes of v -/
def by4_ (v : Int32) : List Nat := [by_ v 24, by_ v (24 + -8), by_ v (24 + -8 + -8), by_ v (24 + -8 + -8 + -8)]
/-! ===== the tape ===== -/
def tc_ (t : List Nat) (m : fm_) : Prop := t.length ≤ 900 ∧ (∀ x ∈ t, x < 256) ∧ gi_ m 1 4 = nI t.length ∧ ∀ j x, t[j]? = some x → gi_ m 2 j &&& 255 = nI x
def tm_ (t : List Nat) (m : fm_) : Prop := gi_ m 106 1 = nI t.length ∧ ∀ j x, t[j]? = some x → gi_ m 107 j = nI x
def ac_ (m : fm_) (v : Int32) : fm_ := si_ (si_ m 2 (Int32.toNatClampNeg (gi_ m 1 4)) (Int8.toInt32 (Int32.toInt8 (Int8.toInt32 (Int32.toInt8 v))))) 1 4 ((gi_ m 1 4) + 1)
def am1_ (m : fm_) (v : Int32) : fm_ := si_ (si_ m 107 (Int32.toNatClampNeg (gi_ m 106 1)) (v &&& 255)) 106 1 ((gi_ m 106 1) + 1)
theorem tp_get {t : List Nat} {x y j : Nat} (h : (t ++ [x])[j]? = some y) : (j < t.length ∧ t[j]? = some y) ∨ (j = t.length ∧ y = x) := by
  by_cases hj : j < t.length
  · rw [List.getElem?_append_left hj] at h
    exact Or.inl ⟨hj, h⟩
  · rw [List.getElem?_append_right (by omega)] at h
    by_cases hj2 : j - t.length = 0
    · rw [hj2] at h
      cases h
      exact Or.inr ⟨by omega, rfl⟩
    · rw [List.getElem?_eq_none (by simp; omega)] at h
      cases h
theorem tc_add {t : List Nat} {m : fm_} (h : tc_ t m) (hl : t.length < 900) {v s : Int32} : tc_ (t ++ [by_ v s]) (ac_ m (v >>> (s &&& 31))) := by
  obtain ⟨h1, h2, h3, h4⟩ := h
  have hc : (gi_ m 1 4).toNatClampNeg = t.length := by rw [h3]; exact nI_clamp (by omega)
  refine ⟨by rw [List.length_append]; exact hl, fun x hx => ?_, ?_, fun j x hj => ?_⟩
  · rcases List.mem_append.mp hx with hx | hx
    · exact h2 x hx
    · rw [List.mem_singleton.mp hx]; exact by_lt v s
  · unfold ac_
    rw [gi_si_self, h3, nI_1, List.length_append]
    rfl
  · unfold ac_
    rw [gi_si_ne (by omega), gi_si, hc]
    rcases tp_get hj with ⟨hj1, hj2⟩ | ⟨hj1, hj2⟩
    · rw [if_neg (by omega)]
      exact h4 j x hj2
    · rw [if_pos ⟨rfl, hj1⟩, by_255, by_eq, hj2]
theorem tm_add {t : List Nat} {m : fm_} (h : tm_ t m) (hl : t.length < 900) {v s : Int32} : tm_ (t ++ [by_ v s]) (am1_ m (v >>> (s &&& 31))) := by
  obtain ⟨h3, h4⟩ := h
  have hc : (gi_ m 106 1).toNatClampNeg = t.length := by rw [h3]; exact nI_clamp (by omega)
  refine ⟨?_, fun j x hj => ?_⟩
  · unfold am1_
    rw [gi_si_self, h3, nI_1, List.length_append]
    rfl
  · unfold am1_
    rw [gi_si_ne (by omega), gi_si, hc]
    rcases tp_get hj with ⟨hj1, hj2⟩ | ⟨hj1, hj2⟩
    · rw [if_neg (by omega)]
      exact h4 j x hj2
    · rw [if_pos ⟨rfl, hj1⟩, by_eq, hj2]
theorem ac_step {t : List Nat} {m : fm_} (h : tc_ t m) (hl : t.length < 900) {v s : Int32} (hs : ¬ s < 0) : f_X8_append_3 v s m = f_X8_append_3 v (s + -8) (ac_ m (v >>> (s &&& 31))) := by
  have h3 := h.2.2.1
  rw [e_X8_append_3, if_neg hs, if_neg (by rw [h3]; exact nI_ge (a := t.length) (b := 900) hl (by omega)), gd_t (ix_i (by rw [h3]; exact vp_in_nI hl (by omega)))]
  rfl
theorem am1_step {t : List Nat} {m : fm_} (h : tm_ t m) (hl : t.length < 900) {v s : Int32} (hs : ¬ s < 0) : f_X12_four_3 v s m = f_X12_four_3 v (s + -8) (am1_ m (v >>> (s &&& 31))) := by
  rw [e_X12_four_3, if_neg hs, gd_t (ix_i (by rw [h.1]; exact vp_in_nI hl (by omega)))]
  rfl
theorem ac_all {t : List Nat} {m : fm_} (h : tc_ t m) (hl : t.length + 4 ≤ 900) (v : Int32) : ∃ m1, f_X8_append v m = some (0, m1) ∧ tc_ (t ++ by4_ v) m1 := by
  have g1 := tc_add h (by omega) (v := v) (s := 24)
  have l1 : (t ++ [by_ v 24]).length = t.length + 1 := List.length_append
  have g2 := tc_add g1 (by omega) (v := v) (s := 24 + -8)
  have l2 : (t ++ [by_ v 24] ++ [by_ v (24 + -8)]).length = t.length + 2 := by simp
  have g3 := tc_add g2 (by omega) (v := v) (s := 24 + -8 + -8)
  have l3 : (t ++ [by_ v 24] ++ [by_ v (24 + -8)] ++ [by_ v (24 + -8 + -8)]).length = t.length + 3 := by simp
  have g4 := tc_add g3 (by omega) (v := v) (s := 24 + -8 + -8 + -8)
  have e4 : t ++ [by_ v 24] ++ [by_ v (24 + -8)] ++ [by_ v (24 + -8 + -8)] ++ [by_ v (24 + -8 + -8 + -8)] = t ++ by4_ v := by
    unfold by4_
    simp only [List.append_assoc, List.cons_append, List.nil_append]
  rw [e4] at g4
  refine ⟨_, ?_, g4⟩
  show f_X8_append_3 v 24 m = _
  rw [ac_step h (by omega) (by decide), ac_step g1 (by omega) (by decide), ac_step g2 (by omega) (by decide), ac_step g3 (by omega) (by decide), e_X8_append_3, if_pos (by decide)]
theorem am1_all {t : List Nat} {m : fm_} (h : tm_ t m) (hl : t.length + 4 ≤ 900) (v : Int32) : ∃ m1, f_X12_four v m = some (0, m1) ∧ tm_ (t ++ by4_ v) m1 := by
  have g1 := tm_add h (by omega) (v := v) (s := 24)
  have l1 : (t ++ [by_ v 24]).length = t.length + 1 := List.length_append
  have g2 := tm_add g1 (by omega) (v := v) (s := 24 + -8)
  have l2 : (t ++ [by_ v 24] ++ [by_ v (24 + -8)]).length = t.length + 2 := by simp
  have g3 := tm_add g2 (by omega) (v := v) (s := 24 + -8 + -8)
  have l3 : (t ++ [by_ v 24] ++ [by_ v (24 + -8)] ++ [by_ v (24 + -8 + -8)]).length = t.length + 3 := by simp
  have g4 := tm_add g3 (by omega) (v := v) (s := 24 + -8 + -8 + -8)
  have e4 : t ++ [by_ v 24] ++ [by_ v (24 + -8)] ++ [by_ v (24 + -8 + -8)] ++ [by_ v (24 + -8 + -8 + -8)] = t ++ by4_ v := by
    unfold by4_
    simp only [List.append_assoc, List.cons_append, List.nil_append]
  rw [e4] at g4
  refine ⟨_, ?_, g4⟩
  show f_X12_four_3 v 24 m = _
  rw [am1_step h (by omega) (by decide), am1_step g1 (by omega) (by decide), am1_step g2 (by omega) (by decide), am1_step g3 (by omega) (by decide), e_X12_four_3, if_pos (by decide)]
def by20_ (a b c d e : Int32) : List Nat := by4_ a ++ by4_ b ++ by4_ c ++ by4_ d ++ by4_ e
theorem by4_len (v : Int32) : (by4_ v).length = 4 := rfl
/-- feed: the class -/
theorem tc_feed {t : List Nat} {m : fm_} (h : tc_ t m) (a b c d e : Int32) : ∃ m1, f_X11_feed a b c d e m = some (if t.length + 20 ≤ 900 then nI (t.length + 20) else -1, m1) ∧ tc_ (if t.length + 20 ≤ 900 then t ++ by20_ a b c d e else t) m1 := by
  have h3 := h.2.2.1
  by_cases hl : t.length + 20 ≤ 900
  · obtain ⟨m1, e1, g1⟩ := ac_all h (by omega) a
    obtain ⟨m2, e2, g2⟩ := ac_all g1 (by rw [List.length_append, by4_len]; omega) b
    obtain ⟨m3, e3, g3⟩ := ac_all g2 (by simp only [List.length_append, by4_len]; omega) c
    obtain ⟨m4, e4, g4⟩ := ac_all g3 (by simp only [List.length_append, by4_len]; omega) d
    obtain ⟨m5, e5, g5⟩ := ac_all g4 (by simp only [List.length_append, by4_len]; omega) e
    refine ⟨m5, ?_, ?_⟩
    · unfold f_X11_feed
      rw [if_pos (by rw [h3]; exact nI_le (a := t.length) (b := 880) (by omega) (by omega)), e1]
      simp only [Option.bind, e2, e3, e4, e5, if_pos hl]
      rw [g5.2.2.1]
      simp only [List.length_append, by4_len, Nat.add_assoc]
    · rw [if_pos hl]
      unfold by20_
      simpa only [List.append_assoc] using g5
  · refine ⟨m, ?_, by rw [if_neg hl]; exact h⟩
    unfold f_X11_feed
    have hn := h.1
    rw [if_neg (by rw [h3]; exact nI_ge (a := 880) (b := t.length) (by omega) (by omega)), if_neg hl]
theorem tm_feed {t : List Nat} {m : fm_} (ht : t.length ≤ 900) (h : tm_ t m) (a b c d e : Int32) : ∃ m1, f_X12_feed a b c d e m = some (if t.length + 20 ≤ 900 then nI (t.length + 20) else -1, m1) ∧ tm_ (if t.length + 20 ≤ 900 then t ++ by20_ a b c d e else t) m1 := by
  have h3 := h.1
  have h20 : gi_ m 106 1 + 20 = nI (t.length + 20) := by rw [h3, show (20 : Int32) = nI 20 from rfl, nI_add]
  by_cases hl : t.length + 20 ≤ 900
  · obtain ⟨m1, e1, g1⟩ := am1_all h (by omega) a
    obtain ⟨m2, e2, g2⟩ := am1_all g1 (by rw [List.length_append, by4_len]; omega) b
    obtain ⟨m3, e3, g3⟩ := am1_all g2 (by simp only [List.length_append, by4_len]; omega) c
    obtain ⟨m4, e4, g4⟩ := am1_all g3 (by simp only [List.length_append, by4_len]; omega) d
    obtain ⟨m5, e5, g5⟩ := am1_all g4 (by simp only [List.length_append, by4_len]; omega) e
    refine ⟨m5, ?_, ?_⟩
    · unfold f_X12_feed
      rw [if_pos (by rw [h20]; exact nI_le (a := t.length + 20) (b := 900) hl (by omega)), e1]
      simp only [Option.bind, e2, e3, e4, e5, if_pos hl]
      rw [g5.1]
      simp only [List.length_append, by4_len, Nat.add_assoc]
    · rw [if_pos hl]
      unfold by20_
      simpa only [List.append_assoc] using g5
  · refine ⟨m, ?_, by rw [if_neg hl]; exact h⟩
    unfold f_X12_feed
    rw [if_neg (by rw [h20]; exact nI_ge (a := 900) (b := t.length + 20) (by omega) (by omega)), if_neg hl]
/-- end: both -/
def en_ (t : List Nat) (x : Int32) : Int32 := if x < 0 then -1 else if x ≤ nI t.length then x else -1
def et_ (t : List Nat) (x : Int32) : List Nat := if x < 0 then t else if x ≤ nI t.length then t.take x.toNatClampNeg else t
theorem tk_get {t : List Nat} {n j x : Nat} (h : (t.take n)[j]? = some x) : t[j]? = some x := by
  by_cases hj : j < n
  · rw [List.getElem?_take_of_lt hj] at h; exact h
  · rw [List.getElem?_eq_none (by rw [List.length_take]; omega)] at h; cases h
theorem tc_end {t : List Nat} {m : fm_} (h : tc_ t m) (x : Int32) : ∃ m1, f_X11_end x m = some (en_ t x, m1) ∧ tc_ (et_ t x) m1 := by
  obtain ⟨h1, h2, h3, h4⟩ := id h
  unfold f_X11_end en_ et_
  by_cases hx : x < 0
  · exact ⟨m, by rw [if_pos hx, if_pos hx], by rw [if_pos hx]; exact h⟩
  · rw [if_neg hx, if_neg hx, if_neg hx, h3]
    by_cases hy : x ≤ nI t.length
    · rw [if_pos hy, if_pos hy, if_pos hy]
      obtain ⟨j, hj, rfl⟩ := nI_of hx
      have hjl : j ≤ t.length := (nI_leI hj (by omega)).mp hy
      refine ⟨_, rfl, ?_⟩
      rw [nI_clamp hj]
      refine ⟨by rw [List.length_take]; omega, fun y hy => h2 y (List.mem_of_mem_take hy), ?_, fun i y hi => ?_⟩
      · rw [gi_si_self, List.length_take, Nat.min_eq_left hjl]
      · rw [gi_si_ne (by omega)]
        exact h4 i y (tk_get hi)
    · exact ⟨m, by rw [if_neg hy, if_neg hy], by rw [if_neg hy]; exact h⟩
theorem tm_end {t : List Nat} {m : fm_} (ht : t.length ≤ 900) (h : tm_ t m) (x : Int32) : ∃ m1, f_X12_end x m = some (en_ t x, m1) ∧ tm_ (et_ t x) m1 := by
  obtain ⟨h3, h4⟩ := id h
  unfold f_X12_end en_ et_
  by_cases hx : x < 0
  · exact ⟨m, by rw [if_pos hx, if_pos hx], by rw [if_pos hx]; exact h⟩
  · rw [if_neg hx, if_neg hx, if_neg hx, h3]
    by_cases hy : x ≤ nI t.length
    · rw [if_pos hy, if_pos hy, if_pos hy]
      obtain ⟨j, hj, rfl⟩ := nI_of hx
      have hjl : j ≤ t.length := (nI_leI hj (by omega)).mp hy
      refine ⟨_, rfl, ?_⟩
      rw [nI_clamp hj]
      refine ⟨?_, fun i y hi => ?_⟩
      · rw [gi_si_self, List.length_take, Nat.min_eq_left hjl]
      · rw [gi_si_ne (by omega)]
        exact h4 i y (tk_get hi)
    · exact ⟨m, by rw [if_neg hy, if_neg hy], by rw [if_neg hy]; exact h⟩
/-- places that the tape is read from -/
def tcd_ : List (Nat × Nat × Nat) := [(1, 1, 5), (2, 2, 0)]
def tmd_ : List (Nat × Nat × Nat) := [(106, 106, 2), (107, 107, 0)]
theorem tc_ag {t : List Nat} {m m1 : fm_} (h : tc_ t m) (ha : ag_ tcd_ m m1) : tc_ t m1 :=
  ⟨h.1, h.2.1, (ha 1 4 rfl).1.trans h.2.2.1, fun j x hj => by rw [(ha 2 j rfl).1]; exact h.2.2.2 j x hj⟩
theorem tm_ag {t : List Nat} {m m1 : fm_} (h : tm_ t m) (ha : ag_ tmd_ m m1) : tm_ t m1 :=
  ⟨(ha 106 1 rfl).1.trans h.1, fun j x hj => by rw [(ha 107 j rfl).1]; exact h.2 j x hj⟩
