/-! ===== a reading told ===== -/
def frd_ (T c d v : Nat) (s : Int64) : fa_ := (1, T, none, c, d, v, s)
theorem isrd_app {F : List fa_} {q : fa_} {d r : Nat} (h : r < F.length) : isrd_ (F ++ [q]) d r = isrd_ F d r := by
  unfold isrd_
  rw [List.getElem?_append_left h]
theorem rdn_app {F : List fa_} {q : fa_} {d : Nat} : ∀ n, n ≤ F.length → rdn_ (F ++ [q]) d n = rdn_ F d n
  | 0, _ => rfl
  | n + 1, h => by
    unfold rdn_
    rw [rdn_app n (by omega), isrd_app (by omega)]
theorem rdn_new {F : List fa_} {q : fa_} {d : Nat} : rdn_ (F ++ [q]) d (F ++ [q]).length = if q.1 = 1 ∧ q.2.2.2.2.1 = d then rdn_ F d F.length ++ [F.length] else rdn_ F d F.length := by
  rw [List.length_append]
  show (if isrd_ (F ++ [q]) d F.length = true then rdn_ (F ++ [q]) d F.length ++ [F.length] else rdn_ (F ++ [q]) d F.length) = _
  rw [rdn_app _ (Nat.le_refl _)]
  have : isrd_ (F ++ [q]) d F.length = (decide (q.1 = 1) && decide (q.2.2.2.2.1 = d)) := by
    unfold isrd_
    rw [List.getElem?_append_right (Nat.le_refl _), Nat.sub_self]
    rfl
  rw [this]
  by_cases c1 : q.1 = 1
  · by_cases c2 : q.2.2.2.2.1 = d
    · rw [if_pos (by rw [decide_eq_true c1, decide_eq_true c2]; rfl), if_pos ⟨c1, c2⟩]
    · rw [if_neg (by rw [decide_eq_false c2]; simp), if_neg (fun h => c2 h.2)]
  · rw [if_neg (by rw [decide_eq_false c1]; simp), if_neg (fun h => c1 h.1)]
theorem nat_s {j n : Nat} (h : j < n) (hn : n < 2 ^ 31) : nat_ (nI j) n = some j := by
  unfold nat_
  rw [if_neg (nI_pos (by omega)), if_neg (nI_ge h hn), nI_clamp (by omega)]
theorem adr_c {F : List fa_} {T : Nat} {m : fm_} (h : fc_ F T m) (hr : drc_ F m) (hl : F.length < 200) {c d v : Nat} {s : Int64} (hc : c < 10) (hd : d < 100) (hv : v < 10000) (h7 : (rdn_ F d F.length).length < 7) (h7a : ∀ e, (rdn_ F e F.length).length ≤ 7) : ∃ m1, f_X1_addReading (nI c) (nI d) (nI v) s m = some (nI F.length, m1) ∧ fc_ (F ++ [frd_ T c d v s]) T m1 ∧ drc_ (F ++ [frd_ T c d v s]) m1 := by
  obtain ⟨h1, h2, h3⟩ := h
  have r1 := (hr d hd).1
  unfold f_X1_addReading f_X1_add f_X1_hasRoomOn
  have g1 := bu_1 (nat_s hd (by omega))
  have g2 : ∀ m, f_X11_isDay (nI d) m = some (nI 1, m) := fun m => by rw [day_c, g1]; rfl
  generalize hll : (rdn_ F d F.length).length = l at r1 h7
  simp (disch := omega) only [↓reduceIte, ↓ns_m1, ns_let, ns_lef, ns_ltt, ns_ltf, ns_eqt, ns_eqf, ns_gd, nI_clamp, nI_add, pk_sub, pk_mul, ns_m1a, ns_m1b, ns_m1c, ns_m1d, ns_m1e, ns_m1f, ns_m1g, ns_un1, ns_un0, ns_day1, Option.bind_some, gi_si_self, gi_si_ne, gl_si, gi_sl, gl_sl_self, gl_sl_ne, if_true, if_false, ns_i0, ns_i1, ns_i2, ns_i3, ns_i4, ns_i5, ns_i6, ns_i7, ns_i8, ns_i9, ns_i10, ns_i11, ns_i12, ns_i13, ns_i20, ns_i23, ns_i24, ns_i31, ns_i50, ns_i60, ns_i99, ns_i100, ns_i144, ns_i200, ns_i255, ns_i700, ns_i880, ns_i899, ns_i900, ns_i901, ns_i999, ns_i1000, ns_i1440, ns_i4095, ns_i1000000, h1, h2, g2, r1, gi_si, gi_sl]
  have hF0 : ¬ (79 : Nat) = 72 := by omega
  refine ⟨_, rfl, ⟨?_, ?_, fun j q hj => ?_⟩, fun e he => ?_⟩
  · simp [gi_si, gi_sl]
  · simpa [gi_si, gi_sl] using h2
  · rcases ap_get hj with ⟨q1, q2⟩ | ⟨q1, q2⟩
    · have := h3 j q q2
      unfold fc1_ at this ⊢
      have hjn : ¬ j = F.length := by omega
      simp only [gi_si, gi_sl, gl_si, gl_sl, hjn, and_false, if_false]
      simpa [hjn] using this
    · subst q1
      subst q2
      unfold fc1_ frd_
      refine ⟨?_, ?_, ?_, ?_, ?_, ?_, fun _ => ?_⟩
      · simp [gi_si, gi_sl]
      · simp [gi_si, gi_sl]
      · simp [gi_si, gi_sl, un_]
        rfl
      · simp [gi_si, gi_sl]
      · simp [gi_si, gi_sl]
      · simp [gi_si, gi_sl]
      · simp [gl_si, gl_sl]
  · rw [rdn_new]
    obtain ⟨u1, u2⟩ := hr e he
    by_cases c : d = e
    · subst c
      rw [if_pos ⟨rfl, rfl⟩]
      refine ⟨?_, fun j r hj => ?_⟩
      · rw [List.length_append, hll]
        simp [gi_si, gi_sl]
      · rcases ap_get hj with ⟨q1, q2⟩ | ⟨q1, q2⟩
        · have := u2 j r q2
          have hjn : ¬ d * 7 + j = d * 7 + l := by omega
          simp only [gi_si, gi_sl, hjn, and_false, if_false]
          simpa using this
        · subst q1
          subst q2
          rw [hll]
          simp [gi_si, gi_sl]
    · rw [if_neg (fun h => c h.2)]
      have ce : ¬ e = d := fun h => c h.symm
      refine ⟨?_, fun j r hj => ?_⟩
      · simp only [gi_si, gi_sl, ce, and_false, if_false]
        simpa using u1
      · have := u2 j r hj
        have hjl := (List.getElem?_eq_some_iff.mp hj).1
        have h7' := h7a e
        have hjn : ¬ e * 7 + j = d * 7 + l := by omega
        simp only [gi_si, gi_sl, hjn, and_false, if_false]
        simpa using this
/-- does the camera work at that minute -/
def wrk_ (C : List (Nat × Nat × Nat)) (x y : Int32) : Option (Nat × Nat) := match nat_ x C.length, nat_ y 1440 with
  | some c, some v => (match C[c]? with
    | none => none
    | some q => if q.2.1 ≤ v ∧ v < q.2.2 then some (c, v) else none)
  | _, _ => none
theorem wrk_u {C : List (Nat × Nat × Nat)} (hC : cok_ C) {x y : Int32} {c v : Nat} (h : wrk_ C x y = some (c, v)) : x = nI c ∧ y = nI v ∧ c < C.length ∧ v < 1440 := by
  unfold wrk_ at h
  have := hC.1
  rcases nat_ix x (n := C.length) (by omega) with ⟨e1, _⟩ | ⟨a, ha, rfl, e1, -⟩
  · rw [e1] at h; cases h
  rcases nat_ix y (n := 1440) (by omega) with ⟨e2, _⟩ | ⟨b, hb, rfl, e2, -⟩
  · rw [e1, e2] at h; cases h
  rw [e1, e2] at h
  simp only [List.getElem?_eq_getElem ha] at h
  by_cases q : C[a].2.1 ≤ b ∧ b < C[a].2.2
  · rw [if_pos q] at h
    cases h
    exact ⟨rfl, rfl, ha, hb⟩
  · rw [if_neg q] at h; cases h
theorem wrk_c {C : List (Nat × Nat × Nat)} (hC : cok_ C) {m : fm_} (h : camc_ C m) (x y : Int32) : f_X9_works x y m = some (b01_ (wrk_ C x y).isSome, m) := by
  have h8 := hC.1
  unfold f_X9_works wrk_
  rw [h.1, und_]
  simp only [Option.bind_some]
  rcases nat_ix x (n := C.length) (by omega) with ⟨e1, _⟩ | ⟨a, ha, rfl, e1, -⟩
  · rw [if_pos (bu_0 e1), e1]; rfl
  rw [if_neg (bu_ne e1), e1]
  have ea := List.getElem?_eq_getElem ha
  generalize C[a] = q at ea
  obtain ⟨g1, g2, g3⟩ := h.2 a q ea
  obtain ⟨b1, b2, b3⟩ := hC.2 q (List.mem_of_getElem? ea)
  have e1t : b01_ true = nI 1 := rfl
  have e0t : b01_ false = nI 0 := rfl
  rcases nat_ix y (n := 1440) (by omega) with ⟨e2, n2⟩ | ⟨b, hb, rfl, e2, -⟩
  · rw [e2]
    show _ = some (nI 0, m)
    rcases n2 with n2 | ⟨n1, n2⟩
    · have : y < nI q.2.1 := Int32.lt_of_lt_of_le n2 (nI_pos' (by omega))
      simp (disch := omega) only [↓reduceIte, ↓ns_m1, ns_let, ns_lef, ns_ltt, ns_ltf, ns_eqt, ns_eqf, ns_gd, nI_clamp, nI_add, pk_sub, pk_mul, ns_m1a, ns_m1b, ns_m1c, ns_m1d, ns_m1e, ns_m1f, ns_m1g, ns_un1, ns_un0, ns_day1, Option.bind_some, gi_si_self, gi_si_ne, gl_si, gi_sl, gl_sl_self, gl_sl_ne, if_true, if_false, ns_i0, ns_i1, ns_i2, ns_i3, ns_i4, ns_i5, ns_i6, ns_i7, ns_i8, ns_i9, ns_i10, ns_i11, ns_i12, ns_i13, ns_i20, ns_i23, ns_i24, ns_i31, ns_i50, ns_i60, ns_i99, ns_i100, ns_i144, ns_i200, ns_i255, ns_i700, ns_i880, ns_i899, ns_i900, ns_i901, ns_i999, ns_i1000, ns_i1440, ns_i4095, ns_i1000000, g2, this]
    · have t1 : ¬ y < nI q.2.1 := fun hh => by
        have : nI 1440 < nI q.2.1 := Int32.lt_of_le_of_lt n2 hh
        exact nI_nlt (by omega) (by omega) this
      have t2 : nI q.2.2 ≤ y := Int32.le_trans (nI_le (by omega) (by omega)) n2
      simp (disch := omega) only [↓reduceIte, ↓ns_m1, ns_let, ns_lef, ns_ltt, ns_ltf, ns_eqt, ns_eqf, ns_gd, nI_clamp, nI_add, pk_sub, pk_mul, ns_m1a, ns_m1b, ns_m1c, ns_m1d, ns_m1e, ns_m1f, ns_m1g, ns_un1, ns_un0, ns_day1, Option.bind_some, gi_si_self, gi_si_ne, gl_si, gi_sl, gl_sl_self, gl_sl_ne, if_true, if_false, ns_i0, ns_i1, ns_i2, ns_i3, ns_i4, ns_i5, ns_i6, ns_i7, ns_i8, ns_i9, ns_i10, ns_i11, ns_i12, ns_i13, ns_i20, ns_i23, ns_i24, ns_i31, ns_i50, ns_i60, ns_i99, ns_i100, ns_i144, ns_i200, ns_i255, ns_i700, ns_i880, ns_i899, ns_i900, ns_i901, ns_i999, ns_i1000, ns_i1440, ns_i4095, ns_i1000000, g2, g3, t1, t2]
  · rw [e2]
    simp only [ea]
    by_cases c1 : b < q.2.1
    · rw [if_neg (show ¬ (q.2.1 ≤ b ∧ b < q.2.2) by omega)]
      show _ = some (nI 0, m)
      simp (disch := omega) only [↓reduceIte, ↓ns_m1, ns_let, ns_lef, ns_ltt, ns_ltf, ns_eqt, ns_eqf, ns_gd, nI_clamp, nI_add, pk_sub, pk_mul, ns_m1a, ns_m1b, ns_m1c, ns_m1d, ns_m1e, ns_m1f, ns_m1g, ns_un1, ns_un0, ns_day1, Option.bind_some, gi_si_self, gi_si_ne, gl_si, gi_sl, gl_sl_self, gl_sl_ne, if_true, if_false, ns_i0, ns_i1, ns_i2, ns_i3, ns_i4, ns_i5, ns_i6, ns_i7, ns_i8, ns_i9, ns_i10, ns_i11, ns_i12, ns_i13, ns_i20, ns_i23, ns_i24, ns_i31, ns_i50, ns_i60, ns_i99, ns_i100, ns_i144, ns_i200, ns_i255, ns_i700, ns_i880, ns_i899, ns_i900, ns_i901, ns_i999, ns_i1000, ns_i1440, ns_i4095, ns_i1000000, g2]
    · by_cases c2 : q.2.2 ≤ b
      · rw [if_neg (show ¬ (q.2.1 ≤ b ∧ b < q.2.2) by omega)]
        show _ = some (nI 0, m)
        simp (disch := omega) only [↓reduceIte, ↓ns_m1, ns_let, ns_lef, ns_ltt, ns_ltf, ns_eqt, ns_eqf, ns_gd, nI_clamp, nI_add, pk_sub, pk_mul, ns_m1a, ns_m1b, ns_m1c, ns_m1d, ns_m1e, ns_m1f, ns_m1g, ns_un1, ns_un0, ns_day1, Option.bind_some, gi_si_self, gi_si_ne, gl_si, gi_sl, gl_sl_self, gl_sl_ne, if_true, if_false, ns_i0, ns_i1, ns_i2, ns_i3, ns_i4, ns_i5, ns_i6, ns_i7, ns_i8, ns_i9, ns_i10, ns_i11, ns_i12, ns_i13, ns_i20, ns_i23, ns_i24, ns_i31, ns_i50, ns_i60, ns_i99, ns_i100, ns_i144, ns_i200, ns_i255, ns_i700, ns_i880, ns_i899, ns_i900, ns_i901, ns_i999, ns_i1000, ns_i1440, ns_i4095, ns_i1000000, g2, g3]
      · rw [if_pos (show q.2.1 ≤ b ∧ b < q.2.2 by omega)]
        show _ = some (nI 1, m)
        simp (disch := omega) only [↓reduceIte, ↓ns_m1, ns_let, ns_lef, ns_ltt, ns_ltf, ns_eqt, ns_eqf, ns_gd, nI_clamp, nI_add, pk_sub, pk_mul, ns_m1a, ns_m1b, ns_m1c, ns_m1d, ns_m1e, ns_m1f, ns_m1g, ns_un1, ns_un0, ns_day1, Option.bind_some, gi_si_self, gi_si_ne, gl_si, gi_sl, gl_sl_self, gl_sl_ne, if_true, if_false, ns_i0, ns_i1, ns_i2, ns_i3, ns_i4, ns_i5, ns_i6, ns_i7, ns_i8, ns_i9, ns_i10, ns_i11, ns_i12, ns_i13, ns_i20, ns_i23, ns_i24, ns_i31, ns_i50, ns_i60, ns_i99, ns_i100, ns_i144, ns_i200, ns_i255, ns_i700, ns_i880, ns_i899, ns_i900, ns_i901, ns_i999, ns_i1000, ns_i1440, ns_i4095, ns_i1000000, g2, g3]
def ssg_ (s : Int64) : Bool := al_ (fun j => isg_ 1 (sg_ s j)) 6 0
theorem ssg_mask (s : Int64) : ssg_ (s &&& 281474976710655) = ssg_ s := by
  unfold ssg_
  simp only [al_, sg_mask s (show 0 < 6 by omega), sg_mask s (show 1 < 6 by omega), sg_mask s (show 2 < 6 by omega), sg_mask s (show 3 < 6 by omega), sg_mask s (show 4 < 6 by omega), sg_mask s (show 5 < 6 by omega)]
def srd_ (F : List fa_) (T : Nat) (C : List (Nat × Nat × Nat)) (x y w : Int32) (s : Int64) : Int32 × List fa_ := match wrk_ C x w, nat_ y 100 with
  | some (c, v), some d => if ssg_ s = true ∧ F.length < 200 ∧ (rdn_ F d F.length).length < 7 then (nI F.length, F ++ [frd_ T c d v (s &&& 281474976710655)]) else (-1, F)
  | _, _ => (-1, F)
theorem rom_c {F : List fa_} {m : fm_} (hr : drc_ F m) (h7 : ∀ e, (rdn_ F e F.length).length ≤ 7) (y : Int32) : f_X1_hasRoomOn y m = some (b01_ (match nat_ y 100 with | none => false | some d => decide ((rdn_ F d F.length).length < 7)), m) := by
  unfold f_X1_hasRoomOn
  rw [day_c]
  simp only [Option.bind_some]
  rcases nat_ix y (n := 100) (by omega) with ⟨e1, _⟩ | ⟨d, hd, rfl, e1, -⟩
  · rw [if_pos (bu_0 e1), e1]; rfl
  rw [if_neg (bu_ne e1), e1]
  simp only
  have g := (hr d hd).1
  have := h7 d
  by_cases c : (rdn_ F d F.length).length < 7
  · rw [decide_eq_true c]
    show _ = some (nI 1, m)
    simp (disch := omega) only [↓reduceIte, ↓ns_m1, ns_let, ns_lef, ns_ltt, ns_ltf, ns_eqt, ns_eqf, ns_gd, nI_clamp, nI_add, pk_sub, pk_mul, ns_m1a, ns_m1b, ns_m1c, ns_m1d, ns_m1e, ns_m1f, ns_m1g, ns_un1, ns_un0, ns_day1, Option.bind_some, gi_si_self, gi_si_ne, gl_si, gi_sl, gl_sl_self, gl_sl_ne, if_true, if_false, ns_i0, ns_i1, ns_i2, ns_i3, ns_i4, ns_i5, ns_i6, ns_i7, ns_i8, ns_i9, ns_i10, ns_i11, ns_i12, ns_i13, ns_i20, ns_i23, ns_i24, ns_i31, ns_i50, ns_i60, ns_i99, ns_i100, ns_i144, ns_i200, ns_i255, ns_i700, ns_i880, ns_i899, ns_i900, ns_i901, ns_i999, ns_i1000, ns_i1440, ns_i4095, ns_i1000000, g]
  · rw [decide_eq_false c]
    show _ = some (nI 0, m)
    simp (disch := omega) only [↓reduceIte, ↓ns_m1, ns_let, ns_lef, ns_ltt, ns_ltf, ns_eqt, ns_eqf, ns_gd, nI_clamp, nI_add, pk_sub, pk_mul, ns_m1a, ns_m1b, ns_m1c, ns_m1d, ns_m1e, ns_m1f, ns_m1g, ns_un1, ns_un0, ns_day1, Option.bind_some, gi_si_self, gi_si_ne, gl_si, gi_sl, gl_sl_self, gl_sl_ne, if_true, if_false, ns_i0, ns_i1, ns_i2, ns_i3, ns_i4, ns_i5, ns_i6, ns_i7, ns_i8, ns_i9, ns_i10, ns_i11, ns_i12, ns_i13, ns_i20, ns_i23, ns_i24, ns_i31, ns_i50, ns_i60, ns_i99, ns_i100, ns_i144, ns_i200, ns_i255, ns_i700, ns_i880, ns_i899, ns_i900, ns_i901, ns_i999, ns_i1000, ns_i1440, ns_i4095, ns_i1000000, g]
theorem kok_rd {W : List (Nat × Nat × Nat)} {P : pl_} {F : List fa_} {T : Nat} {C : List (Nat × Nat × Nat)} (hk : kok_ W P F T C) (h2 : rok2_ F) (x y w : Int32) (s : Int64) : kok_ W P (srd_ F T C x y w s).2 T C ∧ rok2_ (srd_ F T C x y w s).2 := by
  obtain ⟨hW, hP, hF, hC, hR⟩ := id hk
  unfold srd_
  cases e : wrk_ C x w with
  | none => exact ⟨hk, h2⟩
  | some cv =>
    obtain ⟨c, v⟩ := cv
    obtain ⟨_, _, c1, v1⟩ := wrk_u hC e
    have hc8 := hC.1
    rcases nat_ix y (n := 100) (by omega) with ⟨e1, _⟩ | ⟨d, hd, rfl, e1, -⟩
    · rw [e1]; exact ⟨hk, h2⟩
    rw [e1]
    simp only
    by_cases cc : ssg_ s = true ∧ F.length < 200 ∧ (rdn_ F d F.length).length < 7
    · rw [if_pos cc]
      refine ⟨⟨hW, hP, fw_add hF cc.2.1 ⟨?_, hF.2.1, fun t ht => ?_, ?_, hd, ?_⟩, hC, fun q hq h1 => ?_, fun e => ?_⟩, fun q hq h1 => ?_⟩
      · show 1 ≤ 3; omega
      · cases ht
      · show c < 10; omega
      · show v < 10000; omega
      · rcases List.mem_append.mp hq with hq | hq
        · exact hR.1 q hq h1
        · rw [List.mem_singleton.mp hq]; exact ⟨c1, by show v ≤ 1440; omega⟩
      · rw [rdn_new]
        have := hR.2 e
        by_cases q : (frd_ T c d v (s &&& 281474976710655)).1 = 1 ∧ (frd_ T c d v (s &&& 281474976710655)).2.2.2.2.1 = e
        · have q2 : d = e := q.2
          subst q2
          rw [if_pos q, List.length_append]
          exact cc.2.2
        · rw [if_neg q]; exact this
      · rcases List.mem_append.mp hq with hq | hq
        · exact h2 q hq h1
        · rw [List.mem_singleton.mp hq]; exact v1
    · rw [if_neg cc]; exact ⟨hk, h2⟩
theorem pc_ag {P : pl_} {m m1 : fm_} (h1 : pc_ P m) (ha : ag_ [(69, 69, 3), (70, 71, 0)] m m1) : pc_ P m1 := by
  refine ⟨h1.1, h1.2.1, (ha 69 2 rfl).1.trans h1.2.2.1, fun j q hj => ?_⟩
  rw [(ha 70 j rfl).2, (ha 71 j rfl).1]
  exact h1.2.2.2 j q hj
theorem camc_ag {C : List (Nat × Nat × Nat)} {m m1 : fm_} (h4 : camc_ C m) (ha : ag_ [(6, 6, 9), (10, 12, 0)] m m1) : camc_ C m1 := by
  refine ⟨(ha 6 8 rfl).1.trans h4.1, fun j q hj => ?_⟩
  rw [(ha 10 j rfl).1, (ha 11 j rfl).1, (ha 12 j rfl).1]
  exact h4.2 j q hj
theorem read_c {W : List (Nat × Nat × Nat)} {P : pl_} {F : List fa_} {T : Nat} {C : List (Nat × Nat × Nat)} (hk : kok_ W P F T C) {st : Nat} {m : fm_} (hst : st < 2 ^ 20) (hm : kwc_ W P F T C m) (hc : cch_ W P F C st m) (x y w : Int32) (s : Int64) : ∃ m1 st1, f_X11_read x y w s m = some ((srd_ F T C x y w s).1, m1) ∧ kwc_ W P (srd_ F T C x y w s).2 T C m1 ∧ cch_ W P (srd_ F T C x y w s).2 C st1 m1 ∧ st1 ≤ st + 1 := by
  obtain ⟨hW, hP, hF, hC, hR⟩ := id hk
  have hl := hF.1
  have e1t : b01_ true = nI 1 := rfl
  have e0t : b01_ false = nI 0 := rfl
  have w1 := wrk_c hC hm.2.2.2.1 x w
  have r1 := rom_c hm.2.2.1 hR.2 y
  have a1 : ∀ m, f_X7_areSigns (s &&& 281474976710655) (nI 1) m = some (b01_ (ssg_ s), m) := fun m => by rw [as_all, ← ssg_mask]; rfl
  have g7 := hm.2.1.1
  have g3 := hc.1
  unfold f_X11_read srd_
  cases e : wrk_ C x w with
  | none =>
    rw [e] at w1
    have w1 : f_X9_works x w m = some (nI 0, m) := w1
    refine ⟨m, st, ?_, hm, hc, by omega⟩
    simp (disch := omega) only [↓reduceIte, ↓ns_m1, ns_let, ns_lef, ns_ltt, ns_ltf, ns_eqt, ns_eqf, ns_gd, nI_clamp, nI_add, pk_sub, pk_mul, ns_m1a, ns_m1b, ns_m1c, ns_m1d, ns_m1e, ns_m1f, ns_m1g, ns_un1, ns_un0, ns_day1, Option.bind_some, gi_si_self, gi_si_ne, gl_si, gi_sl, gl_sl_self, gl_sl_ne, if_true, if_false, ns_i0, ns_i1, ns_i2, ns_i3, ns_i4, ns_i5, ns_i6, ns_i7, ns_i8, ns_i9, ns_i10, ns_i11, ns_i12, ns_i13, ns_i20, ns_i23, ns_i24, ns_i31, ns_i50, ns_i60, ns_i99, ns_i100, ns_i144, ns_i200, ns_i255, ns_i700, ns_i880, ns_i899, ns_i900, ns_i901, ns_i999, ns_i1000, ns_i1440, ns_i4095, ns_i1000000, w1]
  | some cv =>
    obtain ⟨c, v⟩ := cv
    obtain ⟨rfl, rfl, c1, v1⟩ := wrk_u hC e
    have hc8 := hC.1
    rw [e] at w1
    have w1 : f_X9_works (nI c) (nI v) m = some (nI 1, m) := w1
    rcases nat_ix y (n := 100) (by omega) with ⟨e1, _⟩ | ⟨d, hd, rfl, e1, -⟩
    · rw [e1] at r1
      have r1 : f_X1_hasRoomOn y m = some (nI 0, m) := r1
      rw [e1]
      refine ⟨m, st, ?_, hm, hc, by omega⟩
      simp (disch := omega) only [↓reduceIte, ↓ns_m1, ns_let, ns_lef, ns_ltt, ns_ltf, ns_eqt, ns_eqf, ns_gd, nI_clamp, nI_add, pk_sub, pk_mul, ns_m1a, ns_m1b, ns_m1c, ns_m1d, ns_m1e, ns_m1f, ns_m1g, ns_un1, ns_un0, ns_day1, Option.bind_some, gi_si_self, gi_si_ne, gl_si, gi_sl, gl_sl_self, gl_sl_ne, if_true, if_false, ns_i0, ns_i1, ns_i2, ns_i3, ns_i4, ns_i5, ns_i6, ns_i7, ns_i8, ns_i9, ns_i10, ns_i11, ns_i12, ns_i13, ns_i20, ns_i23, ns_i24, ns_i31, ns_i50, ns_i60, ns_i99, ns_i100, ns_i144, ns_i200, ns_i255, ns_i700, ns_i880, ns_i899, ns_i900, ns_i901, ns_i999, ns_i1000, ns_i1440, ns_i4095, ns_i1000000, w1, r1]
    rw [e1] at r1 ⊢
    simp only at r1 ⊢
    by_cases c7 : (rdn_ F d F.length).length < 7
    · rw [decide_eq_true c7, e1t] at r1
      by_cases cs : ssg_ s = true
      · rw [cs, e1t] at a1
        by_cases cl : F.length < 200
        · simp only [if_pos (show ssg_ s = true ∧ F.length < 200 ∧ (rdn_ F d F.length).length < 7 from ⟨cs, cl, c7⟩)]
          have s0 : sa_ [(82, 82, 4)] m (si_ m 82 3 (nI (st + 1))) := sa_si (by rfl) sa_rf
          have k0 : kwc_ W P F T C (si_ m 82 3 (nI (st + 1))) := kwc_ag hm (sa_ag (by rfl) s0)
          obtain ⟨m1, q1, f1, d1⟩ := adr_c k0.2.1 k0.2.2.1 cl (c := c) (d := d) (v := v) (s := s &&& 281474976710655) (by omega) hd (by omega) c7 hR.2
          have s1 := fr_X1_addReading q1
          have fg : f_X6_forget m = some (nI 0, si_ m 82 3 (nI (st + 1))) := by
            unfold f_X6_forget
            simp (disch := omega) only [↓reduceIte, ↓ns_m1, ns_let, ns_lef, ns_ltt, ns_ltf, ns_eqt, ns_eqf, ns_gd, nI_clamp, nI_add, pk_sub, pk_mul, ns_m1a, ns_m1b, ns_m1c, ns_m1d, ns_m1e, ns_m1f, ns_m1g, ns_un1, ns_un0, ns_day1, Option.bind_some, gi_si_self, gi_si_ne, gl_si, gi_sl, gl_sl_self, gl_sl_ne, if_true, if_false, ns_i0, ns_i1, ns_i2, ns_i3, ns_i4, ns_i5, ns_i6, ns_i7, ns_i8, ns_i9, ns_i10, ns_i11, ns_i12, ns_i13, ns_i20, ns_i23, ns_i24, ns_i31, ns_i50, ns_i60, ns_i99, ns_i100, ns_i144, ns_i200, ns_i255, ns_i700, ns_i880, ns_i899, ns_i900, ns_i901, ns_i999, ns_i1000, ns_i1440, ns_i4095, ns_i1000000, g3]
          refine ⟨m1, st + 1, ?_, ⟨?_, f1, d1, ?_, ?_⟩, ⟨?_, fun e he => ?_⟩, Nat.le_refl _⟩
          · simp (disch := omega) only [↓reduceIte, ↓ns_m1, ns_let, ns_lef, ns_ltt, ns_ltf, ns_eqt, ns_eqf, ns_gd, nI_clamp, nI_add, pk_sub, pk_mul, ns_m1a, ns_m1b, ns_m1c, ns_m1d, ns_m1e, ns_m1f, ns_m1g, ns_un1, ns_un0, ns_day1, Option.bind_some, gi_si_self, gi_si_ne, gl_si, gi_sl, gl_sl_self, gl_sl_ne, if_true, if_false, ns_i0, ns_i1, ns_i2, ns_i3, ns_i4, ns_i5, ns_i6, ns_i7, ns_i8, ns_i9, ns_i10, ns_i11, ns_i12, ns_i13, ns_i20, ns_i23, ns_i24, ns_i31, ns_i50, ns_i60, ns_i99, ns_i100, ns_i144, ns_i200, ns_i255, ns_i700, ns_i880, ns_i899, ns_i900, ns_i901, ns_i999, ns_i1000, ns_i1440, ns_i4095, ns_i1000000, w1, r1, a1, g7, fg, q1]
          · exact pc_ag k0.1 (sa_ag (by rfl) s1)
          · exact camc_ag k0.2.2.2.1 (sa_ag (by rfl) s1)
          · exact tb_sa k0.2.2.2.2 s1 (fun k => by rfl)
          · rw [sa_gi s1 (by rfl), gi_si_self]
          · obtain ⟨sd, t1, t2, _⟩ := hc.2 e he
            refine ⟨sd, ?_, by omega, fun h => by omega⟩
            rw [sa_gi s1 (by rfl), gi_si_ne (by omega)]
            exact t1
        · rw [if_neg (fun h => cl h.2.1)]
          refine ⟨m, st, ?_, hm, hc, by omega⟩
          simp (disch := omega) only [↓reduceIte, ↓ns_m1, ns_let, ns_lef, ns_ltt, ns_ltf, ns_eqt, ns_eqf, ns_gd, nI_clamp, nI_add, pk_sub, pk_mul, ns_m1a, ns_m1b, ns_m1c, ns_m1d, ns_m1e, ns_m1f, ns_m1g, ns_un1, ns_un0, ns_day1, Option.bind_some, gi_si_self, gi_si_ne, gl_si, gi_sl, gl_sl_self, gl_sl_ne, if_true, if_false, ns_i0, ns_i1, ns_i2, ns_i3, ns_i4, ns_i5, ns_i6, ns_i7, ns_i8, ns_i9, ns_i10, ns_i11, ns_i12, ns_i13, ns_i20, ns_i23, ns_i24, ns_i31, ns_i50, ns_i60, ns_i99, ns_i100, ns_i144, ns_i200, ns_i255, ns_i700, ns_i880, ns_i899, ns_i900, ns_i901, ns_i999, ns_i1000, ns_i1440, ns_i4095, ns_i1000000, w1, r1, a1, g7]
      · rw [Bool.eq_false_iff.mpr cs, e0t] at a1
        rw [if_neg (fun h => cs h.1)]
        refine ⟨m, st, ?_, hm, hc, by omega⟩
        simp (disch := omega) only [↓reduceIte, ↓ns_m1, ns_let, ns_lef, ns_ltt, ns_ltf, ns_eqt, ns_eqf, ns_gd, nI_clamp, nI_add, pk_sub, pk_mul, ns_m1a, ns_m1b, ns_m1c, ns_m1d, ns_m1e, ns_m1f, ns_m1g, ns_un1, ns_un0, ns_day1, Option.bind_some, gi_si_self, gi_si_ne, gl_si, gi_sl, gl_sl_self, gl_sl_ne, if_true, if_false, ns_i0, ns_i1, ns_i2, ns_i3, ns_i4, ns_i5, ns_i6, ns_i7, ns_i8, ns_i9, ns_i10, ns_i11, ns_i12, ns_i13, ns_i20, ns_i23, ns_i24, ns_i31, ns_i50, ns_i60, ns_i99, ns_i100, ns_i144, ns_i200, ns_i255, ns_i700, ns_i880, ns_i899, ns_i900, ns_i901, ns_i999, ns_i1000, ns_i1440, ns_i4095, ns_i1000000, w1, r1, a1]
    · rw [decide_eq_false c7, e0t] at r1
      rw [if_neg (fun h => c7 h.2.2)]
      refine ⟨m, st, ?_, hm, hc, by omega⟩
      simp (disch := omega) only [↓reduceIte, ↓ns_m1, ns_let, ns_lef, ns_ltt, ns_ltf, ns_eqt, ns_eqf, ns_gd, nI_clamp, nI_add, pk_sub, pk_mul, ns_m1a, ns_m1b, ns_m1c, ns_m1d, ns_m1e, ns_m1f, ns_m1g, ns_un1, ns_un0, ns_day1, Option.bind_some, gi_si_self, gi_si_ne, gl_si, gi_sl, gl_sl_self, gl_sl_ne, if_true, if_false, ns_i0, ns_i1, ns_i2, ns_i3, ns_i4, ns_i5, ns_i6, ns_i7, ns_i8, ns_i9, ns_i10, ns_i11, ns_i12, ns_i13, ns_i20, ns_i23, ns_i24, ns_i31, ns_i50, ns_i60, ns_i99, ns_i100, ns_i144, ns_i200, ns_i255, ns_i700, ns_i880, ns_i899, ns_i900, ns_i901, ns_i999, ns_i1000, ns_i1440, ns_i4095, ns_i1000000, w1, r1]
