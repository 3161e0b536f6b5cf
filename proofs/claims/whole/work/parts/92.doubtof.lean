/-! ===== how sure an effect is: the class ===== -/
theorem cmpa_ (s A : Int32) : (!(decide (ab_ s < A))) = (decide (A ≤ s) || !(decide (-s < A))) := by
  have hn := Int32.toInt_neg s
  rw [Int.bmod_def] at hn
  have h1 := Int32.toInt_lt s
  have h2 := Int32.le_toInt s
  have h3 := Int32.toInt_lt A
  have h4 := Int32.le_toInt A
  have h0 : (0 : Int32).toInt = 0 := rfl
  unfold ab_
  rw [Int32.zero_sub]
  by_cases c : 0 ≤ s
  · rw [if_pos c]
    rw [Int32.le_iff_toInt_le, h0] at c
    by_cases d : A ≤ s
    · rw [decide_eq_true d]
      have : ¬ s < A := by rw [Int32.lt_iff_toInt_lt]; rw [Int32.le_iff_toInt_le] at d; omega
      rw [decide_eq_false this]; rfl
    · have e1 : s < A := by rw [Int32.lt_iff_toInt_lt]; rw [Int32.le_iff_toInt_le] at d; omega
      have e2 : -s < A := by
        rw [Int32.lt_iff_toInt_lt] at e1 ⊢
        split at hn <;> omega
      rw [decide_eq_false d, decide_eq_true e1, decide_eq_true e2]; rfl
  · rw [if_neg c]
    rw [Int32.le_iff_toInt_le, h0] at c
    by_cases d : -s < A
    · have e1 : ¬ A ≤ s := by
        rw [Int32.le_iff_toInt_le]
        rw [Int32.lt_iff_toInt_lt] at d
        split at hn <;> omega
      rw [decide_eq_true d, decide_eq_false e1]; rfl
    · rw [decide_eq_false d]
      cases decide (A ≤ s) <;> rfl
theorem st_add {t : Int32} : ∀ (l : List Int32) (i : Nat) (z c : Int32), st_ t i (z + c) l = st_ t i z l + c
  | [], _, _, _ => rfl
  | x :: l, i, z, c => by
    show st_ t (i + 1) (z + c + if (t >>> (nI i &&& 31)) &&& 1 = 1 then -x else x) l = st_ t (i + 1) (z + if (t >>> (nI i &&& 31)) &&& 1 = 1 then -x else x) l + c
    generalize (if (t >>> (nI i &&& 31)) &&& 1 = 1 then -x else x) = y
    rw [← st_add l (i + 1) (z + y) c]
    have : z + c + y = z + y + c := by grind
    rw [this]
theorem bb_flip {g b i : Nat} : bb_ (g ^^^ 2 ^ b) i = if i = b then 1 - bb_ g i else bb_ g i := by
  rw [bb_tb, bb_tb, Nat.testBit_xor, Nat.testBit_two_pow]
  by_cases c : i = b
  · subst c
    rw [if_pos rfl, decide_eq_true rfl]
    cases g.testBit i <;> rfl
  · rw [if_neg c, decide_eq_false (fun e => c e.symm)]
    cases g.testBit i <;> rfl
theorem bit_i {g i : Nat} (hg : g < 4096) (hi : i < 12) : ((nI g >>> (nI i &&& 31)) &&& 1 = 1) = (bb_ g i = 1) := by
  rw [bb_eq (by omega) (by omega)]
  have := bb_lt g i
  have h : bb_ g i = 0 ∨ bb_ g i = 1 := by omega
  rcases h with h | h
  · rw [h]
    exact propext ⟨fun q => absurd q (by decide), fun q => absurd q (by decide)⟩
  · rw [h]
    exact propext ⟨fun _ => rfl, fun _ => rfl⟩
theorem st_past {g b : Nat} (hg : g < 4096) (hg2 : g ^^^ 2 ^ b < 4096) : ∀ (l : List Int32) (i : Nat) (z : Int32), b < i → i + l.length ≤ 12 → st_ (nI (g ^^^ 2 ^ b)) i z l = st_ (nI g) i z l
  | [], _, _, _, _ => rfl
  | x :: l, i, z, hb, hl => by
    rw [List.length_cons] at hl
    show st_ (nI (g ^^^ 2 ^ b)) (i + 1) (z + if (nI (g ^^^ 2 ^ b) >>> (nI i &&& 31)) &&& 1 = 1 then -x else x) l = st_ (nI g) (i + 1) (z + if (nI g >>> (nI i &&& 31)) &&& 1 = 1 then -x else x) l
    rw [st_past hg hg2 l (i + 1) _ (by omega) (by omega)]
    simp only [bit_i hg (show i < 12 by omega), bit_i hg2 (show i < 12 by omega), bb_flip, if_neg (show ¬ i = b by omega)]
theorem st_flip {g b : Nat} (hg : g < 4096) (hg2 : g ^^^ 2 ^ b < 4096) {x : Int32} : ∀ (l : List Int32) (i : Nat) (z : Int32), i ≤ b → i + l.length ≤ 12 → l[b - i]? = some x → st_ (nI (g ^^^ 2 ^ b)) i z l = st_ (nI g) i z l + (if bb_ g b = 1 then 2 * x else (-2) * x)
  | [], _, _, _, _, h => by cases h
  | y :: l, i, z, hb, hl, h => by
    rw [List.length_cons] at hl
    show st_ (nI (g ^^^ 2 ^ b)) (i + 1) (z + if (nI (g ^^^ 2 ^ b) >>> (nI i &&& 31)) &&& 1 = 1 then -y else y) l = st_ (nI g) (i + 1) (z + if (nI g >>> (nI i &&& 31)) &&& 1 = 1 then -y else y) l + _
    by_cases c : i = b
    · subst c
      rw [Nat.sub_self] at h
      have h : y = x := by injection h
      subst h
      rw [st_past hg hg2 l (i + 1) _ (by omega) (by omega)]
      simp only [bit_i hg (show i < 12 by omega), bit_i hg2 (show i < 12 by omega), bb_flip, if_true]
      have hlt := bb_lt g i
      by_cases d : bb_ g i = 1
      · rw [if_neg (show ¬ 1 - bb_ g i = 1 by omega), if_pos d, if_pos d]
        have : z + y = z + -y + 2 * y := by grind
        rw [this, st_add]
      · rw [if_pos (show 1 - bb_ g i = 1 by omega), if_neg d, if_neg d]
        have : z + -y = z + y + (-2) * y := by grind
        rw [this, st_add]
    · have h : l[b - (i + 1)]? = some x := by
        have e : b - i = (b - (i + 1)) + 1 := by omega
        rw [e] at h
        exact h
      rw [st_flip hg hg2 l (i + 1) _ (by omega) (by omega) h]
      simp only [bit_i hg (show i < 12 by omega), bit_i hg2 (show i < 12 by omega), bb_flip, if_neg c]
theorem tz_len {l w : Nat} (h0 : ¬ w = 0) (hl : l ≤ 12) (h : w < 2 ^ l) : tz_ w < l := by
  have h4 := pw12_ hl
  obtain ⟨e, _, _⟩ := gry_s h0 (by omega)
  have e2 : 2 ^ tz_ w = gry_ (w - 1) ^^^ gry_ w := by rw [e, ← Nat.xor_assoc, Nat.xor_self, Nat.zero_xor]
  have e3 : 2 ^ tz_ w < 2 ^ l := by
    rw [e2]
    exact Nat.xor_lt_two_pow (gry_lt (by omega)) (gry_lt h)
  exact (Nat.pow_lt_pow_iff_right (by omega)).mp e3
theorem dgd_e (G : List Int32) (t : Nat) : dgd_ G t = !(decide (ab_ (st_ (nI t) 0 0 G) < ab_ (su_ 0 G))) := by
  have : abi_ (su_ 0 G) = ab_ (su_ 0 G) := by
    unfold abi_ ab_
    rw [Int32.zero_sub]
  rw [cmpa_]
  unfold dgd_
  rw [this]
theorem wg24_ {G : List Int32} {m : fm_} (h : gc_ G m) {x1 : Int32} : f_X0_waysAsGood_24 x1 (su_ 0 G) (ab_ (su_ 0 G)) (nI 0) (nI 1) (nI 1) m = some (nI (cntf_ (dgd_ G) (2 ^ G.length)), m) := by
  have h12 := h.1
  have hp := pw12_ h12
  have sp := shl_p h12
  have hpos := Nat.two_pow_pos G.length
  have s0 : su_ 0 G = st_ (nI (gry_ 0)) 0 0 G := (st_0 G 0 0 (by omega)).symm
  have d0 : dgd_ G (gry_ 0) = true := by
    rw [dgd_e, ← s0, decide_eq_false (fun q : ab_ (su_ 0 G) < ab_ (su_ 0 G) => Int32.lt_irrefl q)]
    rfl
  obtain ⟨⟨x, y⟩, e, _, hx, hy⟩ := lp_ (S := Int32 × Int32) (n := 2 ^ G.length) (F := fun w s => f_X0_waysAsGood_24 x1 s.1 (ab_ (su_ 0 G)) (nI (gry_ (w - 1))) s.2 (nI w) m) (I := fun w s => 1 ≤ w ∧ s.1 = st_ (nI (gry_ (w - 1))) 0 0 G ∧ s.2 = nI (cntf_ (fun j => dgd_ G (gry_ j)) w)) (fun w s hw hI => by
    obtain ⟨x, y⟩ := s
    obtain ⟨w1, hx, hy⟩ := hI
    have hx : x = st_ (nI (gry_ (w - 1))) 0 0 G := hx
    have hy : y = nI (cntf_ (fun j => dgd_ G (gry_ j)) w) := hy
    subst hx
    subst hy
    obtain ⟨ge, gb, gl⟩ := gry_s (show ¬ w = 0 by omega) (show w < 4096 by omega)
    have bl := tz_len (show ¬ w = 0 by omega) h12 hw
    have g2 : gry_ w < 4096 := gry_lt (n := 12) (by omega)
    have tz := tz_e (show ¬ w = 0 by omega) (show w < 4096 by omega) m
    have ex := List.getElem?_eq_getElem bl
    generalize G[tz_ w] = u at ex
    have gu := h.2.2 _ u ex
    have fl := st_flip gl (by rw [← ge]; exact g2) G 0 0 (Nat.zero_le (tz_ w)) (by omega) (by rw [Nat.sub_zero]; exact ex)
    rw [← ge] at fl
    have ix : ix_ (nI (tz_ w)) 12 = true := ix_i (vp_in_nI (by omega) (by omega))
    have xr : nI (gry_ (w - 1)) ^^^ ((1 : Int32) <<< (nI (tz_ w) &&& 31)) = nI (gry_ w) := by
      rw [bb_shl (by omega), nI_xor (k := 12) (by omega) (Nat.pow_lt_pow_right (by omega) gb) (by omega), ← ge]
    have hb := cntf_b (f := fun j => dgd_ G (gry_ j)) w
    show ∃ s' : Int32 × Int32, f_X0_waysAsGood_24 x1 (st_ (nI (gry_ (w - 1))) 0 0 G) (ab_ (su_ 0 G)) (nI (gry_ (w - 1))) (nI (cntf_ (fun j => dgd_ G (gry_ j)) w)) (nI w) m = f_X0_waysAsGood_24 x1 s'.1 (ab_ (su_ 0 G)) (nI (gry_ w)) s'.2 (nI (w + 1)) m ∧ 1 ≤ w + 1 ∧ s'.1 = st_ (nI (gry_ w)) 0 0 G ∧ s'.2 = nI (cntf_ (fun j => dgd_ G (gry_ j)) w + (if dgd_ G (gry_ w) = true then 1 else 0))
    refine ⟨(st_ (nI (gry_ w)) 0 0 G, nI (cntf_ (fun j => dgd_ G (gry_ j)) w + (if dgd_ G (gry_ w) = true then 1 else 0))), ?_, by omega, rfl, rfl⟩
    rw [e_X0_waysAsGood_24, h.2.1, sp, if_neg (nI_ge hw (by omega)), tz]
    simp only [Option.bind_some]
    rw [gd_t ix, gd_t ix, xr, nI_clamp (show tz_ w < 2 ^ 31 by omega), gu]
    have de := dgd_e G (gry_ w)
    simp only [bit_i gl gb]
    by_cases c : bb_ (gry_ (w - 1)) (tz_ w) = 1
    · rw [if_pos c] at fl
      rw [if_pos c, ← fl]
      by_cases d : ab_ (st_ (nI (gry_ w)) 0 0 G) < ab_ (su_ 0 G)
      · rw [if_pos d]
        rw [decide_eq_true d] at de
        rw [if_neg (show ¬ dgd_ G (gry_ w) = true by rw [de]; decide)]
        simp (disch := omega) only [↓reduceIte, ↓ns_m1, ns_let, ns_lef, ns_ltt, ns_ltf, ns_eqt, ns_eqf, ns_gd, nI_clamp, nI_add, pk_sub, pk_mul, ns_m1a, ns_m1b, ns_m1c, ns_m1d, ns_m1e, ns_m1f, ns_m1g, ns_un1, ns_un0, ns_day1, Option.bind_some, gi_si_self, gi_si_ne, gl_si, gi_sl, gl_sl_self, gl_sl_ne, if_true, if_false, ns_i0, ns_i1, ns_i2, ns_i3, ns_i4, ns_i5, ns_i6, ns_i7, ns_i8, ns_i9, ns_i10, ns_i11, ns_i12, ns_i13, ns_i20, ns_i23, ns_i24, ns_i31, ns_i50, ns_i60, ns_i99, ns_i100, ns_i144, ns_i200, ns_i255, ns_i700, ns_i880, ns_i899, ns_i900, ns_i901, ns_i999, ns_i1000, ns_i1440, ns_i4095, ns_i1000000, Nat.add_zero]
      · rw [if_neg d]
        rw [decide_eq_false d] at de
        rw [if_pos (show dgd_ G (gry_ w) = true by rw [de]; rfl)]
        simp (disch := omega) only [↓reduceIte, ↓ns_m1, ns_let, ns_lef, ns_ltt, ns_ltf, ns_eqt, ns_eqf, ns_gd, nI_clamp, nI_add, pk_sub, pk_mul, ns_m1a, ns_m1b, ns_m1c, ns_m1d, ns_m1e, ns_m1f, ns_m1g, ns_un1, ns_un0, ns_day1, Option.bind_some, gi_si_self, gi_si_ne, gl_si, gi_sl, gl_sl_self, gl_sl_ne, if_true, if_false, ns_i0, ns_i1, ns_i2, ns_i3, ns_i4, ns_i5, ns_i6, ns_i7, ns_i8, ns_i9, ns_i10, ns_i11, ns_i12, ns_i13, ns_i20, ns_i23, ns_i24, ns_i31, ns_i50, ns_i60, ns_i99, ns_i100, ns_i144, ns_i200, ns_i255, ns_i700, ns_i880, ns_i899, ns_i900, ns_i901, ns_i999, ns_i1000, ns_i1440, ns_i4095, ns_i1000000]
    · rw [if_neg c] at fl
      rw [if_neg c, ← fl]
      by_cases d : ab_ (st_ (nI (gry_ w)) 0 0 G) < ab_ (su_ 0 G)
      · rw [if_pos d]
        rw [decide_eq_true d] at de
        rw [if_neg (show ¬ dgd_ G (gry_ w) = true by rw [de]; decide)]
        simp (disch := omega) only [↓reduceIte, ↓ns_m1, ns_let, ns_lef, ns_ltt, ns_ltf, ns_eqt, ns_eqf, ns_gd, nI_clamp, nI_add, pk_sub, pk_mul, ns_m1a, ns_m1b, ns_m1c, ns_m1d, ns_m1e, ns_m1f, ns_m1g, ns_un1, ns_un0, ns_day1, Option.bind_some, gi_si_self, gi_si_ne, gl_si, gi_sl, gl_sl_self, gl_sl_ne, if_true, if_false, ns_i0, ns_i1, ns_i2, ns_i3, ns_i4, ns_i5, ns_i6, ns_i7, ns_i8, ns_i9, ns_i10, ns_i11, ns_i12, ns_i13, ns_i20, ns_i23, ns_i24, ns_i31, ns_i50, ns_i60, ns_i99, ns_i100, ns_i144, ns_i200, ns_i255, ns_i700, ns_i880, ns_i899, ns_i900, ns_i901, ns_i999, ns_i1000, ns_i1440, ns_i4095, ns_i1000000, Nat.add_zero]
      · rw [if_neg d]
        rw [decide_eq_false d] at de
        rw [if_pos (show dgd_ G (gry_ w) = true by rw [de]; rfl)]
        simp (disch := omega) only [↓reduceIte, ↓ns_m1, ns_let, ns_lef, ns_ltt, ns_ltf, ns_eqt, ns_eqf, ns_gd, nI_clamp, nI_add, pk_sub, pk_mul, ns_m1a, ns_m1b, ns_m1c, ns_m1d, ns_m1e, ns_m1f, ns_m1g, ns_un1, ns_un0, ns_day1, Option.bind_some, gi_si_self, gi_si_ne, gl_si, gi_sl, gl_sl_self, gl_sl_ne, if_true, if_false, ns_i0, ns_i1, ns_i2, ns_i3, ns_i4, ns_i5, ns_i6, ns_i7, ns_i8, ns_i9, ns_i10, ns_i11, ns_i12, ns_i13, ns_i20, ns_i23, ns_i24, ns_i31, ns_i50, ns_i60, ns_i99, ns_i100, ns_i144, ns_i200, ns_i255, ns_i700, ns_i880, ns_i899, ns_i900, ns_i901, ns_i999, ns_i1000, ns_i1440, ns_i4095, ns_i1000000]) (2 ^ G.length - 1) 1 (su_ 0 G, nI 1) (by omega) ⟨Nat.le_refl _, s0, by
      show nI 1 = nI (0 + (if dgd_ G (gry_ 0) = true then 1 else 0))
      rw [if_pos d0]⟩
  have hy : y = nI (cntf_ (fun j => dgd_ G (gry_ j)) (2 ^ G.length)) := hy
  have e : f_X0_waysAsGood_24 x1 (su_ 0 G) (ab_ (su_ 0 G)) (nI 0) (nI 1) (nI 1) m = f_X0_waysAsGood_24 x1 x (ab_ (su_ 0 G)) (nI (gry_ (2 ^ G.length - 1))) y (nI (2 ^ G.length)) m := e
  rw [e, e_X0_waysAsGood_24, h.2.1, sp, if_pos (nI_le (Nat.le_refl _) (by omega)), hy, cnt_gray]
theorem doubtOf_c {A : air_} {n : Nat} {m : fm_} (h : rc_ A n m) (x y : Int32) : ∃ m1, f_X11_doubtOf x y m = some (sdo2_ A x y, m1) ∧ rc_ A n m1 := by
  unfold f_X11_doubtOf sdo2_
  rw [day_c]
  simp only [Option.bind_some]
  rcases nat_ix x (n := 100) (by omega) with ⟨e1, _⟩ | ⟨d, hd, rfl, e1, -⟩
  · rw [if_pos (bu_0 e1), e1]; exact ⟨m, rfl, h⟩
  have u : f_X11_isUnder y 2 m = some (bu_ y 2, m) := und_ y m
  rw [if_neg (bu_ne e1), e1, u]
  simp only [Option.bind_some]
  rcases nat_ix y (n := 2) (by omega) with ⟨e2, n2⟩ | ⟨b, hb, rfl, e2, n1, n2⟩
  · rw [if_pos (bu_0 e2), e2]; exact ⟨m, rfl, h⟩
  rw [if_neg (bu_ne e2), e2]
  obtain ⟨m1, q1, r1, g1⟩ := pu_all hd h
  simp only
  by_cases c : b = 0
  · subst c
    rw [if_pos rfl, if_pos (show nI 0 = 0 from rfl)]
    have sg := sg_all g1
    refine ⟨m1, ?_, r1⟩
    unfold f_X0_waysAsGood
    rw [q1]
    simp only [Option.bind_some]
    rw [sg]
    simp only [Option.bind_some]
    have := wg24_ g1 (x1 := nI d)
    have this : f_X0_waysAsGood_24 (nI d) (su_ 0 (gs_ A d)) (ab_ (su_ 0 (gs_ A d))) 0 1 1 m1 = _ := this
    rw [this]
    rfl
  · have : b = 1 := by omega
    subst this
    rw [if_neg c, if_neg (show ¬ nI 1 = 0 by decide)]
    refine ⟨m1, ?_, r1⟩
    unfold f_X0_waysFrom
    rw [q1]
    simp only [Option.bind_some]
    rw [g1.2.1, shl_p g1.1]
