/-! ===== entries, charge, account, back: the class ===== -/
def sen_ (W : List (Nat × Nat × Nat)) (z : Nat) (P : pl_) (F : List fa_) (C : List (Nat × Nat × Nat)) (O : List od_) (x y k : Int32) : Int32 := match nat_ x P.length, nat_ y 100 with
  | some p, some d => nI (nen_ (fun e => enm_ W z P F C O e k p) d)
  | _, _ => -1
/-- what a plate owes from day a to day d -/
def owe_ (W : List (Nat × Nat × Nat)) (z : Nat) (P : pl_) (F : List fa_) (C : List (Nat × Nat × Nat)) (O : List od_) (k : Int32) (a d p : Nat) : Nat := csm_ (fun e => enm_ W z P F C O e k p) (fun e v n => cdu_ O F p e k v n) a (d + 1)
def sch_ (W : List (Nat × Nat × Nat)) (z : Nat) (P : pl_) (F : List fa_) (C : List (Nat × Nat × Nat)) (O : List od_) (x y k : Int32) : Int32 := match nat_ x P.length, nat_ y 100 with
  | some p, some d => nI (owe_ W z P F C O k d d p)
  | _, _ => -1
def plf_ (P : pl_) (i : Nat) : Nat := match P[i]? with
  | none => 10
  | some q => q.2
def fls_ (P : pl_) (f : Nat → Nat) (fl : Nat) : Nat → Nat
  | 0 => 0
  | n + 1 => fls_ P f fl n + (if plf_ P n = fl then f n else 0)
theorem fls_b {P : pl_} {f : Nat → Nat} {fl : Nat} (h : ∀ i, f i ≤ 99900) : ∀ n, fls_ P f fl n ≤ 99900 * n
  | 0 => Nat.zero_le _
  | n + 1 => by
    have := fls_b (P := P) (fl := fl) h n
    have h2 := h n
    unfold fls_
    by_cases c : plf_ P n = fl
    · rw [if_pos c]; omega
    · rw [if_neg c]; omega
theorem owe_b {W : List (Nat × Nat × Nat)} {z : Nat} {P : pl_} {F : List fa_} {C : List (Nat × Nat × Nat)} {O : List od_} (hO : oko_ O) {k : Int32} {a d : Nat} (hd : d < 100) (p : Nat) : owe_ W z P F C O k a d p ≤ 99900 := by
  have := csm_b (en := fun e => enm_ W z P F C O e k p) (cd := fun e v n => cdu_ O F p e k v n) (fun d v n => cdu_b hO.1) (a := a) (d + 1)
  unfold owe_
  omega
def sac_ (W : List (Nat × Nat × Nat)) (z : Nat) (P : pl_) (F : List fa_) (C : List (Nat × Nat × Nat)) (O : List od_) (x y w k : Int32) : Int32 := match nat_ x 10, nat_ y 100, nat_ w 100 with
  | some f, some a, some d => if a ≤ d then nI (fls_ P (owe_ W z P F C O k a d) f P.length) else -1
  | _, _, _ => -1
def sbk_ (W : List (Nat × Nat × Nat)) (z : Nat) (P : pl_) (F : List fa_) (C : List (Nat × Nat × Nat)) (O : List od_) (x y w k l : Int32) : Int32 := match nat_ x 10, nat_ y 100, nat_ w 100 with
  | some f, some a, some d => if a ≤ d then nI (fls_ P (owe_ W z P F C O k a d) f P.length) - nI (fls_ P (owe_ W z P F C O l a d) f P.length) else -1000000
  | _, _, _ => -1000000
theorem flt_c {W : List (Nat × Nat × Nat)} {P : pl_} {F : List fa_} {T : Nat} {C : List (Nat × Nat × Nat)} (hk : kok_ W P F T C) (h2 : rok2_ F) {z : Nat} (hz : z < 4096) {O : List od_} (hO : oko_ O) {d : Nat} (hd : d < 100) {k : Int32} {m : fm_} (hm : kc9_ W z P F T C O d k m) {f a : Nat} (hf : f < 10) (ha : a < 100) : ∃ m1, f_X2_fleetSum (nI f) (nI a) (nI d) k m = some (nI (fls_ P (owe_ W z P F C O k a d) f P.length), m1) := by
  have hP := hk.2.1
  obtain ⟨⟨x, m1⟩, e, hx, k1⟩ := lp0_ (S := Int32 × fm_) (n := P.length) (F := fun i s => f_X2_fleetSum_6 (nI f) (nI a) (nI d) k s.1 (nI i) s.2) (I := fun i s => s.1 = nI (fls_ P (owe_ W z P F C O k a d) f i) ∧ kc9_ W z P F T C O d k s.2) (fun i s hi hI => by
    obtain ⟨x, m0⟩ := s
    obtain ⟨hx, i1⟩ := hI
    have hx : x = nI (fls_ P (owe_ W z P F C O k a d) f i) := hx
    subst hx
    have i1 : kc9_ W z P F T C O d k m0 := i1
    have hb := fls_b (P := P) (fl := f) (owe_b (W := W) (z := z) (P := P) (F := F) (C := C) hO (k := k) (a := a) hd) i
    have ho := owe_b (W := W) (z := z) (P := P) (F := F) (C := C) hO (k := k) (a := a) hd i
    have g2 := i1.1.1.2.2.1
    have ei := List.getElem?_eq_getElem hi
    generalize P[i] = q at ei
    have g71 := (i1.1.1.2.2.2 i q ei).2
    have hq : q.2 < 10 := i1.1.1.2.1 q (List.mem_of_getElem? ei)
    have ep : plf_ P i = q.2 := by unfold plf_; rw [ei]
    show ∃ s' : Int32 × fm_, f_X2_fleetSum_6 (nI f) (nI a) (nI d) k (nI (fls_ P (owe_ W z P F C O k a d) f i)) (nI i) m0 = f_X2_fleetSum_6 (nI f) (nI a) (nI d) k s'.1 (nI (i + 1)) s'.2 ∧ s'.1 = nI (fls_ P (owe_ W z P F C O k a d) f i + (if plf_ P i = f then owe_ W z P F C O k a d i else 0)) ∧ kc9_ W z P F T C O d k s'.2
    rw [ep]
    generalize fls_ P (owe_ W z P F C O k a d) f i = c at hb
    rw [e_X2_fleetSum_6]
    by_cases cf : q.2 = f
    · obtain ⟨m1, e1⟩ := sum_c hk h2 hz hO hd i1 hi (show a ≤ 100 by omega)
      have e1 : f_X2_sumOf (nI i) (nI a) (nI d) k m0 = some (nI (owe_ W z P F C O k a d i), m1) := e1
      have k1 := kc9_fr hO.1.1 i1 (fr_X2_sumOf e1)
      refine ⟨(nI (c + owe_ W z P F C O k a d i), m1), ?_, by rw [if_pos cf], k1⟩
      simp (disch := omega) only [↓reduceIte, ↓ns_m1, ns_let, ns_lef, ns_ltt, ns_ltf, ns_eqt, ns_eqf, ns_gd, nI_clamp, nI_add, pk_sub, pk_mul, ns_m1a, ns_m1b, ns_m1c, ns_m1d, ns_m1e, ns_m1f, ns_m1g, ns_un1, ns_un0, ns_day1, Option.bind_some, gi_si_self, gi_si_ne, gl_si, gi_sl, gl_sl_self, gl_sl_ne, if_true, if_false, ns_i0, ns_i1, ns_i2, ns_i3, ns_i4, ns_i5, ns_i6, ns_i7, ns_i8, ns_i9, ns_i10, ns_i11, ns_i12, ns_i13, ns_i20, ns_i23, ns_i24, ns_i31, ns_i50, ns_i60, ns_i99, ns_i100, ns_i144, ns_i200, ns_i255, ns_i700, ns_i880, ns_i899, ns_i900, ns_i901, ns_i999, ns_i1000, ns_i1440, ns_i4095, ns_i1000000, g2, g71, e1]
    · refine ⟨(nI c, m0), ?_, by rw [if_neg cf]; rfl, i1⟩
      simp (disch := omega) only [↓reduceIte, ↓ns_m1, ns_let, ns_lef, ns_ltt, ns_ltf, ns_eqt, ns_eqf, ns_gd, nI_clamp, nI_add, pk_sub, pk_mul, ns_m1a, ns_m1b, ns_m1c, ns_m1d, ns_m1e, ns_m1f, ns_m1g, ns_un1, ns_un0, ns_day1, Option.bind_some, gi_si_self, gi_si_ne, gl_si, gi_sl, gl_sl_self, gl_sl_ne, if_true, if_false, ns_i0, ns_i1, ns_i2, ns_i3, ns_i4, ns_i5, ns_i6, ns_i7, ns_i8, ns_i9, ns_i10, ns_i11, ns_i12, ns_i13, ns_i20, ns_i23, ns_i24, ns_i31, ns_i50, ns_i60, ns_i99, ns_i100, ns_i144, ns_i200, ns_i255, ns_i700, ns_i880, ns_i899, ns_i900, ns_i901, ns_i999, ns_i1000, ns_i1440, ns_i4095, ns_i1000000, g2, g71]) (s := (nI 0, m)) ⟨rfl, hm⟩
  have hx : x = nI (fls_ P (owe_ W z P F C O k a d) f P.length) := hx
  have e : f_X2_fleetSum_6 (nI f) (nI a) (nI d) k (nI 0) (nI 0) m = f_X2_fleetSum_6 (nI f) (nI a) (nI d) k x (nI P.length) m1 := e
  have g2 : gi_ m1 69 2 = nI P.length := k1.1.1.2.2.1
  refine ⟨m1, ?_⟩
  show f_X2_fleetSum_6 (nI f) (nI a) (nI d) k (nI 0) (nI 0) m = _
  rw [e, e_X2_fleetSum_6, hx]
  simp (disch := omega) only [↓reduceIte, ↓ns_m1, ns_let, ns_lef, ns_ltt, ns_ltf, ns_eqt, ns_eqf, ns_gd, nI_clamp, nI_add, pk_sub, pk_mul, ns_m1a, ns_m1b, ns_m1c, ns_m1d, ns_m1e, ns_m1f, ns_m1g, ns_un1, ns_un0, ns_day1, Option.bind_some, gi_si_self, gi_si_ne, gl_si, gi_sl, gl_sl_self, gl_sl_ne, if_true, if_false, ns_i0, ns_i1, ns_i2, ns_i3, ns_i4, ns_i5, ns_i6, ns_i7, ns_i8, ns_i9, ns_i10, ns_i11, ns_i12, ns_i13, ns_i20, ns_i23, ns_i24, ns_i31, ns_i50, ns_i60, ns_i99, ns_i100, ns_i144, ns_i200, ns_i255, ns_i700, ns_i880, ns_i899, ns_i900, ns_i901, ns_i999, ns_i1000, ns_i1440, ns_i4095, ns_i1000000, g2]
/-- what the class must hold for the four -/
def kc8_ (W : List (Nat × Nat × Nat)) (z : Nat) (P : pl_) (F : List fa_) (T : Nat) (C : List (Nat × Nat × Nat)) (O : List od_) (st : Nat) (m : fm_) : Prop := kwc_ W P F T C m ∧ gi_ m 6 4 = nI z ∧ loc_ O m ∧ cch_ W P F C st m
theorem up9_ {W : List (Nat × Nat × Nat)} {P : pl_} {F : List fa_} {T : Nat} {C : List (Nat × Nat × Nat)} (hk : kok_ W P F T C) {z : Nat} {O : List od_} (hO : oko_ O) {st : Nat} (hst : st < 2 ^ 20) {m : fm_} (hm : kc8_ W z P F T C O st m) {d : Nat} (hd : d < 100) (k : Int32) : ∃ m1, f_X6_chooseUpTo (nI d) k m = some (0, m1) ∧ kc9_ W z P F T C O d k m1 ∧ kc8_ W z P F T C O st m1 := by
  obtain ⟨m1, e1, w1, c1, h1⟩ := upto_ hk hst hm.1 hm.2.2.2 hd k
  have f1 := fr_X6_chooseUpTo e1
  have z1 : gi_ m1 6 4 = nI z := (sa_gi f1 (by rfl)).trans hm.2.1
  have l1 : loc_ O m1 := loc_ag hO.1.1 hm.2.2.1 (sa_ag (by rfl) f1)
  exact ⟨m1, e1, ⟨w1, z1, l1, h1⟩, w1, z1, l1, c1⟩
theorem cch_sa {W : List (Nat × Nat × Nat)} {P : pl_} {F : List fa_} {C : List (Nat × Nat × Nat)} {st : Nat} {m m1 : fm_} (h : cch_ W P F C st m) (hs : ∀ a k, 82 ≤ a → a ≤ 86 → gi_ m1 a k = gi_ m a k) : cch_ W P F C st m1 := by
  refine ⟨(hs _ _ (by omega) (by omega)).trans h.1, fun d hd => ?_⟩
  obtain ⟨sd, h1, h2, h3⟩ := h.2 d hd
  refine ⟨sd, (hs _ _ (by omega) (by omega)).trans h1, h2, fun q => ?_⟩
  rw [hs 84 d (by omega) (by omega)]
  exact chs_cg (h3 q) (hs _ _ (by omega) (by omega)) fun r _ => hs _ _ (by omega) (by omega)
theorem wi_82 : ∀ a k, 82 ≤ a → a ≤ 86 → wi_ w_X2_fleetSum a k = false := fun a k h1 h2 => by
  cases h : wi_ w_X2_fleetSum a k with
  | false => rfl
  | true =>
    obtain ⟨q, hq, q1, q2, _⟩ := wi_mem.mp h
    have : ∀ q ∈ w_X2_fleetSum, q.2.1 < 82 ∨ 86 < q.1 := by decide
    have := this q hq
    omega
theorem kc8_fr {W : List (Nat × Nat × Nat)} {P : pl_} {F : List fa_} {T : Nat} {C : List (Nat × Nat × Nat)} {z : Nat} {O : List od_} (hO : oko_ O) {st : Nat} {m m1 : fm_} (hm : kc8_ W z P F T C O st m) (hs : sa_ w_X2_fleetSum m m1) : kc8_ W z P F T C O st m1 := ⟨kwc_ag hm.1 (sa_ag (by rfl) hs), (sa_gi hs (by rfl)).trans hm.2.1, loc_ag hO.1.1 hm.2.2.1 (sa_ag (by rfl) hs), cch_sa hm.2.2.2 fun a k h1 h2 => sa_gi hs (wi_82 a k h1 h2)⟩
theorem entries_c {W : List (Nat × Nat × Nat)} {P : pl_} {F : List fa_} {T : Nat} {C : List (Nat × Nat × Nat)} (hk : kok_ W P F T C) (h2 : rok2_ F) {z : Nat} (hz : z < 4096) {O : List od_} (hO : oko_ O) {st : Nat} (hst : st < 2 ^ 20) {m : fm_} (hm : kc8_ W z P F T C O st m) (x y k : Int32) : ∃ m1, f_X11_entries x y k m = some (sen_ W z P F C O x y k, m1) ∧ kc8_ W z P F T C O st m1 := by
  have hP := hk.2.1
  unfold f_X11_entries sen_
  rw [ipd_c hm.1.1]
  rcases nat_ix x (n := P.length) (by omega) with ⟨e1, _⟩ | ⟨p, hp, rfl, e1, -⟩
  · rw [e1]
    exact ⟨m, rfl, hm⟩
  rcases nat_ix y (n := 100) (by omega) with ⟨e2, _⟩ | ⟨d, hd, rfl, e2, -⟩
  · rw [e1, e2]
    exact ⟨m, rfl, hm⟩
  obtain ⟨m1, q1, k9, k8⟩ := up9_ hk hO hst hm hd k
  have q2 := eah_c hk h2 hz hO hd k9 hp
  rw [e1, e2]
  simp only [Option.isSome_some, Bool.and_self, if_true]
  refine ⟨m1, ?_, k8⟩
  simp (disch := omega) only [↓reduceIte, ↓ns_m1, ns_let, ns_lef, ns_ltt, ns_ltf, ns_eqt, ns_eqf, ns_gd, nI_clamp, nI_add, pk_sub, pk_mul, ns_m1a, ns_m1b, ns_m1c, ns_m1d, ns_m1e, ns_m1f, ns_m1g, ns_un1, ns_un0, ns_day1, Option.bind_some, gi_si_self, gi_si_ne, gl_si, gi_sl, gl_sl_self, gl_sl_ne, if_true, if_false, ns_i0, ns_i1, ns_i2, ns_i3, ns_i4, ns_i5, ns_i6, ns_i7, ns_i8, ns_i9, ns_i10, ns_i11, ns_i12, ns_i13, ns_i20, ns_i23, ns_i24, ns_i31, ns_i50, ns_i60, ns_i99, ns_i100, ns_i144, ns_i200, ns_i255, ns_i700, ns_i880, ns_i899, ns_i900, ns_i901, ns_i999, ns_i1000, ns_i1440, ns_i4095, ns_i1000000, q1, q2]
theorem charge_c {W : List (Nat × Nat × Nat)} {P : pl_} {F : List fa_} {T : Nat} {C : List (Nat × Nat × Nat)} (hk : kok_ W P F T C) (h2 : rok2_ F) {z : Nat} (hz : z < 4096) {O : List od_} (hO : oko_ O) {st : Nat} (hst : st < 2 ^ 20) {m : fm_} (hm : kc8_ W z P F T C O st m) (x y k : Int32) : ∃ m1, f_X11_charge x y k m = some (sch_ W z P F C O x y k, m1) ∧ kc8_ W z P F T C O st m1 := by
  have hP := hk.2.1
  unfold f_X11_charge sch_
  rw [ipd_c hm.1.1]
  rcases nat_ix x (n := P.length) (by omega) with ⟨e1, _⟩ | ⟨p, hp, rfl, e1, -⟩
  · rw [e1]
    exact ⟨m, rfl, hm⟩
  rcases nat_ix y (n := 100) (by omega) with ⟨e2, _⟩ | ⟨d, hd, rfl, e2, -⟩
  · rw [e1, e2]
    exact ⟨m, rfl, hm⟩
  obtain ⟨m1, q1, k9, k8⟩ := up9_ hk hO hst hm hd k
  obtain ⟨m2, q2⟩ := sum_c hk h2 hz hO hd k9 hp (show d ≤ 100 by omega)
  have q2 : f_X2_sumOf (nI p) (nI d) (nI d) k m1 = some (nI (owe_ W z P F C O k d d p), m2) := q2
  rw [e1, e2]
  simp only [Option.isSome_some, Bool.and_self, if_true]
  refine ⟨m2, ?_, kc8_fr hO k8 (fr_X2_sumOf q2)⟩
  simp (disch := omega) only [↓reduceIte, ↓ns_m1, ns_let, ns_lef, ns_ltt, ns_ltf, ns_eqt, ns_eqf, ns_gd, nI_clamp, nI_add, pk_sub, pk_mul, ns_m1a, ns_m1b, ns_m1c, ns_m1d, ns_m1e, ns_m1f, ns_m1g, ns_un1, ns_un0, ns_day1, Option.bind_some, gi_si_self, gi_si_ne, gl_si, gi_sl, gl_sl_self, gl_sl_ne, if_true, if_false, ns_i0, ns_i1, ns_i2, ns_i3, ns_i4, ns_i5, ns_i6, ns_i7, ns_i8, ns_i9, ns_i10, ns_i11, ns_i12, ns_i13, ns_i20, ns_i23, ns_i24, ns_i31, ns_i50, ns_i60, ns_i99, ns_i100, ns_i144, ns_i200, ns_i255, ns_i700, ns_i880, ns_i899, ns_i900, ns_i901, ns_i999, ns_i1000, ns_i1440, ns_i4095, ns_i1000000, q1, q2]
theorem ifd_c (x y w : Int32) (m : fm_) : f_X11_isFleetAndDays x y w m = some (match nat_ x 10, nat_ y 100, nat_ w 100 with
  | some _, some a, some d => if a ≤ d then 1 else 0
  | _, _, _ => 0, m) := by
  unfold f_X11_isFleetAndDays
  have u := und_ x (n := 10) m
  have u : f_X11_isUnder x 10 m = some (bu_ x 10, m) := u
  rw [u]
  simp only [Option.bind_some]
  rcases nat_ix x (n := 10) (by omega) with ⟨e1, _⟩ | ⟨f, hf, rfl, e1, -⟩
  · rw [if_pos (bu_0 e1), e1]
  rw [if_neg (bu_ne e1), e1, day_c]
  simp only [Option.bind_some]
  rcases nat_ix y (n := 100) (by omega) with ⟨e2, _⟩ | ⟨a, ha, rfl, e2, -⟩
  · rw [if_pos (bu_0 e2), e2]
  rw [if_neg (bu_ne e2), e2, day_c]
  simp only [Option.bind_some]
  rcases nat_ix w (n := 100) (by omega) with ⟨e3, _⟩ | ⟨d, hd, rfl, e3, -⟩
  · rw [if_pos (bu_0 e3), e3]
  rw [if_neg (bu_ne e3), e3]
  simp only
  by_cases c : a ≤ d
  · rw [if_pos c]
    simp (disch := omega) only [↓reduceIte, ↓ns_m1, ns_let, ns_lef, ns_ltt, ns_ltf, ns_eqt, ns_eqf, ns_gd, nI_clamp, nI_add, pk_sub, pk_mul, ns_m1a, ns_m1b, ns_m1c, ns_m1d, ns_m1e, ns_m1f, ns_m1g, ns_un1, ns_un0, ns_day1, Option.bind_some, gi_si_self, gi_si_ne, gl_si, gi_sl, gl_sl_self, gl_sl_ne, if_true, if_false, ns_i0, ns_i1, ns_i2, ns_i3, ns_i4, ns_i5, ns_i6, ns_i7, ns_i8, ns_i9, ns_i10, ns_i11, ns_i12, ns_i13, ns_i20, ns_i23, ns_i24, ns_i31, ns_i50, ns_i60, ns_i99, ns_i100, ns_i144, ns_i200, ns_i255, ns_i700, ns_i880, ns_i899, ns_i900, ns_i901, ns_i999, ns_i1000, ns_i1440, ns_i4095, ns_i1000000]
  · rw [if_neg c]
    simp (disch := omega) only [↓reduceIte, ↓ns_m1, ns_let, ns_lef, ns_ltt, ns_ltf, ns_eqt, ns_eqf, ns_gd, nI_clamp, nI_add, pk_sub, pk_mul, ns_m1a, ns_m1b, ns_m1c, ns_m1d, ns_m1e, ns_m1f, ns_m1g, ns_un1, ns_un0, ns_day1, Option.bind_some, gi_si_self, gi_si_ne, gl_si, gi_sl, gl_sl_self, gl_sl_ne, if_true, if_false, ns_i0, ns_i1, ns_i2, ns_i3, ns_i4, ns_i5, ns_i6, ns_i7, ns_i8, ns_i9, ns_i10, ns_i11, ns_i12, ns_i13, ns_i20, ns_i23, ns_i24, ns_i31, ns_i50, ns_i60, ns_i99, ns_i100, ns_i144, ns_i200, ns_i255, ns_i700, ns_i880, ns_i899, ns_i900, ns_i901, ns_i999, ns_i1000, ns_i1440, ns_i4095, ns_i1000000]
theorem account_c {W : List (Nat × Nat × Nat)} {P : pl_} {F : List fa_} {T : Nat} {C : List (Nat × Nat × Nat)} (hk : kok_ W P F T C) (h2 : rok2_ F) {z : Nat} (hz : z < 4096) {O : List od_} (hO : oko_ O) {st : Nat} (hst : st < 2 ^ 20) {m : fm_} (hm : kc8_ W z P F T C O st m) (x y w k : Int32) : ∃ m1, f_X11_account x y w k m = some (sac_ W z P F C O x y w k, m1) ∧ kc8_ W z P F T C O st m1 := by
  unfold f_X11_account sac_
  rw [ifd_c]
  simp only [Option.bind_some]
  rcases nat_ix x (n := 10) (by omega) with ⟨e1, _⟩ | ⟨f, hf, rfl, e1, -⟩
  · rw [e1]; exact ⟨m, rfl, hm⟩
  rcases nat_ix y (n := 100) (by omega) with ⟨e2, _⟩ | ⟨a, ha, rfl, e2, -⟩
  · rw [e1, e2]; exact ⟨m, rfl, hm⟩
  rcases nat_ix w (n := 100) (by omega) with ⟨e3, _⟩ | ⟨d, hd, rfl, e3, -⟩
  · rw [e1, e2, e3]; exact ⟨m, rfl, hm⟩
  rw [e1, e2, e3]
  simp only
  by_cases c : a ≤ d
  · obtain ⟨m1, q1, k9, k8⟩ := up9_ hk hO hst hm hd k
    obtain ⟨m2, q2⟩ := flt_c hk h2 hz hO hd k9 hf ha
    simp only [if_pos c]
    refine ⟨m2, ?_, kc8_fr hO k8 (fr_X2_fleetSum q2)⟩
    simp (disch := omega) only [↓reduceIte, ↓ns_m1, ns_let, ns_lef, ns_ltt, ns_ltf, ns_eqt, ns_eqf, ns_gd, nI_clamp, nI_add, pk_sub, pk_mul, ns_m1a, ns_m1b, ns_m1c, ns_m1d, ns_m1e, ns_m1f, ns_m1g, ns_un1, ns_un0, ns_day1, Option.bind_some, gi_si_self, gi_si_ne, gl_si, gi_sl, gl_sl_self, gl_sl_ne, if_true, if_false, ns_i0, ns_i1, ns_i2, ns_i3, ns_i4, ns_i5, ns_i6, ns_i7, ns_i8, ns_i9, ns_i10, ns_i11, ns_i12, ns_i13, ns_i20, ns_i23, ns_i24, ns_i31, ns_i50, ns_i60, ns_i99, ns_i100, ns_i144, ns_i200, ns_i255, ns_i700, ns_i880, ns_i899, ns_i900, ns_i901, ns_i999, ns_i1000, ns_i1440, ns_i4095, ns_i1000000, q1, q2]
  · simp only [if_neg c]
    exact ⟨m, rfl, hm⟩
theorem back_c {W : List (Nat × Nat × Nat)} {P : pl_} {F : List fa_} {T : Nat} {C : List (Nat × Nat × Nat)} (hk : kok_ W P F T C) (h2 : rok2_ F) {z : Nat} (hz : z < 4096) {O : List od_} (hO : oko_ O) {st : Nat} (hst : st < 2 ^ 20) {m : fm_} (hm : kc8_ W z P F T C O st m) (x y w k l : Int32) : ∃ m1, f_X11_back x y w k l m = some (sbk_ W z P F C O x y w k l, m1) ∧ kc8_ W z P F T C O st m1 := by
  unfold f_X11_back sbk_
  rw [ifd_c]
  simp only [Option.bind_some]
  rcases nat_ix x (n := 10) (by omega) with ⟨e1, _⟩ | ⟨f, hf, rfl, e1, -⟩
  · rw [e1]; exact ⟨m, rfl, hm⟩
  rcases nat_ix y (n := 100) (by omega) with ⟨e2, _⟩ | ⟨a, ha, rfl, e2, -⟩
  · rw [e1, e2]; exact ⟨m, rfl, hm⟩
  rcases nat_ix w (n := 100) (by omega) with ⟨e3, _⟩ | ⟨d, hd, rfl, e3, -⟩
  · rw [e1, e2, e3]; exact ⟨m, rfl, hm⟩
  rw [e1, e2, e3]
  simp only
  by_cases c : a ≤ d
  · obtain ⟨m1, q1, k9, k8⟩ := up9_ hk hO hst hm hd k
    obtain ⟨m2, q2⟩ := flt_c hk h2 hz hO hd k9 hf ha
    have k82 := kc8_fr hO k8 (fr_X2_fleetSum q2)
    obtain ⟨m3, q3, k93, k83⟩ := up9_ hk hO hst k82 hd l
    obtain ⟨m4, q4⟩ := flt_c hk h2 hz hO hd k93 hf ha
    simp only [if_pos c]
    rw [if_neg (show ¬ (1 : Int32) = 0 by decide), q1]
    simp only [Option.bind_some]
    rw [q2]
    simp only [Option.bind_some]
    rw [q3]
    simp only [Option.bind_some]
    rw [q4]
    exact ⟨m4, rfl, kc8_fr hO k83 (fr_X2_fleetSum q4)⟩
  · simp only [if_neg c]
    exact ⟨m, rfl, hm⟩
