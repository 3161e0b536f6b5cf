/-! ===== inside, the class ===== -/
/-- the sum over readings and the next ones -/
def stl_ (W : List (Nat × Nat × Nat)) (z : Nat) (F : List fa_) (C : List (Nat × Nat × Nat)) (b : Bool) : Nat → List Nat → Nat
  | _, [] => 0
  | r, s :: l => stv_ W z F C r s b + stl_ W z F C b s l
def sts_ (W : List (Nat × Nat × Nat)) (z : Nat) (F : List fa_) (C : List (Nat × Nat × Nat)) (b : Bool) (L : List Nat) : Nat := match L with
  | [] => 0
  | r :: l => stl_ W z F C b r l
/-- is a reading of this plate? -/
def opr_ (W : List (Nat × Nat × Nat)) (P : pl_) (F : List fa_) (C : List (Nat × Nat × Nat)) (d : Nat) (k : Int32) (p r : Nat) : Bool := decide (owr_ W P F C d k r = nI p)
theorem opr_in {W : List (Nat × Nat × Nat)} {P : pl_} {F : List fa_} {C : List (Nat × Nat × Nat)} {d : Nat} {k : Int32} {p r : Nat} (hp : p < 10) (h : opr_ W P F C d k p r = true) : r ∈ rdk_ F d k F.length := by
  have h := of_decide_eq_true h
  by_cases c : r ∈ rdk_ F d k F.length
  · exact c
  · unfold owr_ at h
    rw [pos_n c] at h
    have h : M1_ = nI p := h
    have := ns_m1b (a := p) (by omega)
    rw [this] at h
    exact h.elim
theorem opr_eq {W : List (Nat × Nat × Nat)} {P : pl_} {F : List fa_} {C : List (Nat × Nat × Nat)} {d : Nat} {k : Int32} {p : Nat} (hp : p < 10) {mn : Nat → Nat} : gof_ mn (opr_ W P F C d k p) (rdk_ F d k F.length) = gof_ mn (opr_ W P F C d k p) (rdn_ F d F.length) :=
  gof_filter (rdn_ F d F.length) [] fun r hr h => (List.mem_filter.mp (opr_in hp h)).2
theorem gathof_ {W : List (Nat × Nat × Nat)} {P : pl_} {F : List fa_} {T : Nat} {C : List (Nat × Nat × Nat)} (hk : kok_ W P F T C) {m : fm_} (hm : kwc_ W P F T C m) {d p : Nat} (hd : d < 100) (hp : p < P.length) {k : Int32} (hc : chs_ W P F C d k m) : ∃ m1, f_X6_gatherOf (nI p) (nI d) m = some (0, m1) ∧ kwc_ W P F T C m1 ∧ rowc_ (gof_ (mnt_ F) (opr_ W P F C d k p) (rdn_ F d F.length)) m1 := by
  obtain ⟨hW, hP, hF, hC, hR⟩ := id hk
  have h7 := hR.2 d
  have hl := hF.1
  have mem : ∀ r, r ∈ rdn_ F d F.length → ∃ q, F[r]? = some q ∧ q.1 = 1 := fun r hr => by
    obtain ⟨q, e, e1, _⟩ := isrd_u (rdn_u _ _ hr).2
    exact ⟨q, e, e1⟩
  obtain ⟨m1, e1, w1, r1, _⟩ := lp0_ (n := (rdn_ F d F.length).length) (F := fun i m => f_X6_gatherOf_7 (nI p) (nI d) (nI i) m) (I := fun i m' => kwc_ W P F T C m' ∧ rowc_ (gof_ (mnt_ F) (opr_ W P F C d k p) ((rdn_ F d F.length).take i)) m' ∧ sa_ [(87, 87, 0), (82, 82, 10)] m m') (fun i m0 hi hI => by
    obtain ⟨i1, i2, i3⟩ := hI
    have er := List.getElem?_eq_getElem hi
    have et := List.take_succ_eq_append_getElem hi
    generalize (rdn_ F d F.length)[i] = r at er et
    have hr := List.mem_of_getElem? er
    obtain ⟨q, hq, hq1⟩ := mem r hr
    obtain ⟨_, _, _, _, _, r2, ir⟩ := fr_c hk i1 hq hq1
    have rn := ron_ i1.2.2.1 hd
    have ro := ro1_ i1.2.2.1 hd h7 er
    have ow : gi_ m0 86 r = owr_ W P F C d k r := (sa_gi i3 (by rfl)).trans (owr_c hc hr)
    have co : f_X6_chosenOwner (nI r) m0 = some (owr_ W P F C d k r, m0) := by
      unfold f_X6_chosenOwner
      simp (disch := omega) only [↓reduceIte, ↓ns_m1, ns_let, ns_lef, ns_ltt, ns_ltf, ns_eqt, ns_eqf, ns_gd, nI_clamp, nI_add, pk_sub, pk_mul, ns_m1a, ns_m1b, ns_m1c, ns_m1d, ns_m1e, ns_m1f, ns_m1g, ns_un1, ns_un0, ns_day1, Option.bind_some, gi_si_self, gi_si_ne, gl_si, gi_sl, gl_sl_self, gl_sl_ne, if_true, if_false, ns_i0, ns_i1, ns_i2, ns_i3, ns_i4, ns_i5, ns_i6, ns_i7, ns_i8, ns_i9, ns_i10, ns_i11, ns_i12, ns_i13, ns_i20, ns_i23, ns_i24, ns_i31, ns_i50, ns_i60, ns_i99, ns_i100, ns_i144, ns_i200, ns_i255, ns_i700, ns_i880, ns_i899, ns_i900, ns_i901, ns_i999, ns_i1000, ns_i1440, ns_i4095, ns_i1000000, ir, ow]
    obtain ⟨gl1, gl2, gl3⟩ := gof_ok (mn := mnt_ F) (op := opr_ W P F C d k p) _ ((rdn_ F d F.length).take i) rfl
    have tl : ((rdn_ F d F.length).take i).length ≤ i := List.length_take_le _ _
    show ∃ s', f_X6_gatherOf_7 (nI p) (nI d) (nI i) m0 = f_X6_gatherOf_7 (nI p) (nI d) (nI (i + 1)) s' ∧ kwc_ W P F T C s' ∧ rowc_ (gof_ (mnt_ F) (opr_ W P F C d k p) ((rdn_ F d F.length).take (i + 1))) s' ∧ sa_ [(87, 87, 0), (82, 82, 10)] m s'
    rw [et, gof_app, e_X6_gatherOf_7]
    by_cases c : owr_ W P F C d k r = nI p
    · rw [if_pos (show opr_ W P F C d k p r = true from decide_eq_true c)]
      generalize gof_ (mnt_ F) (opr_ W P F C d k p) ((rdn_ F d F.length).take i) = L at i2 gl1 gl2 gl3
      obtain ⟨m', e2, h1, h2, h3⟩ := g58_ hk (L := L) (by omega) (fun u hu => mem u (List.mem_of_mem_take (gl3 u hu))) hq hq1 (x1 := nI p) (x2 := nI d) (x3 := nI i) L.length m0 (Nat.le_refl _) i1 i2.1 ⟨fun j u hj hu => by rw [Nat.zero_add]; exact i2.2 j u hu, fun j u hj hu => by have := (List.getElem?_eq_some_iff.mp hu).1; omega⟩
      have e2 : f_X6_gatherOf_58 (nI p) (nI d) (nI i) (nI r) (nI L.length) m0 = f_X6_gatherOf_7 (nI p) (nI d) (nI i + nI 1) m' := e2
      rw [nI_add] at e2
      refine ⟨m', ?_, h1, h2, sa_t i3 h3⟩
      simp (disch := omega) only [↓reduceIte, ↓ns_m1, ns_let, ns_lef, ns_ltt, ns_ltf, ns_eqt, ns_eqf, ns_gd, nI_clamp, nI_add, pk_sub, pk_mul, ns_m1a, ns_m1b, ns_m1c, ns_m1d, ns_m1e, ns_m1f, ns_m1g, ns_un1, ns_un0, ns_day1, Option.bind_some, gi_si_self, gi_si_ne, gl_si, gi_sl, gl_sl_self, gl_sl_ne, if_true, if_false, ns_i0, ns_i1, ns_i2, ns_i3, ns_i4, ns_i5, ns_i6, ns_i7, ns_i8, ns_i9, ns_i10, ns_i11, ns_i12, ns_i13, ns_i20, ns_i23, ns_i24, ns_i31, ns_i50, ns_i60, ns_i99, ns_i100, ns_i144, ns_i200, ns_i255, ns_i700, ns_i880, ns_i899, ns_i900, ns_i901, ns_i999, ns_i1000, ns_i1440, ns_i4095, ns_i1000000, rn, ro, co, c, i2.1, e2]
    · rw [if_neg (show ¬ opr_ W P F C d k p r = true from fun q => c (of_decide_eq_true q))]
      refine ⟨m0, ?_, i1, i2, i3⟩
      simp (disch := omega) only [↓reduceIte, ↓ns_m1, ns_let, ns_lef, ns_ltt, ns_ltf, ns_eqt, ns_eqf, ns_gd, nI_clamp, nI_add, pk_sub, pk_mul, ns_m1a, ns_m1b, ns_m1c, ns_m1d, ns_m1e, ns_m1f, ns_m1g, ns_un1, ns_un0, ns_day1, Option.bind_some, gi_si_self, gi_si_ne, gl_si, gi_sl, gl_sl_self, gl_sl_ne, if_true, if_false, ns_i0, ns_i1, ns_i2, ns_i3, ns_i4, ns_i5, ns_i6, ns_i7, ns_i8, ns_i9, ns_i10, ns_i11, ns_i12, ns_i13, ns_i20, ns_i23, ns_i24, ns_i31, ns_i50, ns_i60, ns_i99, ns_i100, ns_i144, ns_i200, ns_i255, ns_i700, ns_i880, ns_i899, ns_i900, ns_i901, ns_i999, ns_i1000, ns_i1440, ns_i4095, ns_i1000000, rn, ro, co, c]) (s := si_ m 82 9 (nI 0)) ⟨kwc_ag hm (sa_ag (w := [(82, 82, 10)]) (by rfl) (sa_si (by rfl) sa_rf)), ⟨by rw [gi_si_self]; rfl, fun j r hj => by cases hj⟩, sa_si (by rfl) sa_rf⟩
  rw [List.take_length] at r1
  have e1 : f_X6_gatherOf_7 (nI p) (nI d) (nI 0) (si_ m 82 9 (nI 0)) = f_X6_gatherOf_7 (nI p) (nI d) (nI (rdn_ F d F.length).length) m1 := e1
  refine ⟨m1, ?_, w1, r1⟩
  show f_X6_gatherOf_7 (nI p) (nI d) (nI 0) (si_ m 82 9 (nI 0)) = _
  rw [e1, e_X6_gatherOf_7]
  simp (disch := omega) only [↓reduceIte, ↓ns_m1, ns_let, ns_lef, ns_ltt, ns_ltf, ns_eqt, ns_eqf, ns_gd, nI_clamp, nI_add, pk_sub, pk_mul, ns_m1a, ns_m1b, ns_m1c, ns_m1d, ns_m1e, ns_m1f, ns_m1g, ns_un1, ns_un0, ns_day1, Option.bind_some, gi_si_self, gi_si_ne, gl_si, gi_sl, gl_sl_self, gl_sl_ne, if_true, if_false, ns_i0, ns_i1, ns_i2, ns_i3, ns_i4, ns_i5, ns_i6, ns_i7, ns_i8, ns_i9, ns_i10, ns_i11, ns_i12, ns_i13, ns_i20, ns_i23, ns_i24, ns_i31, ns_i50, ns_i60, ns_i99, ns_i100, ns_i144, ns_i200, ns_i255, ns_i700, ns_i880, ns_i899, ns_i900, ns_i901, ns_i999, ns_i1000, ns_i1440, ns_i4095, ns_i1000000, ron_ w1.2.2.1 hd]
theorem st19_ {W : List (Nat × Nat × Nat)} {P : pl_} {F : List fa_} {T : Nat} {C : List (Nat × Nat × Nat)} (hk : kok_ W P F T C) {z : Nat} (hz : z < 4096) {m : fm_} (hm : kwc_ W P F T C m) (hs : stw_ W z m) {L : List Nat} (hL : rowc_ L m) (h7 : L.length ≤ 7) (hr : ∀ r ∈ L, ∃ q, F[r]? = some q ∧ q.1 = 1) (so : srt_ (mnt_ F) L) {x1 x2 x4 : Int32} (b : Bool) : ∀ (l : List Nat) (r j acc : Nat), L.drop j = r :: l → f_X6_stay_19 x1 x2 (b01_ b) x4 (nI acc) (nI (j + 1)) m = some (nI (acc + stl_ W z F C b r l), m) := by
  intro l
  induction l with
  | nil =>
    intro r j acc h
    obtain ⟨h1, h2, h3⟩ := drop_s h
    have : L.length ≤ j + 1 := by
      have := congrArg List.length h2
      rw [List.length_drop, List.length_nil] at this
      omega
    rw [e_X6_stay_19]
    simp (disch := omega) only [↓reduceIte, ↓ns_m1, ns_let, ns_lef, ns_ltt, ns_ltf, ns_eqt, ns_eqf, ns_gd, nI_clamp, nI_add, pk_sub, pk_mul, ns_m1a, ns_m1b, ns_m1c, ns_m1d, ns_m1e, ns_m1f, ns_m1g, ns_un1, ns_un0, ns_day1, Option.bind_some, gi_si_self, gi_si_ne, gl_si, gi_sl, gl_sl_self, gl_sl_ne, if_true, if_false, ns_i0, ns_i1, ns_i2, ns_i3, ns_i4, ns_i5, ns_i6, ns_i7, ns_i8, ns_i9, ns_i10, ns_i11, ns_i12, ns_i13, ns_i20, ns_i23, ns_i24, ns_i31, ns_i50, ns_i60, ns_i99, ns_i100, ns_i144, ns_i200, ns_i255, ns_i700, ns_i880, ns_i899, ns_i900, ns_i901, ns_i999, ns_i1000, ns_i1440, ns_i4095, ns_i1000000, hL.1]
    rfl
  | cons s l ih =>
    intro r j acc h
    obtain ⟨h1, h2, h3⟩ := drop_s h
    obtain ⟨k1, k2, k3⟩ := drop_s h2
    obtain ⟨q, hq, hq1⟩ := hr r (List.mem_of_getElem? h1)
    obtain ⟨u, hu, hu1⟩ := hr s (List.mem_of_getElem? k1)
    have g1 := hL.2 j r h1
    have g2 := hL.2 (j + 1) s k1
    have sb := stb_c hk hz hm hs hq hq1 hu hu1 (so j (j + 1) r s (by omega) h1 k1) b
    have es : j + 1 - 1 = j := by omega
    have ih := ih s (j + 1) (acc + stv_ W z F C r s b) h2
    rw [e_X6_stay_19]
    simp (disch := omega) only [↓reduceIte, ↓ns_m1, ns_let, ns_lef, ns_ltt, ns_ltf, ns_eqt, ns_eqf, ns_gd, nI_clamp, nI_add, pk_sub, pk_mul, ns_m1a, ns_m1b, ns_m1c, ns_m1d, ns_m1e, ns_m1f, ns_m1g, ns_un1, ns_un0, ns_day1, Option.bind_some, gi_si_self, gi_si_ne, gl_si, gi_sl, gl_sl_self, gl_sl_ne, if_true, if_false, ns_i0, ns_i1, ns_i2, ns_i3, ns_i4, ns_i5, ns_i6, ns_i7, ns_i8, ns_i9, ns_i10, ns_i11, ns_i12, ns_i13, ns_i20, ns_i23, ns_i24, ns_i31, ns_i50, ns_i60, ns_i99, ns_i100, ns_i144, ns_i200, ns_i255, ns_i700, ns_i880, ns_i899, ns_i900, ns_i901, ns_i999, ns_i1000, ns_i1440, ns_i4095, ns_i1000000, hL.1, es, g1, g2, sb]
    rw [ih]
    show some (nI (acc + stv_ W z F C r s b + stl_ W z F C b s l), m) = some (nI (acc + (stv_ W z F C r s b + stl_ W z F C b s l)), m)
    rw [Nat.add_assoc]
def sin_ (W : List (Nat × Nat × Nat)) (z : Nat) (P : pl_) (F : List fa_) (C : List (Nat × Nat × Nat)) (x y : Int32) (b : Bool) (k : Int32) : Int32 := match nat_ x P.length, nat_ y 100 with
  | some p, some d => nI (sts_ W z F C b (gof_ (mnt_ F) (opr_ W P F C d k p) (rdn_ F d F.length)))
  | _, _ => -1
theorem stw_sa {W : List (Nat × Nat × Nat)} {z : Nat} {m m1 : fm_} (h : stw_ W z m) {w : List (Nat × Nat × Nat)} (hs : sa_ w m m1) (h1 : wi_ w 6 4 = false) (h2 : ∀ k, wi_ w 16 k = false) (h3 : ∀ k, wi_ w 17 k = false) : stw_ W z m1 := ⟨(sa_gi hs h1).trans h.1, tb_sa h.2.1 hs h2, tb_sa h.2.2 hs h3⟩
theorem ins_c {W : List (Nat × Nat × Nat)} {P : pl_} {F : List fa_} {T : Nat} {C : List (Nat × Nat × Nat)} (hk : kok_ W P F T C) {z : Nat} (hz : z < 4096) {st : Nat} (hst : st < 2 ^ 20) {m : fm_} (hm : kwc_ W P F T C m) (hs : stw_ W z m) (hc : cch_ W P F C st m) (x y : Int32) (b : Bool) (k : Int32) : ∃ m1, f_X11_inside x y (b01_ b) k m = some (sin_ W z P F C x y b k, m1) ∧ kwc_ W P F T C m1 ∧ cch_ W P F C st m1 := by
  have hPl := hk.2.1
  unfold f_X11_inside sin_
  rw [ipd_c hm.1]
  rcases nat_ix x (n := P.length) (by omega) with ⟨e1, _⟩ | ⟨p, hp, rfl, e1, -⟩
  · rw [e1]
    exact ⟨m, rfl, hm, hc⟩
  rcases nat_ix y (n := 100) (by omega) with ⟨e2, _⟩ | ⟨d, hd, rfl, e2, -⟩
  · rw [e1, e2]
    exact ⟨m, rfl, hm, hc⟩
  obtain ⟨m1, q1, w1, c1, h1⟩ := choose_c hk hst hm hc hd k
  have f1 := fr_X6_choose q1
  have s1 : stw_ W z m1 := stw_sa hs f1 (by rfl) (fun k => by rfl) (fun k => by rfl)
  obtain ⟨m2, q2, w2, r2⟩ := gathof_ hk w1 hd hp h1
  have f2 := fr_X6_gatherOf q2
  have s2 : stw_ W z m2 := stw_sa s1 f2 (by rfl) (fun k => by rfl) (fun k => by rfl)
  have c2 : cch_ W P F C st m2 := ⟨(sa_gi f2 (by rfl)).trans c1.1, fun e he => by
    obtain ⟨sd, t1, t2, t3⟩ := c1.2 e he
    refine ⟨sd, (sa_gi f2 (by rfl)).trans t1, t2, fun q => ?_⟩
    rw [show gi_ m2 84 e = gi_ m1 84 e from sa_gi f2 (by rfl)]
    exact chs_cg (t3 q) (sa_gi f2 (by rfl)) fun r _ => sa_gi f2 (by rfl)⟩
  obtain ⟨g1, g2, g3⟩ := gof_ok (mn := mnt_ F) (op := opr_ W P F C d k p) _ (rdn_ F d F.length) rfl
  have h7 := hk.2.2.2.2.2 d
  have mem : ∀ r, r ∈ rdn_ F d F.length → ∃ q, F[r]? = some q ∧ q.1 = 1 := fun r hr => by
    obtain ⟨q, e, e1, _⟩ := isrd_u (rdn_u _ _ hr).2
    exact ⟨q, e, e1⟩
  rw [e1, e2]
  simp only [Option.isSome_some, Bool.and_self, if_true]
  generalize gof_ (mnt_ F) (opr_ W P F C d k p) (rdn_ F d F.length) = L at r2 g1 g2 g3
  have fin : f_X6_stay_19 (nI p) (nI d) (b01_ b) k (nI 0) (nI 1) m2 = some (nI (sts_ W z F C b L), m2) := by
    cases hL : L with
    | nil =>
      rw [hL] at r2
      rw [e_X6_stay_19]
      have h9 : gi_ m2 82 9 = nI 0 := r2.1
      simp (disch := omega) only [↓reduceIte, ↓ns_m1, ns_let, ns_lef, ns_ltt, ns_ltf, ns_eqt, ns_eqf, ns_gd, nI_clamp, nI_add, pk_sub, pk_mul, ns_m1a, ns_m1b, ns_m1c, ns_m1d, ns_m1e, ns_m1f, ns_m1g, ns_un1, ns_un0, ns_day1, Option.bind_some, gi_si_self, gi_si_ne, gl_si, gi_sl, gl_sl_self, gl_sl_ne, if_true, if_false, ns_i0, ns_i1, ns_i2, ns_i3, ns_i4, ns_i5, ns_i6, ns_i7, ns_i8, ns_i9, ns_i10, ns_i11, ns_i12, ns_i13, ns_i20, ns_i23, ns_i24, ns_i31, ns_i50, ns_i60, ns_i99, ns_i100, ns_i144, ns_i200, ns_i255, ns_i700, ns_i880, ns_i899, ns_i900, ns_i901, ns_i999, ns_i1000, ns_i1440, ns_i4095, ns_i1000000, h9]
      rfl
    | cons r l =>
      have := st19_ hk hz w2 s2 r2 (by omega) (fun r hr => mem r (g3 r hr)) g2 (x1 := nI p) (x2 := nI d) (x4 := k) b l r 0 0 (by rw [hL]; rfl)
      simp only [Nat.zero_add] at this
      exact this
  refine ⟨m2, ?_, w2, c2⟩
  unfold f_X6_stay
  simp (disch := omega) only [↓reduceIte, ↓ns_m1, ns_let, ns_lef, ns_ltt, ns_ltf, ns_eqt, ns_eqf, ns_gd, nI_clamp, nI_add, pk_sub, pk_mul, ns_m1a, ns_m1b, ns_m1c, ns_m1d, ns_m1e, ns_m1f, ns_m1g, ns_un1, ns_un0, ns_day1, Option.bind_some, gi_si_self, gi_si_ne, gl_si, gi_sl, gl_sl_self, gl_sl_ne, if_true, if_false, ns_i0, ns_i1, ns_i2, ns_i3, ns_i4, ns_i5, ns_i6, ns_i7, ns_i8, ns_i9, ns_i10, ns_i11, ns_i12, ns_i13, ns_i20, ns_i23, ns_i24, ns_i31, ns_i50, ns_i60, ns_i99, ns_i100, ns_i144, ns_i200, ns_i255, ns_i700, ns_i880, ns_i899, ns_i900, ns_i901, ns_i999, ns_i1000, ns_i1440, ns_i4095, ns_i1000000, q1, q2, fin]
