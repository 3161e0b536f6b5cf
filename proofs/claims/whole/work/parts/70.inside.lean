/-! ===== inside, the reference ===== -/
def ownm_ (L : List Nat) (m : fm_) : Prop := gi_ m 106 80 = nI L.length ∧ ∀ j r : Nat, L[j]? = some r → gi_ m 155 j = nI r
theorem l33_ {W : List (Nat × Nat × Nat)} {P : pl_} {F : List fa_} {T : Nat} {C : List (Nat × Nat × Nat)} (hk : kok_ W P F T C) {L : List Nat} (hL : L.length < 8) (hLr : ∀ r ∈ L, ∃ q, F[r]? = some q ∧ q.1 = 1) {x i : Nat} {qx : fa_} (hx : F[x]? = some qx) (hx1 : qx.1 = 1) (hi : i < 8) {x1 : Int32} : ∀ (pl : Nat) (m : fm_), pl ≤ L.length → kwm_ W P F T C m → gi_ m 106 80 = nI L.length → gi_ m 151 i = nI x → shf_ 155 0 L pl m → ∃ m', f_X12_line_33 x1 (nI i) (nI pl) m = f_X12_line_7 x1 (nI (i + 1)) m' ∧ kwm_ W P F T C m' ∧ ownm_ (insat_ L x (plcn_ (mnt_ F) L x pl)) m' ∧ sa_ [(155, 155, 0), (106, 106, 81)] m m' := by
  have fin : ∀ (pl : Nat) (m : fm_), pl ≤ L.length → kwm_ W P F T C m → shf_ 155 0 L pl m → kwm_ W P F T C (si_ (si_ m 155 pl (nI x)) 106 80 (nI (L.length + 1))) ∧ ownm_ (insat_ L x pl) (si_ (si_ m 155 pl (nI x)) 106 80 (nI (L.length + 1))) ∧ sa_ [(155, 155, 0), (106, 106, 81)] m (si_ (si_ m 155 pl (nI x)) 106 80 (nI (L.length + 1))) := fun pl m hpl hm hs => by
    have sA : sa_ [(155, 155, 0), (106, 106, 81)] m (si_ (si_ m 155 pl (nI x)) 106 80 (nI (L.length + 1))) := sa_si (by rfl) (sa_si (by rfl) sa_rf)
    refine ⟨kwm_ag hm (sa_ag (by rfl) sA), ⟨by rw [gi_si_self, insat_len hpl], fun j r hj => ?_⟩, sA⟩
    rcases insat_get hpl hj with ⟨a1, a2⟩ | ⟨a1, a2⟩ | ⟨a1, a2⟩
    · have := hs.1 j r a1 a2
      rw [Nat.zero_add] at this
      simp (disch := omega) only [↓reduceIte, ↓ns_m1, ns_let, ns_lef, ns_ltt, ns_ltf, ns_eqt, ns_eqf, ns_gd, nI_clamp, nI_add, pk_sub, pk_mul, ns_m1a, ns_m1b, ns_m1c, ns_m1d, ns_m1e, ns_m1f, ns_m1g, ns_un1, ns_un0, ns_day1, Option.bind_some, gi_si_self, gi_si_ne, gl_si, gi_sl, gl_sl_self, gl_sl_ne, if_true, if_false, ns_i0, ns_i1, ns_i2, ns_i3, ns_i4, ns_i5, ns_i6, ns_i7, ns_i8, ns_i9, ns_i10, ns_i11, ns_i12, ns_i13, ns_i20, ns_i23, ns_i24, ns_i31, ns_i50, ns_i60, ns_i99, ns_i100, ns_i144, ns_i200, ns_i255, ns_i700, ns_i880, ns_i899, ns_i900, ns_i901, ns_i999, ns_i1000, ns_i1440, ns_i4095, ns_i1000000, this]
    · rw [a1, a2]
      simp (disch := omega) only [↓reduceIte, ↓ns_m1, ns_let, ns_lef, ns_ltt, ns_ltf, ns_eqt, ns_eqf, ns_gd, nI_clamp, nI_add, pk_sub, pk_mul, ns_m1a, ns_m1b, ns_m1c, ns_m1d, ns_m1e, ns_m1f, ns_m1g, ns_un1, ns_un0, ns_day1, Option.bind_some, gi_si_self, gi_si_ne, gl_si, gi_sl, gl_sl_self, gl_sl_ne, if_true, if_false, ns_i0, ns_i1, ns_i2, ns_i3, ns_i4, ns_i5, ns_i6, ns_i7, ns_i8, ns_i9, ns_i10, ns_i11, ns_i12, ns_i13, ns_i20, ns_i23, ns_i24, ns_i31, ns_i50, ns_i60, ns_i99, ns_i100, ns_i144, ns_i200, ns_i255, ns_i700, ns_i880, ns_i899, ns_i900, ns_i901, ns_i999, ns_i1000, ns_i1440, ns_i4095, ns_i1000000]
    · have := hs.2 (j - 1) r (by omega) a2
      rw [Nat.zero_add, show j - 1 + 1 = j by omega] at this
      simp (disch := omega) only [↓reduceIte, ↓ns_m1, ns_let, ns_lef, ns_ltt, ns_ltf, ns_eqt, ns_eqf, ns_gd, nI_clamp, nI_add, pk_sub, pk_mul, ns_m1a, ns_m1b, ns_m1c, ns_m1d, ns_m1e, ns_m1f, ns_m1g, ns_un1, ns_un0, ns_day1, Option.bind_some, gi_si_self, gi_si_ne, gl_si, gi_sl, gl_sl_self, gl_sl_ne, if_true, if_false, ns_i0, ns_i1, ns_i2, ns_i3, ns_i4, ns_i5, ns_i6, ns_i7, ns_i8, ns_i9, ns_i10, ns_i11, ns_i12, ns_i13, ns_i20, ns_i23, ns_i24, ns_i31, ns_i50, ns_i60, ns_i99, ns_i100, ns_i144, ns_i200, ns_i255, ns_i700, ns_i880, ns_i899, ns_i900, ns_i901, ns_i999, ns_i1000, ns_i1440, ns_i4095, ns_i1000000, this]
  intro pl
  induction pl with
  | zero =>
    intro m hpl hm h9 hx151 hs
    refine ⟨_, ?_, fin 0 m hpl hm hs⟩
    rw [e_X12_line_33]
    simp (disch := omega) only [↓reduceIte, ↓ns_m1, ns_let, ns_lef, ns_ltt, ns_ltf, ns_eqt, ns_eqf, ns_gd, nI_clamp, nI_add, pk_sub, pk_mul, ns_m1a, ns_m1b, ns_m1c, ns_m1d, ns_m1e, ns_m1f, ns_m1g, ns_un1, ns_un0, ns_day1, Option.bind_some, gi_si_self, gi_si_ne, gl_si, gi_sl, gl_sl_self, gl_sl_ne, if_true, if_false, ns_i0, ns_i1, ns_i2, ns_i3, ns_i4, ns_i5, ns_i6, ns_i7, ns_i8, ns_i9, ns_i10, ns_i11, ns_i12, ns_i13, ns_i20, ns_i23, ns_i24, ns_i31, ns_i50, ns_i60, ns_i99, ns_i100, ns_i144, ns_i200, ns_i255, ns_i700, ns_i880, ns_i899, ns_i900, ns_i901, ns_i999, ns_i1000, ns_i1440, ns_i4095, ns_i1000000, h9, hx151]
  | succ pl ih =>
    intro m hpl hm h9 hx151 hs
    have ej := List.getElem?_eq_getElem (show pl < L.length by omega)
    generalize L[pl] = u at ej
    obtain ⟨qu, hu, hu1⟩ := hLr u (List.mem_of_getElem? ej)
    obtain ⟨mu, mu2, _, _, u2⟩ := fr_m hk hm hu hu1
    obtain ⟨mx, mx2, _, _, x2⟩ := fr_m hk hm hx hx1
    have gu := hs.1 pl u (by omega) ej
    rw [Nat.zero_add] at gu
    have ep : pl + 1 - 1 = pl := by omega
    unfold plcn_
    rw [rg_s ej]
    by_cases c : mnt_ F u ≤ mnt_ F x
    · rw [if_pos c]
      refine ⟨_, ?_, fin (pl + 1) m hpl hm hs⟩
      rw [e_X12_line_33]
      simp (disch := omega) only [↓reduceIte, ↓ns_m1, ns_let, ns_lef, ns_ltt, ns_ltf, ns_eqt, ns_eqf, ns_gd, nI_clamp, nI_add, pk_sub, pk_mul, ns_m1a, ns_m1b, ns_m1c, ns_m1d, ns_m1e, ns_m1f, ns_m1g, ns_un1, ns_un0, ns_day1, Option.bind_some, gi_si_self, gi_si_ne, gl_si, gi_sl, gl_sl_self, gl_sl_ne, if_true, if_false, ns_i0, ns_i1, ns_i2, ns_i3, ns_i4, ns_i5, ns_i6, ns_i7, ns_i8, ns_i9, ns_i10, ns_i11, ns_i12, ns_i13, ns_i20, ns_i23, ns_i24, ns_i31, ns_i50, ns_i60, ns_i99, ns_i100, ns_i144, ns_i200, ns_i255, ns_i700, ns_i880, ns_i899, ns_i900, ns_i901, ns_i999, ns_i1000, ns_i1440, ns_i4095, ns_i1000000, ep, gu, hx151, mu, mx, h9]
    · rw [if_neg c]
      have sA : sa_ [(155, 155, 0)] m (si_ m 155 (pl + 1) (nI u)) := sa_si (by rfl) sa_rf
      obtain ⟨m', e1, h1, h2, h3⟩ := ih (si_ m 155 (pl + 1) (nI u)) (by omega) (kwm_ag hm (sa_ag (by rfl) sA)) ((gi_si_ne (by omega)).trans h9) ((gi_si_ne (by omega)).trans hx151) ⟨fun j r hj hr => by
        have := hs.1 j r (by omega) hr
        rw [Nat.zero_add] at this ⊢
        rw [gi_si_ne (by omega)]
        exact this, fun j r hj hr => by
        by_cases e : j = pl
        · rw [e] at hr ⊢
          rw [ej] at hr
          cases hr
          rw [Nat.zero_add, gi_si_self]
        · have := hs.2 j r (by omega) hr
          rw [Nat.zero_add] at this ⊢
          rw [gi_si_ne (by omega)]
          exact this⟩
      refine ⟨m', ?_, h1, h2, sa_t (sa_up (by rfl) sA) h3⟩
      rw [e_X12_line_33]
      simp (disch := omega) only [↓reduceIte, ↓ns_m1, ns_let, ns_lef, ns_ltt, ns_ltf, ns_eqt, ns_eqf, ns_gd, nI_clamp, nI_add, pk_sub, pk_mul, ns_m1a, ns_m1b, ns_m1c, ns_m1d, ns_m1e, ns_m1f, ns_m1g, ns_un1, ns_un0, ns_day1, Option.bind_some, gi_si_self, gi_si_ne, gl_si, gi_sl, gl_sl_self, gl_sl_ne, if_true, if_false, ns_i0, ns_i1, ns_i2, ns_i3, ns_i4, ns_i5, ns_i6, ns_i7, ns_i8, ns_i9, ns_i10, ns_i11, ns_i12, ns_i13, ns_i20, ns_i23, ns_i24, ns_i31, ns_i50, ns_i60, ns_i99, ns_i100, ns_i144, ns_i200, ns_i255, ns_i700, ns_i880, ns_i899, ns_i900, ns_i901, ns_i999, ns_i1000, ns_i1440, ns_i4095, ns_i1000000, ep, gu, hx151, mu, mx, e1]
/-- what the reference holds of a plate's readings comes from what it knows -/
theorem knm_ow {W : List (Nat × Nat × Nat)} {P : pl_} {F : List fa_} {C : List (Nat × Nat × Nat)} {d : Nat} {k : Int32} {m : fm_} (h : knm_ W P F C (rdk_ F d k F.length) m) {j r : Nat} (hj : (rdk_ F d k F.length)[j]? = some r) : gi_ m 153 j = owr_ W P F C d k r := by
  rw [h.2.2 j (List.getElem?_eq_some_iff.mp hj).1]
  unfold owr_
  rw [pos_s (fun i hi => rdk_inj hi hj) hj]
theorem line_ {W : List (Nat × Nat × Nat)} {P : pl_} {F : List fa_} {T : Nat} {C : List (Nat × Nat × Nat)} (hk : kok_ W P F T C) {m : fm_} (hm : kwm_ W P F T C m) {d p : Nat} {k : Int32} (hn : knm_ W P F C (rdk_ F d k F.length) m) : ∃ m1, f_X12_line (nI p) m = some (0, m1) ∧ kwm_ W P F T C m1 ∧ ownm_ (gof_ (mnt_ F) (opr_ W P F C d k p) (rdk_ F d k F.length)) m1 := by
  obtain ⟨hW, hP, hF, hC, hRk⟩ := id hk
  have hR := rds_rdk hRk d k
  have hl7 := hR.1
  obtain ⟨m1, e1, w1, r1, f1⟩ := lp0_ (n := (rdk_ F d k F.length).length) (F := fun i m => f_X12_line_7 (nI p) (nI i) m) (I := fun i m' => kwm_ W P F T C m' ∧ ownm_ (gof_ (mnt_ F) (opr_ W P F C d k p) ((rdk_ F d k F.length).take i)) m' ∧ sa_ [(155, 155, 0), (106, 106, 81)] m m') (fun i m0 hi hI => by
    obtain ⟨i1, i2, i3⟩ := hI
    have er := List.getElem?_eq_getElem hi
    have et := List.take_succ_eq_append_getElem hi
    generalize (rdk_ F d k F.length)[i] = r at er et
    have hr := List.mem_of_getElem? er
    obtain ⟨q, hq, hq1⟩ := hR.2 r hr
    have ow : gi_ m0 153 i = owr_ W P F C d k r := (sa_gi i3 (by rfl)).trans (knm_ow hn er)
    have g77 : gi_ m0 106 77 = nI (rdk_ F d k F.length).length := (sa_gi i3 (by rfl)).trans hn.1.1
    have g151 : gi_ m0 151 i = nI r := (sa_gi i3 (by rfl)).trans (hn.1.2 i r er)
    obtain ⟨gl1, gl2, gl3⟩ := gof_ok (mn := mnt_ F) (op := opr_ W P F C d k p) _ ((rdk_ F d k F.length).take i) rfl
    have tl : ((rdk_ F d k F.length).take i).length ≤ i := List.length_take_le _ _
    show ∃ s', f_X12_line_7 (nI p) (nI i) m0 = f_X12_line_7 (nI p) (nI (i + 1)) s' ∧ kwm_ W P F T C s' ∧ ownm_ (gof_ (mnt_ F) (opr_ W P F C d k p) ((rdk_ F d k F.length).take (i + 1))) s' ∧ sa_ [(155, 155, 0), (106, 106, 81)] m s'
    rw [et, gof_app, e_X12_line_7]
    by_cases c : owr_ W P F C d k r = nI p
    · rw [if_pos (show opr_ W P F C d k p r = true from decide_eq_true c)]
      generalize gof_ (mnt_ F) (opr_ W P F C d k p) ((rdk_ F d k F.length).take i) = L at i2 gl1 gl2 gl3
      obtain ⟨m', e2, h1, h2, h3⟩ := l33_ hk (L := L) (by omega) (fun u hu => hR.2 u (List.mem_of_mem_take (gl3 u hu))) hq hq1 (i := i) (by omega) (x1 := nI p) L.length m0 (Nat.le_refl _) i1 i2.1 g151 ⟨fun j u hj hu => by rw [Nat.zero_add]; exact i2.2 j u hu, fun j u hj hu => by have := (List.getElem?_eq_some_iff.mp hu).1; omega⟩
      refine ⟨m', ?_, h1, h2, sa_t i3 h3⟩
      simp (disch := omega) only [↓reduceIte, ↓ns_m1, ns_let, ns_lef, ns_ltt, ns_ltf, ns_eqt, ns_eqf, ns_gd, nI_clamp, nI_add, pk_sub, pk_mul, ns_m1a, ns_m1b, ns_m1c, ns_m1d, ns_m1e, ns_m1f, ns_m1g, ns_un1, ns_un0, ns_day1, Option.bind_some, gi_si_self, gi_si_ne, gl_si, gi_sl, gl_sl_self, gl_sl_ne, if_true, if_false, ns_i0, ns_i1, ns_i2, ns_i3, ns_i4, ns_i5, ns_i6, ns_i7, ns_i8, ns_i9, ns_i10, ns_i11, ns_i12, ns_i13, ns_i20, ns_i23, ns_i24, ns_i31, ns_i50, ns_i60, ns_i99, ns_i100, ns_i144, ns_i200, ns_i255, ns_i700, ns_i880, ns_i899, ns_i900, ns_i901, ns_i999, ns_i1000, ns_i1440, ns_i4095, ns_i1000000, g77, ow, c, i2.1, e2]
    · rw [if_neg (show ¬ opr_ W P F C d k p r = true from fun q => c (of_decide_eq_true q))]
      refine ⟨m0, ?_, i1, i2, i3⟩
      simp (disch := omega) only [↓reduceIte, ↓ns_m1, ns_let, ns_lef, ns_ltt, ns_ltf, ns_eqt, ns_eqf, ns_gd, nI_clamp, nI_add, pk_sub, pk_mul, ns_m1a, ns_m1b, ns_m1c, ns_m1d, ns_m1e, ns_m1f, ns_m1g, ns_un1, ns_un0, ns_day1, Option.bind_some, gi_si_self, gi_si_ne, gl_si, gi_sl, gl_sl_self, gl_sl_ne, if_true, if_false, ns_i0, ns_i1, ns_i2, ns_i3, ns_i4, ns_i5, ns_i6, ns_i7, ns_i8, ns_i9, ns_i10, ns_i11, ns_i12, ns_i13, ns_i20, ns_i23, ns_i24, ns_i31, ns_i50, ns_i60, ns_i99, ns_i100, ns_i144, ns_i200, ns_i255, ns_i700, ns_i880, ns_i899, ns_i900, ns_i901, ns_i999, ns_i1000, ns_i1440, ns_i4095, ns_i1000000, g77, ow, c]) (s := si_ m 106 80 (nI 0)) ⟨kwm_ag hm (sa_ag (w := [(106, 106, 81)]) (by rfl) (sa_si (by rfl) sa_rf)), ⟨by rw [gi_si_self]; rfl, fun j r hj => by cases hj⟩, sa_si (by rfl) sa_rf⟩
  rw [List.take_length] at r1
  have e1 : f_X12_line_7 (nI p) (nI 0) (si_ m 106 80 (nI 0)) = f_X12_line_7 (nI p) (nI (rdk_ F d k F.length).length) m1 := e1
  have g77 : gi_ m1 106 77 = nI (rdk_ F d k F.length).length := (sa_gi f1 (by rfl)).trans hn.1.1
  refine ⟨m1, ?_, w1, r1⟩
  show f_X12_line_7 (nI p) (nI 0) (si_ m 106 80 (nI 0)) = _
  rw [e1, e_X12_line_7]
  simp (disch := omega) only [↓reduceIte, ↓ns_m1, ns_let, ns_lef, ns_ltt, ns_ltf, ns_eqt, ns_eqf, ns_gd, nI_clamp, nI_add, pk_sub, pk_mul, ns_m1a, ns_m1b, ns_m1c, ns_m1d, ns_m1e, ns_m1f, ns_m1g, ns_un1, ns_un0, ns_day1, Option.bind_some, gi_si_self, gi_si_ne, gl_si, gi_sl, gl_sl_self, gl_sl_ne, if_true, if_false, ns_i0, ns_i1, ns_i2, ns_i3, ns_i4, ns_i5, ns_i6, ns_i7, ns_i8, ns_i9, ns_i10, ns_i11, ns_i12, ns_i13, ns_i20, ns_i23, ns_i24, ns_i31, ns_i50, ns_i60, ns_i99, ns_i100, ns_i144, ns_i200, ns_i255, ns_i700, ns_i880, ns_i899, ns_i900, ns_i901, ns_i999, ns_i1000, ns_i1440, ns_i4095, ns_i1000000, g77]
theorem by_m {W : List (Nat × Nat × Nat)} (hW : wok_ W) {z : Nat} (hz : z < 4096) {m : fm_} (h6 : gi_ m 106 31 = nI z) (ht : tb_ (ner_ W) 120 m) {a b : Nat} (ha : a < 12) (hb : b < 12) {n : Nat} (hn : n < 2) {S : Nat → Bool} (hS : ∀ p, S p = decide (bb_ z p = n)) : f_X12_by (nI a) (nI b) (nI n) m = some (nI (jb_ (ner_ W) S a b 12), m) := by
  obtain ⟨x, e, hx⟩ := lp0_ (n := 12) (F := fun p x => f_X12_by_8 (nI a) (nI b) (nI n) x (nI p) m) (I := fun p x => x = nI (jb_ (ner_ W) S a b p)) (fun p x hp hx => by
    have hx : x = nI (jb_ (ner_ W) S a b p) := hx
    subst hx
    have t1 := tb_c ht ha hp
    have t2 := tb_c ht hp hb
    have f1 := ner_far hW a p
    have f2 := ner_far hW p b
    have f3 := jb_far (ner_ W) S a b p
    have iz := isz_m hz h6 hp
    have bl := bb_lt z p
    show ∃ s', f_X12_by_8 (nI a) (nI b) (nI n) (nI (jb_ (ner_ W) S a b p)) (nI p) m = f_X12_by_8 (nI a) (nI b) (nI n) s' (nI (p + 1)) m ∧ s' = nI (if S p = true then min (jb_ (ner_ W) S a b p) (ner_ W a p + ner_ W p b) else jb_ (ner_ W) S a b p)
    rw [e_X12_by_8, hS p]
    by_cases c : bb_ z p = n
    · rw [decide_eq_true c]
      simp only [if_true]
      by_cases c2 : jb_ (ner_ W) S a b p ≤ ner_ W a p + ner_ W p b
      · simp (disch := omega) only [↓reduceIte, ↓ns_m1, ns_let, ns_lef, ns_ltt, ns_ltf, ns_eqt, ns_eqf, ns_gd, nI_clamp, nI_add, pk_sub, pk_mul, ns_m1a, ns_m1b, ns_m1c, ns_m1d, ns_m1e, ns_m1f, ns_m1g, ns_un1, ns_un0, ns_day1, Option.bind_some, gi_si_self, gi_si_ne, gl_si, gi_sl, gl_sl_self, gl_sl_ne, if_true, if_false, ns_i0, ns_i1, ns_i2, ns_i3, ns_i4, ns_i5, ns_i6, ns_i7, ns_i8, ns_i9, ns_i10, ns_i11, ns_i12, ns_i13, ns_i20, ns_i23, ns_i24, ns_i31, ns_i50, ns_i60, ns_i99, ns_i100, ns_i144, ns_i200, ns_i255, ns_i700, ns_i880, ns_i899, ns_i900, ns_i901, ns_i999, ns_i1000, ns_i1440, ns_i4095, ns_i1000000, t1, t2, iz]
        exact ⟨_, rfl, by rw [Nat.min_eq_left c2]⟩
      · simp (disch := omega) only [↓reduceIte, ↓ns_m1, ns_let, ns_lef, ns_ltt, ns_ltf, ns_eqt, ns_eqf, ns_gd, nI_clamp, nI_add, pk_sub, pk_mul, ns_m1a, ns_m1b, ns_m1c, ns_m1d, ns_m1e, ns_m1f, ns_m1g, ns_un1, ns_un0, ns_day1, Option.bind_some, gi_si_self, gi_si_ne, gl_si, gi_sl, gl_sl_self, gl_sl_ne, if_true, if_false, ns_i0, ns_i1, ns_i2, ns_i3, ns_i4, ns_i5, ns_i6, ns_i7, ns_i8, ns_i9, ns_i10, ns_i11, ns_i12, ns_i13, ns_i20, ns_i23, ns_i24, ns_i31, ns_i50, ns_i60, ns_i99, ns_i100, ns_i144, ns_i200, ns_i255, ns_i700, ns_i880, ns_i899, ns_i900, ns_i901, ns_i999, ns_i1000, ns_i1440, ns_i4095, ns_i1000000, t1, t2, iz]
        exact ⟨_, rfl, by rw [Nat.min_eq_right (by omega)]⟩
    · rw [decide_eq_false c]
      simp (disch := omega) only [↓reduceIte, ↓ns_m1, ns_let, ns_lef, ns_ltt, ns_ltf, ns_eqt, ns_eqf, ns_gd, nI_clamp, nI_add, pk_sub, pk_mul, ns_m1a, ns_m1b, ns_m1c, ns_m1d, ns_m1e, ns_m1f, ns_m1g, ns_un1, ns_un0, ns_day1, Option.bind_some, gi_si_self, gi_si_ne, gl_si, gi_sl, gl_sl_self, gl_sl_ne, if_true, if_false, ns_i0, ns_i1, ns_i2, ns_i3, ns_i4, ns_i5, ns_i6, ns_i7, ns_i8, ns_i9, ns_i10, ns_i11, ns_i12, ns_i13, ns_i20, ns_i23, ns_i24, ns_i31, ns_i50, ns_i60, ns_i99, ns_i100, ns_i144, ns_i200, ns_i255, ns_i700, ns_i880, ns_i899, ns_i900, ns_i901, ns_i999, ns_i1000, ns_i1440, ns_i4095, ns_i1000000, t1, t2, iz]
      exact ⟨_, rfl, rfl⟩) (s := nI 1000000) rfl
  have hx : x = nI (jb_ (ner_ W) S a b 12) := hx
  have e : f_X12_by_8 (nI a) (nI b) (nI n) (nI 1000000) (nI 0) m = f_X12_by_8 (nI a) (nI b) (nI n) x (nI 12) m := e
  show f_X12_by_8 (nI a) (nI b) (nI n) (nI 1000000) (nI 0) m = _
  rw [e, e_X12_by_8, hx]
  simp (disch := omega) only [↓reduceIte, ↓ns_m1, ns_let, ns_lef, ns_ltt, ns_ltf, ns_eqt, ns_eqf, ns_gd, nI_clamp, nI_add, pk_sub, pk_mul, ns_m1a, ns_m1b, ns_m1c, ns_m1d, ns_m1e, ns_m1f, ns_m1g, ns_un1, ns_un0, ns_day1, Option.bind_some, gi_si_self, gi_si_ne, gl_si, gi_sl, gl_sl_self, gl_sl_ne, if_true, if_false, ns_i0, ns_i1, ns_i2, ns_i3, ns_i4, ns_i5, ns_i6, ns_i7, ns_i8, ns_i9, ns_i10, ns_i11, ns_i12, ns_i13, ns_i20, ns_i23, ns_i24, ns_i31, ns_i50, ns_i60, ns_i99, ns_i100, ns_i144, ns_i200, ns_i255, ns_i700, ns_i880, ns_i899, ns_i900, ns_i901, ns_i999, ns_i1000, ns_i1440, ns_i4095, ns_i1000000]
theorem wit_m {W : List (Nat × Nat × Nat)} (hW : wok_ W) {z : Nat} (hz : z < 4096) {m : fm_} (h6 : gi_ m 106 31 = nI z) (ht : tb_ (ner_ W) 120 m) {F : List fa_} {C : List (Nat × Nat × Nat)} {r s : Nat} (hr : pnt_ F C r < 12) (hs : pnt_ F C s < 12) (hg : mnt_ F s ≤ 1440) (b : Bool) : f_X12_within (nI (pnt_ F C r)) (nI (pnt_ F C s)) (nI (mnt_ F s - mnt_ F r)) (b01_ b) m = some (nI (stv_ W z F C r s b), m) := by
  have zr := isz_m hz h6 hr
  have zs := isz_m hz h6 hs
  have hbr := bb_lt z (pnt_ F C r)
  have hbs := bb_lt z (pnt_ F C s)
  have b1 : f_X12_by (nI (pnt_ F C r)) (nI (pnt_ F C s)) (nI 1) m = some (nI (byz_ W z (pnt_ F C r) (pnt_ F C s)), m) := by_m hW hz h6 ht hr hs (n := 1) (by omega) (S := zb_ z) (fun p => rfl)
  have b0 : f_X12_by (nI (pnt_ F C r)) (nI (pnt_ F C s)) (nI 0) m = some (nI (byo_ W z (pnt_ F C r) (pnt_ F C s)), m) := by_m hW hz h6 ht hr hs (n := 0) (by omega) (S := fun p => !(zb_ z p)) (fun p => by
    have := bb_lt z p
    unfold zb_
    by_cases c : bb_ z p = 1
    · rw [decide_eq_true c, decide_eq_false (by omega)]; rfl
    · rw [decide_eq_false c, decide_eq_true (by omega)]; rfl)
  have f1 : byz_ W z (pnt_ F C r) (pnt_ F C s) ≤ 1000000 := jb_far _ _ _ _ _
  have f2 : byo_ W z (pnt_ F C r) (pnt_ F C s) ≤ 1000000 := jb_far _ _ _ _ _
  have e1t : b01_ true = nI 1 := rfl
  have e0t : b01_ false = nI 0 := rfl
  unfold f_X12_within stv_
  generalize byz_ W z (pnt_ F C r) (pnt_ F C s) = bz at b1 f1
  generalize byo_ W z (pnt_ F C r) (pnt_ F C s) = bo at b0 f2
  generalize hgg : mnt_ F s - mnt_ F r = g
  have hg : g ≤ 1440 := by omega
  by_cases c1 : bb_ z (pnt_ F C r) = 1
  · by_cases c2 : bb_ z (pnt_ F C s) = 1
    · cases b with
      | true =>
        simp only [c1, c2, if_true]
        simp (disch := omega) only [↓reduceIte, ↓ns_m1, ns_let, ns_lef, ns_ltt, ns_ltf, ns_eqt, ns_eqf, ns_gd, nI_clamp, nI_add, pk_sub, pk_mul, ns_m1a, ns_m1b, ns_m1c, ns_m1d, ns_m1e, ns_m1f, ns_m1g, ns_un1, ns_un0, ns_day1, Option.bind_some, gi_si_self, gi_si_ne, gl_si, gi_sl, gl_sl_self, gl_sl_ne, if_true, if_false, ns_i0, ns_i1, ns_i2, ns_i3, ns_i4, ns_i5, ns_i6, ns_i7, ns_i8, ns_i9, ns_i10, ns_i11, ns_i12, ns_i13, ns_i20, ns_i23, ns_i24, ns_i31, ns_i50, ns_i60, ns_i99, ns_i100, ns_i144, ns_i200, ns_i255, ns_i700, ns_i880, ns_i899, ns_i900, ns_i901, ns_i999, ns_i1000, ns_i1440, ns_i4095, ns_i1000000, zr, zs, c1, c2, b0, e1t]
      | false =>
        simp only [c1, c2, if_true, show ¬ (false = true) by decide, if_false]
        by_cases c3 : bo ≤ g
        · rw [Nat.min_eq_right c3]
          simp (disch := omega) only [↓reduceIte, ↓ns_m1, ns_let, ns_lef, ns_ltt, ns_ltf, ns_eqt, ns_eqf, ns_gd, nI_clamp, nI_add, pk_sub, pk_mul, ns_m1a, ns_m1b, ns_m1c, ns_m1d, ns_m1e, ns_m1f, ns_m1g, ns_un1, ns_un0, ns_day1, Option.bind_some, gi_si_self, gi_si_ne, gl_si, gi_sl, gl_sl_self, gl_sl_ne, if_true, if_false, ns_i0, ns_i1, ns_i2, ns_i3, ns_i4, ns_i5, ns_i6, ns_i7, ns_i8, ns_i9, ns_i10, ns_i11, ns_i12, ns_i13, ns_i20, ns_i23, ns_i24, ns_i31, ns_i50, ns_i60, ns_i99, ns_i100, ns_i144, ns_i200, ns_i255, ns_i700, ns_i880, ns_i899, ns_i900, ns_i901, ns_i999, ns_i1000, ns_i1440, ns_i4095, ns_i1000000, zr, zs, c1, c2, b0, e0t]
          rfl
        · rw [Nat.min_eq_left (by omega)]
          simp (disch := omega) only [↓reduceIte, ↓ns_m1, ns_let, ns_lef, ns_ltt, ns_ltf, ns_eqt, ns_eqf, ns_gd, nI_clamp, nI_add, pk_sub, pk_mul, ns_m1a, ns_m1b, ns_m1c, ns_m1d, ns_m1e, ns_m1f, ns_m1g, ns_un1, ns_un0, ns_day1, Option.bind_some, gi_si_self, gi_si_ne, gl_si, gi_sl, gl_sl_self, gl_sl_ne, if_true, if_false, ns_i0, ns_i1, ns_i2, ns_i3, ns_i4, ns_i5, ns_i6, ns_i7, ns_i8, ns_i9, ns_i10, ns_i11, ns_i12, ns_i13, ns_i20, ns_i23, ns_i24, ns_i31, ns_i50, ns_i60, ns_i99, ns_i100, ns_i144, ns_i200, ns_i255, ns_i700, ns_i880, ns_i899, ns_i900, ns_i901, ns_i999, ns_i1000, ns_i1440, ns_i4095, ns_i1000000, zr, zs, c1, c2, b0, e0t]
          rfl
    · have c20 : bb_ z (pnt_ F C s) = 0 := by omega
      cases b with
      | true =>
        simp only [c1, c20, if_true, show ¬ (0 : Nat) = 1 by omega, if_false]
        simp (disch := omega) only [↓reduceIte, ↓ns_m1, ns_let, ns_lef, ns_ltt, ns_ltf, ns_eqt, ns_eqf, ns_gd, nI_clamp, nI_add, pk_sub, pk_mul, ns_m1a, ns_m1b, ns_m1c, ns_m1d, ns_m1e, ns_m1f, ns_m1g, ns_un1, ns_un0, ns_day1, Option.bind_some, gi_si_self, gi_si_ne, gl_si, gi_sl, gl_sl_self, gl_sl_ne, if_true, if_false, ns_i0, ns_i1, ns_i2, ns_i3, ns_i4, ns_i5, ns_i6, ns_i7, ns_i8, ns_i9, ns_i10, ns_i11, ns_i12, ns_i13, ns_i20, ns_i23, ns_i24, ns_i31, ns_i50, ns_i60, ns_i99, ns_i100, ns_i144, ns_i200, ns_i255, ns_i700, ns_i880, ns_i899, ns_i900, ns_i901, ns_i999, ns_i1000, ns_i1440, ns_i4095, ns_i1000000, zr, zs, c1, c20, e1t]
      | false =>
        simp only [c1, c20, if_true, show ¬ (0 : Nat) = 1 by omega, show ¬ (false = true) by decide, if_false]
        simp (disch := omega) only [↓reduceIte, ↓ns_m1, ns_let, ns_lef, ns_ltt, ns_ltf, ns_eqt, ns_eqf, ns_gd, nI_clamp, nI_add, pk_sub, pk_mul, ns_m1a, ns_m1b, ns_m1c, ns_m1d, ns_m1e, ns_m1f, ns_m1g, ns_un1, ns_un0, ns_day1, Option.bind_some, gi_si_self, gi_si_ne, gl_si, gi_sl, gl_sl_self, gl_sl_ne, if_true, if_false, ns_i0, ns_i1, ns_i2, ns_i3, ns_i4, ns_i5, ns_i6, ns_i7, ns_i8, ns_i9, ns_i10, ns_i11, ns_i12, ns_i13, ns_i20, ns_i23, ns_i24, ns_i31, ns_i50, ns_i60, ns_i99, ns_i100, ns_i144, ns_i200, ns_i255, ns_i700, ns_i880, ns_i899, ns_i900, ns_i901, ns_i999, ns_i1000, ns_i1440, ns_i4095, ns_i1000000, zr, zs, c1, c20, e0t]
        rfl
  · have c10 : bb_ z (pnt_ F C r) = 0 := by omega
    by_cases c2 : bb_ z (pnt_ F C s) = 1
    · cases b with
      | true =>
        simp only [c10, c2, if_true, show ¬ (0 : Nat) = 1 by omega, if_false]
        simp (disch := omega) only [↓reduceIte, ↓ns_m1, ns_let, ns_lef, ns_ltt, ns_ltf, ns_eqt, ns_eqf, ns_gd, nI_clamp, nI_add, pk_sub, pk_mul, ns_m1a, ns_m1b, ns_m1c, ns_m1d, ns_m1e, ns_m1f, ns_m1g, ns_un1, ns_un0, ns_day1, Option.bind_some, gi_si_self, gi_si_ne, gl_si, gi_sl, gl_sl_self, gl_sl_ne, if_true, if_false, ns_i0, ns_i1, ns_i2, ns_i3, ns_i4, ns_i5, ns_i6, ns_i7, ns_i8, ns_i9, ns_i10, ns_i11, ns_i12, ns_i13, ns_i20, ns_i23, ns_i24, ns_i31, ns_i50, ns_i60, ns_i99, ns_i100, ns_i144, ns_i200, ns_i255, ns_i700, ns_i880, ns_i899, ns_i900, ns_i901, ns_i999, ns_i1000, ns_i1440, ns_i4095, ns_i1000000, zr, zs, c10, c2, e1t]
      | false =>
        simp only [c10, show ¬ (0 : Nat) = 1 by omega, show ¬ (false = true) by decide, if_false]
        simp (disch := omega) only [↓reduceIte, ↓ns_m1, ns_let, ns_lef, ns_ltt, ns_ltf, ns_eqt, ns_eqf, ns_gd, nI_clamp, nI_add, pk_sub, pk_mul, ns_m1a, ns_m1b, ns_m1c, ns_m1d, ns_m1e, ns_m1f, ns_m1g, ns_un1, ns_un0, ns_day1, Option.bind_some, gi_si_self, gi_si_ne, gl_si, gi_sl, gl_sl_self, gl_sl_ne, if_true, if_false, ns_i0, ns_i1, ns_i2, ns_i3, ns_i4, ns_i5, ns_i6, ns_i7, ns_i8, ns_i9, ns_i10, ns_i11, ns_i12, ns_i13, ns_i20, ns_i23, ns_i24, ns_i31, ns_i50, ns_i60, ns_i99, ns_i100, ns_i144, ns_i200, ns_i255, ns_i700, ns_i880, ns_i899, ns_i900, ns_i901, ns_i999, ns_i1000, ns_i1440, ns_i4095, ns_i1000000, zr, zs, c10, c2, e0t]
        rfl
    · have c20 : bb_ z (pnt_ F C s) = 0 := by omega
      cases b with
      | true =>
        simp only [c10, c20, if_true, show ¬ (0 : Nat) = 1 by omega, if_false]
        by_cases c3 : bz ≤ g
        · simp (disch := omega) only [↓reduceIte, ↓ns_m1, ns_let, ns_lef, ns_ltt, ns_ltf, ns_eqt, ns_eqf, ns_gd, nI_clamp, nI_add, pk_sub, pk_mul, ns_m1a, ns_m1b, ns_m1c, ns_m1d, ns_m1e, ns_m1f, ns_m1g, ns_un1, ns_un0, ns_day1, Option.bind_some, gi_si_self, gi_si_ne, gl_si, gi_sl, gl_sl_self, gl_sl_ne, if_true, if_false, ns_i0, ns_i1, ns_i2, ns_i3, ns_i4, ns_i5, ns_i6, ns_i7, ns_i8, ns_i9, ns_i10, ns_i11, ns_i12, ns_i13, ns_i20, ns_i23, ns_i24, ns_i31, ns_i50, ns_i60, ns_i99, ns_i100, ns_i144, ns_i200, ns_i255, ns_i700, ns_i880, ns_i899, ns_i900, ns_i901, ns_i999, ns_i1000, ns_i1440, ns_i4095, ns_i1000000, zr, zs, c10, c20, b1, e1t]
        · have e0 : g - bz = 0 := by omega
          simp (disch := omega) only [↓reduceIte, ↓ns_m1, ns_let, ns_lef, ns_ltt, ns_ltf, ns_eqt, ns_eqf, ns_gd, nI_clamp, nI_add, pk_sub, pk_mul, ns_m1a, ns_m1b, ns_m1c, ns_m1d, ns_m1e, ns_m1f, ns_m1g, ns_un1, ns_un0, ns_day1, Option.bind_some, gi_si_self, gi_si_ne, gl_si, gi_sl, gl_sl_self, gl_sl_ne, if_true, if_false, ns_i0, ns_i1, ns_i2, ns_i3, ns_i4, ns_i5, ns_i6, ns_i7, ns_i8, ns_i9, ns_i10, ns_i11, ns_i12, ns_i13, ns_i20, ns_i23, ns_i24, ns_i31, ns_i50, ns_i60, ns_i99, ns_i100, ns_i144, ns_i200, ns_i255, ns_i700, ns_i880, ns_i899, ns_i900, ns_i901, ns_i999, ns_i1000, ns_i1440, ns_i4095, ns_i1000000, zr, zs, c10, c20, b1, e1t, e0]
      | false =>
        simp only [c10, show ¬ (0 : Nat) = 1 by omega, show ¬ (false = true) by decide, if_false]
        simp (disch := omega) only [↓reduceIte, ↓ns_m1, ns_let, ns_lef, ns_ltt, ns_ltf, ns_eqt, ns_eqf, ns_gd, nI_clamp, nI_add, pk_sub, pk_mul, ns_m1a, ns_m1b, ns_m1c, ns_m1d, ns_m1e, ns_m1f, ns_m1g, ns_un1, ns_un0, ns_day1, Option.bind_some, gi_si_self, gi_si_ne, gl_si, gi_sl, gl_sl_self, gl_sl_ne, if_true, if_false, ns_i0, ns_i1, ns_i2, ns_i3, ns_i4, ns_i5, ns_i6, ns_i7, ns_i8, ns_i9, ns_i10, ns_i11, ns_i12, ns_i13, ns_i20, ns_i23, ns_i24, ns_i31, ns_i50, ns_i60, ns_i99, ns_i100, ns_i144, ns_i200, ns_i255, ns_i700, ns_i880, ns_i899, ns_i900, ns_i901, ns_i999, ns_i1000, ns_i1440, ns_i4095, ns_i1000000, zr, zs, c10, c20, b1, e0t]
        rfl
theorem in35_ {W : List (Nat × Nat × Nat)} {P : pl_} {F : List fa_} {T : Nat} {C : List (Nat × Nat × Nat)} (hk : kok_ W P F T C) {z : Nat} (hz : z < 4096) {m : fm_} (hm : kwm_ W P F T C m) (h6 : gi_ m 106 31 = nI z) {L : List Nat} (hL : ownm_ L m) (h7 : L.length ≤ 7) (hr : ∀ r ∈ L, ∃ q, F[r]? = some q ∧ q.1 = 1) (so : srt_ (mnt_ F) L) {x1 x2 x4 : Int32} (b : Bool) : ∀ (l : List Nat) (r j acc : Nat), L.drop j = r :: l → f_X12_inside_35 x1 x2 (b01_ b) x4 (nI acc) (nI (j + 1)) m = some (nI (acc + stl_ W z F C b r l), m) := by
  intro l
  induction l with
  | nil =>
    intro r j acc h
    obtain ⟨h1, h2, h3⟩ := drop_s h
    have : L.length ≤ j + 1 := by
      have := congrArg List.length h2
      rw [List.length_drop, List.length_nil] at this
      omega
    rw [e_X12_inside_35]
    simp (disch := omega) only [↓reduceIte, ↓ns_m1, ns_let, ns_lef, ns_ltt, ns_ltf, ns_eqt, ns_eqf, ns_gd, nI_clamp, nI_add, pk_sub, pk_mul, ns_m1a, ns_m1b, ns_m1c, ns_m1d, ns_m1e, ns_m1f, ns_m1g, ns_un1, ns_un0, ns_day1, Option.bind_some, gi_si_self, gi_si_ne, gl_si, gi_sl, gl_sl_self, gl_sl_ne, if_true, if_false, ns_i0, ns_i1, ns_i2, ns_i3, ns_i4, ns_i5, ns_i6, ns_i7, ns_i8, ns_i9, ns_i10, ns_i11, ns_i12, ns_i13, ns_i20, ns_i23, ns_i24, ns_i31, ns_i50, ns_i60, ns_i99, ns_i100, ns_i144, ns_i200, ns_i255, ns_i700, ns_i880, ns_i899, ns_i900, ns_i901, ns_i999, ns_i1000, ns_i1440, ns_i4095, ns_i1000000, hL.1]
    rfl
  | cons s l ih =>
    intro r j acc h
    obtain ⟨h1, h2, h3⟩ := drop_s h
    obtain ⟨k1, k2, k3⟩ := drop_s h2
    obtain ⟨q, hq, hq1⟩ := hr r (List.mem_of_getElem? h1)
    obtain ⟨u, hu, hu1⟩ := hr s (List.mem_of_getElem? k1)
    obtain ⟨mr, mr2, pr, pr2, r2⟩ := fr_m hk hm hq hq1
    obtain ⟨ms, ms2, ps, ps2, s2⟩ := fr_m hk hm hu hu1
    have g1 := hL.2 j r h1
    have g2 := hL.2 (j + 1) s k1
    have le := so j (j + 1) r s (by omega) h1 k1
    have sb := wit_m hk.1 hz h6 hm.2.2.2 pr2 ps2 ms2 b
    have es : j + 1 - 1 = j := by omega
    have ih := ih s (j + 1) (acc + stv_ W z F C r s b) h2
    rw [e_X12_inside_35]
    simp (disch := omega) only [↓reduceIte, ↓ns_m1, ns_let, ns_lef, ns_ltt, ns_ltf, ns_eqt, ns_eqf, ns_gd, nI_clamp, nI_add, pk_sub, pk_mul, ns_m1a, ns_m1b, ns_m1c, ns_m1d, ns_m1e, ns_m1f, ns_m1g, ns_un1, ns_un0, ns_day1, Option.bind_some, gi_si_self, gi_si_ne, gl_si, gi_sl, gl_sl_self, gl_sl_ne, if_true, if_false, ns_i0, ns_i1, ns_i2, ns_i3, ns_i4, ns_i5, ns_i6, ns_i7, ns_i8, ns_i9, ns_i10, ns_i11, ns_i12, ns_i13, ns_i20, ns_i23, ns_i24, ns_i31, ns_i50, ns_i60, ns_i99, ns_i100, ns_i144, ns_i200, ns_i255, ns_i700, ns_i880, ns_i899, ns_i900, ns_i901, ns_i999, ns_i1000, ns_i1440, ns_i4095, ns_i1000000, hL.1, es, g1, g2, pr, ps, mr, ms, sb]
    rw [ih]
    show some (nI (acc + stv_ W z F C r s b + stl_ W z F C b s l), m) = some (nI (acc + (stv_ W z F C r s b + stl_ W z F C b s l)), m)
    rw [Nat.add_assoc]
theorem ins_m {W : List (Nat × Nat × Nat)} {P : pl_} {F : List fa_} {T : Nat} {C : List (Nat × Nat × Nat)} (hk : kok_ W P F T C) {z : Nat} (hz : z < 4096) {m : fm_} (hm : kwm_ W P F T C m) (h6 : gi_ m 106 31 = nI z) (x y : Int32) (b : Bool) (k : Int32) : ∃ m1, f_X12_inside x y (b01_ b) k m = some (sin_ W z P F C x y b k, m1) ∧ kwm_ W P F T C m1 := by
  have hPl := hk.2.1
  unfold f_X12_inside sin_
  rw [isp_m hm.1]
  simp only [Option.bind_some]
  rcases nat_ix x (n := P.length) (by omega) with ⟨e1, _⟩ | ⟨p, hp, rfl, e1, -⟩
  · rw [if_pos (bu_0 e1), e1]
    exact ⟨m, rfl, hm⟩
  rw [if_neg (bu_ne e1), e1, day_m]
  simp only [Option.bind_some]
  rcases nat_ix y (n := 100) (by omega) with ⟨e2, _⟩ | ⟨d, hd, rfl, e2, -⟩
  · rw [if_pos (bu_0 e2), e2]
    exact ⟨m, rfl, hm⟩
  rw [if_neg (bu_ne e2), e2]
  obtain ⟨m1, q1, w1, k1⟩ := know_m hk hm hd k
  have f1 := fr_X12_know q1
  obtain ⟨m2, q2, w2, r2⟩ := line_ (p := p) hk w1 k1
  have f2 := fr_X12_line q2
  have h62 : gi_ m2 106 31 = nI z := ((sa_gi f2 (by rfl)).trans (sa_gi f1 (by rfl))).trans h6
  rw [opr_eq (by omega)] at r2
  obtain ⟨g1, g2, g3⟩ := gof_ok (mn := mnt_ F) (op := opr_ W P F C d k p) _ (rdn_ F d F.length) rfl
  have h7 := hk.2.2.2.2.2 d
  have mem : ∀ r, r ∈ rdn_ F d F.length → ∃ q, F[r]? = some q ∧ q.1 = 1 := fun r hr => by
    obtain ⟨q, e, e1, _⟩ := isrd_u (rdn_u _ _ hr).2
    exact ⟨q, e, e1⟩
  show ∃ m1, (Option.bind (f_X12_know (nI d) k m) _) = some (nI (sts_ W z F C b (gof_ (mnt_ F) (opr_ W P F C d k p) (rdn_ F d F.length))), m1) ∧ _
  generalize gof_ (mnt_ F) (opr_ W P F C d k p) (rdn_ F d F.length) = L at r2 g1 g2 g3
  have fin : f_X12_inside_35 (nI p) (nI d) (b01_ b) k (nI 0) (nI 1) m2 = some (nI (sts_ W z F C b L), m2) := by
    cases hL : L with
    | nil =>
      rw [hL] at r2
      rw [e_X12_inside_35]
      have h9 : gi_ m2 106 80 = nI 0 := r2.1
      simp (disch := omega) only [↓reduceIte, ↓ns_m1, ns_let, ns_lef, ns_ltt, ns_ltf, ns_eqt, ns_eqf, ns_gd, nI_clamp, nI_add, pk_sub, pk_mul, ns_m1a, ns_m1b, ns_m1c, ns_m1d, ns_m1e, ns_m1f, ns_m1g, ns_un1, ns_un0, ns_day1, Option.bind_some, gi_si_self, gi_si_ne, gl_si, gi_sl, gl_sl_self, gl_sl_ne, if_true, if_false, ns_i0, ns_i1, ns_i2, ns_i3, ns_i4, ns_i5, ns_i6, ns_i7, ns_i8, ns_i9, ns_i10, ns_i11, ns_i12, ns_i13, ns_i20, ns_i23, ns_i24, ns_i31, ns_i50, ns_i60, ns_i99, ns_i100, ns_i144, ns_i200, ns_i255, ns_i700, ns_i880, ns_i899, ns_i900, ns_i901, ns_i999, ns_i1000, ns_i1440, ns_i4095, ns_i1000000, h9]
      rfl
    | cons r l =>
      have := in35_ hk hz w2 h62 r2 (by omega) (fun r hr => mem r (g3 r hr)) g2 (x1 := nI p) (x2 := nI d) (x4 := k) b l r 0 0 (by rw [hL]; rfl)
      simp only [Nat.zero_add] at this
      exact this
  refine ⟨m2, ?_, w2⟩
  simp (disch := omega) only [↓reduceIte, ↓ns_m1, ns_let, ns_lef, ns_ltt, ns_ltf, ns_eqt, ns_eqf, ns_gd, nI_clamp, nI_add, pk_sub, pk_mul, ns_m1a, ns_m1b, ns_m1c, ns_m1d, ns_m1e, ns_m1f, ns_m1g, ns_un1, ns_un0, ns_day1, Option.bind_some, gi_si_self, gi_si_ne, gl_si, gi_sl, gl_sl_self, gl_sl_ne, if_true, if_false, ns_i0, ns_i1, ns_i2, ns_i3, ns_i4, ns_i5, ns_i6, ns_i7, ns_i8, ns_i9, ns_i10, ns_i11, ns_i12, ns_i13, ns_i20, ns_i23, ns_i24, ns_i31, ns_i50, ns_i60, ns_i99, ns_i100, ns_i144, ns_i200, ns_i255, ns_i700, ns_i880, ns_i899, ns_i900, ns_i901, ns_i999, ns_i1000, ns_i1440, ns_i4095, ns_i1000000, q1, q2, fin]
