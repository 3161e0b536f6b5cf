/-! ===== plates, what is untold: the class ===== -/
theorem wiq_82 {m m1 : fm_} {w : List (Nat × Nat × Nat)} (hs : sa_ w m m1) (h : (w.all fun q => decide (q.2.1 < 82) || decide (86 < q.1)) = true) : ∀ a k, 82 ≤ a → a ≤ 86 → gi_ m1 a k = gi_ m a k := fun a k h1 h2 => by
  refine sa_gi hs ?_
  cases e : wi_ w a k with
  | false => rfl
  | true =>
    obtain ⟨q, hq, q1, q2, _⟩ := wi_mem.mp e
    have := List.all_eq_true.mp h q hq
    rw [Bool.or_eq_true, decide_eq_true_eq, decide_eq_true_eq] at this
    omega
theorem spl_m1 {P : pl_} (hP : P.length ≤ 10) {x : Int64} {f : Int32} (h : (spl_ P x f).1 = -1) : (spl_ P x f).2 = P := by
  unfold spl_ at h ⊢
  cases e : nat_ f 10 with
  | none => rfl
  | some k =>
    rw [e] at h
    simp only at h ⊢
    by_cases c1 : P.length = 10
    · rw [if_pos c1]
    rw [if_neg c1] at h ⊢
    by_cases c2 : okp_ x = false
    · rw [if_pos c2]
    rw [if_neg c2] at h ⊢
    by_cases c3 : has_ (x &&& 281474976710655) P = true
    · rw [if_pos c3]
    rw [if_neg c3] at h
    have h : nI P.length = M1_ := h
    have := ns_m1b (a := P.length) (by omega)
    rw [eq_comm] at h
    rw [this] at h
    exact h.elim
theorem spl_len {P : pl_} (hP : P.length ≤ 10) (x : Int64) (f : Int32) : (spl_ P x f).2.length ≤ 10 := by
  unfold spl_
  cases e : nat_ f 10 with
  | none => exact hP
  | some k =>
    simp only
    by_cases c1 : P.length = 10
    · rw [if_pos c1]; exact hP
    rw [if_neg c1]
    by_cases c2 : okp_ x = false
    · rw [if_pos c2]; exact hP
    rw [if_neg c2]
    by_cases c3 : has_ (x &&& 281474976710655) P = true
    · rw [if_pos c3]; exact hP
    rw [if_neg c3]
    show (P ++ [_]).length ≤ 10
    rw [List.length_append]
    show P.length + 1 ≤ 10
    omega
theorem platek_c {W : List (Nat × Nat × Nat)} {P : pl_} {F : List fa_} {T : Nat} {C : List (Nat × Nat × Nat)} (hk : kok_ W P F T C) {z : Nat} {O : List od_} (hO : oko_ O) {st : Nat} (hst : st < 2 ^ 20) {m : fm_} (hm : kc8_ W z P F T C O st m) (x : Int64) (f : Int32) : ∃ m1 st1, f_X11_plate x f m = some ((spl_ P x f).1, m1) ∧ kc8_ W z (spl_ P x f).2 F T C O st1 m1 ∧ st1 ≤ st + 1 := by
  obtain ⟨⟨k1, k2, k3, k4, k5⟩, hz, hl, hc⟩ := id hm
  obtain ⟨m1, e1, p1⟩ := plate_c k1 x f
  have hs := fr_X11_plate e1
  have kw : kwc_ W (spl_ P x f).2 F T C m1 := ⟨p1, fc_ag k2 (sa_ag (by rfl) hs), fun d hd => ⟨(sa_gi hs (by rfl)).trans (k3 d hd).1, fun j r hj => (sa_gi hs (by rfl)).trans ((k3 d hd).2 j r hj)⟩, camc_ag k4 (sa_ag (by rfl) hs), tb_sa k5 hs (fun k => by rfl)⟩
  have hz1 : gi_ m1 6 4 = nI z := (sa_gi hs (by rfl)).trans hz
  have hl1 : loc_ O m1 := loc_ag hO.1.1 hl (sa_ag (by rfl) hs)
  have e2 := e1
  unfold f_X11_plate at e2
  cases e3 : f_X7_add (x &&& 281474976710655) f m with
  | none => rw [e3] at e2; cases e2
  | some q =>
    obtain ⟨v, m2⟩ := q
    have s2 := fr_X7_add e3
    rw [e3] at e2
    simp only [Option.bind_some] at e2
    by_cases c : v = -1
    · rw [if_pos c] at e2
      injection e2 with e2
      injection e2 with e4 e5
      subst e5
      have ev : (spl_ P x f).1 = -1 := e4.symm.trans c
      refine ⟨m2, st, e1, ⟨kw, hz1, hl1, ?_⟩, by omega⟩
      rw [spl_m1 hk.2.1 ev]
      exact cch_sa hc (wiq_82 s2 (by rfl))
    · rw [if_neg c] at e2
      have g3 : gi_ m2 82 3 = nI st := (wiq_82 s2 (by rfl) _ _ (by omega) (by omega)).trans hc.1
      have fg : f_X6_forget m2 = some (nI 0, si_ m2 82 3 (nI (st + 1))) := by
        unfold f_X6_forget
        simp (disch := omega) only [↓reduceIte, ↓ns_m1, ns_let, ns_lef, ns_ltt, ns_ltf, ns_eqt, ns_eqf, ns_gd, nI_clamp, nI_add, pk_sub, pk_mul, ns_m1a, ns_m1b, ns_m1c, ns_m1d, ns_m1e, ns_m1f, ns_m1g, ns_un1, ns_un0, ns_day1, Option.bind_some, gi_si_self, gi_si_ne, gl_si, gi_sl, gl_sl_self, gl_sl_ne, if_true, if_false, ns_i0, ns_i1, ns_i2, ns_i3, ns_i4, ns_i5, ns_i6, ns_i7, ns_i8, ns_i9, ns_i10, ns_i11, ns_i12, ns_i13, ns_i20, ns_i23, ns_i24, ns_i31, ns_i50, ns_i60, ns_i99, ns_i100, ns_i144, ns_i200, ns_i255, ns_i700, ns_i880, ns_i899, ns_i900, ns_i901, ns_i999, ns_i1000, ns_i1440, ns_i4095, ns_i1000000, g3]
      rw [fg] at e2
      simp only [Option.bind_some] at e2
      injection e2 with e2
      injection e2 with e4 e5
      subst e5
      refine ⟨_, st + 1, e1, ⟨kw, hz1, hl1, cch_new hc gi_si_self fun d => ?_⟩, Nat.le_refl _⟩
      rw [gi_si_ne (by omega)]
      exact wiq_82 s2 (by rfl) _ _ (by omega) (by omega)
/-! untold -/
def same_ (F G : List fa_) : Prop := G.length = F.length ∧ ∀ (r : Nat) (q : fa_), G[r]? = some q → ∃ u, F[r]? = some u ∧ u.1 = q.1 ∧ u.2.2.2 = q.2.2.2
theorem same_r (F : List fa_) : same_ F F := ⟨rfl, fun _ q h => ⟨q, h, rfl, rfl⟩⟩
theorem same_un {F : List fa_} {T : Nat} (hF : F.length ≤ 200) (x : Int32) : same_ F (sun_ F T x).2 := by
  unfold sun_
  rcases nat_ix x (n := F.length) (by omega) with ⟨e1, _⟩ | ⟨j, hj, rfl, e1, -⟩
  · rw [e1]; exact same_r F
  rw [e1]
  simp only
  have e := List.getElem?_eq_getElem hj
  generalize F[j] = q at e
  rw [e]
  simp only
  unfold sun1_
  by_cases c : q.1 = 3
  · rw [if_pos c]; exact same_r F
  rw [if_neg c]
  cases hu : q.2.2.1 with
  | some t => exact same_r F
  | none =>
    refine ⟨List.length_set, fun r u hr => ?_⟩
    rcases set_get hj hr with ⟨q1, q2⟩ | ⟨_, q2⟩
    · subst q1
      subst q2
      exact ⟨q, e, rfl, rfl⟩
    · exact ⟨u, q2, rfl, rfl⟩
theorem same_is {F G : List fa_} (h : same_ F G) (d r : Nat) : isrd_ G d r = isrd_ F d r := by
  unfold isrd_
  cases e : G[r]? with
  | some q =>
    obtain ⟨u, e1, e2, e3⟩ := h.2 r q e
    rw [e1]
    simp only
    rw [e2, e3]
  | none =>
    have hr : F.length ≤ r := by
      have := List.getElem?_eq_none_iff.mp e
      rw [h.1] at this
      exact this
    rw [List.getElem?_eq_none hr]
theorem same_rd {F G : List fa_} (h : same_ F G) (d : Nat) : ∀ n, rdn_ G d n = rdn_ F d n
  | 0 => rfl
  | n + 1 => by
    unfold rdn_
    rw [same_rd h d n, same_is h]
theorem same_kok {W : List (Nat × Nat × Nat)} {P : pl_} {F G : List fa_} {T : Nat} {C : List (Nat × Nat × Nat)} (h : same_ F G) (hG : fw_ G T) (hk : kok_ W P F T C) (h2 : rok2_ F) : kok_ W P G T C ∧ rok2_ G := by
  obtain ⟨hW, hP, hF, hC, hR⟩ := hk
  have key : ∀ q ∈ G, q.1 = 1 → ∃ u ∈ F, u.1 = 1 ∧ u.2.2.2 = q.2.2.2 := fun q hq h1 => by
    obtain ⟨j, hj⟩ := List.getElem?_of_mem hq
    obtain ⟨u, e1, e2, e3⟩ := h.2 j q hj
    exact ⟨u, List.mem_of_getElem? e1, e2.trans h1, e3⟩
  refine ⟨⟨hW, hP, hG, hC, fun q hq h1 => ?_, fun d => ?_⟩, fun q hq h1 => ?_⟩
  · obtain ⟨u, u1, u2, u3⟩ := key q hq h1
    have := hR.1 u u1 u2
    rw [u3] at this
    exact this
  · rw [same_rd h, h.1]; exact hR.2 d
  · obtain ⟨u, u1, u2, u3⟩ := key q hq h1
    have := h2 u u1 u2
    rw [u3] at this
    exact this
theorem untellk_c {W : List (Nat × Nat × Nat)} {P : pl_} {F : List fa_} {T : Nat} {C : List (Nat × Nat × Nat)} (hk : kok_ W P F T C) {z : Nat} {O : List od_} (hO : oko_ O) {st : Nat} (hst : st < 2 ^ 20) {m : fm_} (hm : kc8_ W z P F T C O st m) (x : Int32) : ∃ m1, f_X11_untell x m = some ((sun_ F T x).1, m1) ∧ kc8_ W z P (sun_ F T x).2 T C O (st + 1) m1 := by
  obtain ⟨⟨k1, k2, k3, k4, k5⟩, hz, hl, hc⟩ := id hm
  obtain ⟨m1, e1, f1⟩ := untell_c hk.2.2.1 k2 x
  have hs := fr_X11_untell e1
  have sm := same_un (T := T) hk.2.2.1.1 x
  have hz1 : gi_ m1 6 4 = nI z := (sa_gi hs (by rfl)).trans hz
  have hl1 : loc_ O m1 := loc_ag hO.1.1 hl (sa_ag (by rfl) hs)
  refine ⟨m1, e1, ⟨pc_ag k1 (sa_ag (by rfl) hs), f1, fun d hd => ?_, camc_ag k4 (sa_ag (by rfl) hs), tb_sa k5 hs (fun k => by rfl)⟩, hz1, hl1, ?_⟩
  · rw [sm.1, same_rd sm]
    exact ⟨(sa_gi hs (by rfl)).trans (k3 d hd).1, fun j r hj => (sa_gi hs (by rfl)).trans ((k3 d hd).2 j r hj)⟩
  · have e2 := e1
    unfold f_X11_untell at e2
    have fg : f_X6_forget m = some (nI 0, si_ m 82 3 (nI (st + 1))) := by
      have := hc.1
      unfold f_X6_forget
      simp (disch := omega) only [↓reduceIte, ↓ns_m1, ns_let, ns_lef, ns_ltt, ns_ltf, ns_eqt, ns_eqf, ns_gd, nI_clamp, nI_add, pk_sub, pk_mul, ns_m1a, ns_m1b, ns_m1c, ns_m1d, ns_m1e, ns_m1f, ns_m1g, ns_un1, ns_un0, ns_day1, Option.bind_some, gi_si_self, gi_si_ne, gl_si, gi_sl, gl_sl_self, gl_sl_ne, if_true, if_false, ns_i0, ns_i1, ns_i2, ns_i3, ns_i4, ns_i5, ns_i6, ns_i7, ns_i8, ns_i9, ns_i10, ns_i11, ns_i12, ns_i13, ns_i20, ns_i23, ns_i24, ns_i31, ns_i50, ns_i60, ns_i99, ns_i100, ns_i144, ns_i200, ns_i255, ns_i700, ns_i880, ns_i899, ns_i900, ns_i901, ns_i999, ns_i1000, ns_i1440, ns_i4095, ns_i1000000, this]
    rw [fg] at e2
    simp only [Option.bind_some] at e2
    cases e3 : f_X1_takeBack x (si_ m 82 3 (nI (st + 1))) with
    | none => rw [e3] at e2; cases e2
    | some q =>
      obtain ⟨v, m2⟩ := q
      have s2 := fr_X1_takeBack e3
      rw [e3] at e2
      simp only [Option.bind_some] at e2
      have e5 : m2 = m1 := by
        unfold gd_ at e2
        cases c : bl_ v with
        | true =>
          rw [c] at e2
          injection e2 with e2
          injection e2
        | false => rw [c] at e2; cases e2
      subst e5
      have w := wiq_82 s2 (by rfl)
      refine cch_new hc ((w _ _ (by omega) (by omega)).trans gi_si_self) fun d => ?_
      refine (w _ _ (by omega) (by omega)).trans ?_
      rw [gi_si_ne (by omega)]
