/-! ===== the reference: steps, and what waits on a stack ===== -/
def dpk_ : List Nat → Nat
  | [] => 0
  | x :: K => (if x = 28 ∨ x = 20 then 1 else 0) + dpk_ K
theorem dpk_c {x : Nat} {K : List Nat} : dpk_ (x :: K) = (if x = 28 ∨ x = 20 then 1 else 0) + dpk_ K := rfl
theorem dpk_l : ∀ K : List Nat, dpk_ K ≤ K.length
  | [] => Nat.le_refl _
  | x :: K => by
    have := dpk_l K
    rw [dpk_c, List.length_cons]
    by_cases c : x = 28 ∨ x = 20
    · rw [if_pos c]; omega
    · rw [if_neg c]; omega
def rws_ (s : Nat) (S : cd_) (m : fm_) : Prop := ∀ i q, S[i]? = some q → gi_ m 122 (s + i) = nI q.1 ∧ (q.1 = 0 → gi_ m 123 (s + i) = nI q.2)
def rt0_ (L : List Nat) (j ol b u : Nat) (K : List Nat) (S : cd_) (ts : List tkn_) (m : fm_) : Prop := rsn_ L ts m ∧ gi_ m 106 33 = nI j ∧ gi_ m 106 54 = nI ol ∧ gi_ m 106 50 = nI u ∧ gi_ m 106 49 = nI (b + S.length) ∧ rws_ (700 * j + b) S m ∧ gi_ m 106 52 = nI K.length ∧ stk_ 135 (K.map nI) m ∧ gi_ m 106 53 = nI (dpk_ K)
def mfr_ (s : Nat) (m m1 : fm_) : Prop := ∀ a k, ¬ a = 135 → ¬ ((a = 122 ∨ a = 123) ∧ s ≤ k) → ¬ (a = 106 ∧ (k < 10 ∨ k = 49 ∨ k = 50 ∨ k = 52 ∨ k = 53)) → gi_ m1 a k = gi_ m a k
theorem mfr_r {s : Nat} {m : fm_} : mfr_ s m m := fun _ _ _ _ _ => rfl
theorem mfr_t {s : Nat} {m m1 m2 : fm_} (h : mfr_ s m m1) (k : mfr_ s m1 m2) : mfr_ s m m2 := fun a j h1 h2 h3 => (k a j h1 h2 h3).trans (h a j h1 h2 h3)
theorem mfr_w {s : Nat} {m m1 : fm_} (h : sa_ rfw_ m m1) : mfr_ s m m1 := fun a k h1 h2 h3 => rfw_g h a k (by omega)
theorem stk_si {a : Nat} {S : List Int32} {m : fm_} (h : stk_ a S m) {c k : Nat} {x : Int32} (hc : ¬ c = a) : stk_ a S (si_ m c k x) := fun j y hj => by
  rw [gi_si_ne (by omega)]
  exact h j y hj
theorem stk_g {a : Nat} {S : List Int32} {m m1 : fm_} (h : stk_ a S m) (hg : ∀ k, gi_ m1 a k = gi_ m a k) : stk_ a S m1 := fun j y hj => (hg j).trans (h j y hj)
theorem rws_g {s : Nat} {S : cd_} {m m1 : fm_} (h : rws_ s S m) (hg : ∀ a k, a = 122 ∨ a = 123 → gi_ m1 a k = gi_ m a k) : rws_ s S m1 := fun i q hi => ⟨(hg _ _ (Or.inl rfl)).trans (h i q hi).1, fun z => (hg _ _ (Or.inr rfl)).trans ((h i q hi).2 z)⟩
theorem nxt_m {L : List Nat} {j ol b u : Nat} {K : List Nat} {S : cd_} {t : tkn_} {r : List tkn_} {m : fm_} (h : rt0_ L j ol b u K S (t :: r) m) (h2 : 2 ≤ t.1) : ∃ m1, f_X12_next m = some (0, m1) ∧ rt0_ L j ol b u K S r m1 ∧ ∀ s, mfr_ s m m1 := by
  obtain ⟨a1, a2, a3, a4, a5, a6, a7, a8, a9⟩ := h
  obtain ⟨m1, e1, e2, e3⟩ := nxs_m a1 h2
  have g := rfw_g e3
  exact ⟨m1, e1, ⟨e2, (g _ _ (by omega)).trans a2, (g _ _ (by omega)).trans a3, (g _ _ (by omega)).trans a4, (g _ _ (by omega)).trans a5, rws_g a6 (fun a k q => g a k (by omega)), (g _ _ (by omega)).trans a7, stk_g a8 (fun k => g _ _ (by omega)), (g _ _ (by omega)).trans a9⟩, fun s => mfr_w e3⟩
theorem stp_m {L : List Nat} {j ol b u : Nat} (hj : j < 6) {K : List Nat} {S : cd_} {ts : List tkn_} {m : fm_} (h : rt0_ L j ol b u K S ts m) (hb : b + S.length ≤ 700) (w n : Nat) {x : Int32} (hx : w = 0 → x = nI n) : ∃ m1, f_X12_step (nI w) x m = some (0, m1) ∧ rt0_ L j ol b u K (S ++ [(w, n)]) ts m1 ∧ mfr_ (700 * j + b) m m1 := by
  obtain ⟨a1, a2, a3, a4, a5, a6, a7, a8, a9⟩ := h
  refine ⟨si_ (si_ (si_ m 122 (700 * j + (b + S.length)) (nI w)) 123 (700 * j + (b + S.length)) x) 106 49 (nI (b + S.length + 1)), ?_, ⟨rsn_si (rsn_si (rsn_si a1 (by omega) (by omega)) (by omega) (by omega)) (by omega) (by omega), ?_, ?_, ?_, ?_, ?_, ?_, stk_si (stk_si (stk_si a8 (by omega)) (by omega)) (by omega), ?_⟩, fun a k h1 h2 h3 => ?_⟩
  · unfold f_X12_step
    simp (disch := omega) only [↓reduceIte, ↓ns_m1, ns_let, ns_lef, ns_ltt, ns_ltf, ns_eqt, ns_eqf, ns_gd, nI_clamp, nI_add, pk_sub, pk_mul, ns_m1a, ns_m1b, ns_m1c, ns_m1d, ns_m1e, ns_m1f, ns_m1g, ns_un1, ns_un0, ns_day1, Option.bind_some, gi_si_self, gi_si_ne, gl_si, gi_sl, gl_sl_self, gl_sl_ne, if_true, if_false, ns_i0, ns_i1, ns_i2, ns_i3, ns_i4, ns_i5, ns_i6, ns_i7, ns_i8, ns_i9, ns_i10, ns_i11, ns_i12, ns_i13, ns_i20, ns_i23, ns_i24, ns_i31, ns_i50, ns_i60, ns_i99, ns_i100, ns_i144, ns_i200, ns_i255, ns_i700, ns_i880, ns_i899, ns_i900, ns_i901, ns_i999, ns_i1000, ns_i1440, ns_i4095, ns_i1000000, a2, a5]
  · rw [gi_si_ne (by omega), gi_si_ne (by omega), gi_si_ne (by omega)]; exact a2
  · rw [gi_si_ne (by omega), gi_si_ne (by omega), gi_si_ne (by omega)]; exact a3
  · rw [gi_si_ne (by omega), gi_si_ne (by omega), gi_si_ne (by omega)]; exact a4
  · rw [gi_si_self, List.length_append, List.length_singleton, Nat.add_assoc]
  · intro i q hi
    rcases app_q hi with ⟨z1, z2⟩ | ⟨z1, z2⟩
    · rw [gi_si_ne (by omega), gi_si_ne (by omega), gi_si_ne (by omega), gi_si_ne (by omega), gi_si_ne (by omega), gi_si_ne (by omega)]
      exact a6 i q z2
    · subst z1
      subst z2
      rw [show 700 * j + b + S.length = 700 * j + (b + S.length) by omega]
      refine ⟨?_, fun z => ?_⟩
      · rw [gi_si_ne (by omega), gi_si_ne (by omega), gi_si_self]
      · rw [gi_si_ne (by omega), gi_si_self]
        exact hx z
  · rw [gi_si_ne (by omega), gi_si_ne (by omega), gi_si_ne (by omega)]; exact a7
  · rw [gi_si_ne (by omega), gi_si_ne (by omega), gi_si_ne (by omega)]; exact a9
  · rw [gi_si_ne (by omega), gi_si_ne (by omega), gi_si_ne (by omega)]
theorem hld_m {L : List Nat} {j ol b u : Nat} {K : List Nat} {S : cd_} {ts : List tkn_} {m : fm_} (h : rt0_ L j ol b u K S ts m) (hK : K.length < 400) {x : Nat} (hx : x ≤ 28) : ∃ m1, f_X12_hold (nI x) m = some (0, m1) ∧ rt0_ L j ol b u (x :: K) S ts m1 ∧ ∀ s, mfr_ s m m1 := by
  obtain ⟨a1, a2, a3, a4, a5, a6, a7, a8, a9⟩ := h
  have hd := dpk_l K
  have st : stk_ 135 ((x :: K).map nI) (si_ m 135 K.length (nI x)) := by
    have := stk_push (x := nI x) a8
    rw [List.length_map] at this
    exact this
  by_cases c : x = 28 ∨ x = 20
  · refine ⟨si_ (si_ (si_ m 135 K.length (nI x)) 106 52 (nI (K.length + 1))) 106 53 (nI (dpk_ K + 1)), ?_, ⟨rsn_si (rsn_si (rsn_si a1 (by omega) (by omega)) (by omega) (by omega)) (by omega) (by omega), ?_, ?_, ?_, ?_, rws_g a6 (fun a k q => by rw [gi_si_ne (by omega), gi_si_ne (by omega), gi_si_ne (by omega)]), ?_, stk_si (stk_si st (by omega)) (by omega), ?_⟩, fun s a k h1 h2 h3 => ?_⟩
    · unfold f_X12_hold
      rw [show (28 : Int32) = nI 28 from rfl]
      by_cases c2 : x = 28
      · simp (disch := omega) only [↓reduceIte, ↓ns_m1, ns_let, ns_lef, ns_ltt, ns_ltf, ns_eqt, ns_eqf, ns_gd, nI_clamp, nI_add, pk_sub, pk_mul, ns_m1a, ns_m1b, ns_m1c, ns_m1d, ns_m1e, ns_m1f, ns_m1g, ns_un1, ns_un0, ns_day1, Option.bind_some, gi_si_self, gi_si_ne, gl_si, gi_sl, gl_sl_self, gl_sl_ne, if_true, if_false, ns_i0, ns_i1, ns_i2, ns_i3, ns_i4, ns_i5, ns_i6, ns_i7, ns_i8, ns_i9, ns_i10, ns_i11, ns_i12, ns_i13, ns_i20, ns_i23, ns_i24, ns_i31, ns_i50, ns_i60, ns_i99, ns_i100, ns_i144, ns_i200, ns_i255, ns_i700, ns_i880, ns_i899, ns_i900, ns_i901, ns_i999, ns_i1000, ns_i1440, ns_i4095, ns_i1000000, a7, a9]
      · simp (disch := omega) only [↓reduceIte, ↓ns_m1, ns_let, ns_lef, ns_ltt, ns_ltf, ns_eqt, ns_eqf, ns_gd, nI_clamp, nI_add, pk_sub, pk_mul, ns_m1a, ns_m1b, ns_m1c, ns_m1d, ns_m1e, ns_m1f, ns_m1g, ns_un1, ns_un0, ns_day1, Option.bind_some, gi_si_self, gi_si_ne, gl_si, gi_sl, gl_sl_self, gl_sl_ne, if_true, if_false, ns_i0, ns_i1, ns_i2, ns_i3, ns_i4, ns_i5, ns_i6, ns_i7, ns_i8, ns_i9, ns_i10, ns_i11, ns_i12, ns_i13, ns_i20, ns_i23, ns_i24, ns_i31, ns_i50, ns_i60, ns_i99, ns_i100, ns_i144, ns_i200, ns_i255, ns_i700, ns_i880, ns_i899, ns_i900, ns_i901, ns_i999, ns_i1000, ns_i1440, ns_i4095, ns_i1000000, a7, a9]
    · rw [gi_si_ne (by omega), gi_si_ne (by omega), gi_si_ne (by omega)]; exact a2
    · rw [gi_si_ne (by omega), gi_si_ne (by omega), gi_si_ne (by omega)]; exact a3
    · rw [gi_si_ne (by omega), gi_si_ne (by omega), gi_si_ne (by omega)]; exact a4
    · rw [gi_si_ne (by omega), gi_si_ne (by omega), gi_si_ne (by omega)]; exact a5
    · rw [gi_si_ne (by omega), gi_si_self]; rfl
    · rw [gi_si_self, dpk_c, if_pos c, Nat.add_comm]
    · rw [gi_si_ne (by omega), gi_si_ne (by omega), gi_si_ne (by omega)]
  · refine ⟨si_ (si_ m 135 K.length (nI x)) 106 52 (nI (K.length + 1)), ?_, ⟨rsn_si (rsn_si a1 (by omega) (by omega)) (by omega) (by omega), ?_, ?_, ?_, ?_, rws_g a6 (fun a k q => by rw [gi_si_ne (by omega), gi_si_ne (by omega)]), ?_, stk_si st (by omega), ?_⟩, fun s a k h1 h2 h3 => ?_⟩
    · unfold f_X12_hold
      rw [show (28 : Int32) = nI 28 from rfl]
      simp (disch := omega) only [↓reduceIte, ↓ns_m1, ns_let, ns_lef, ns_ltt, ns_ltf, ns_eqt, ns_eqf, ns_gd, nI_clamp, nI_add, pk_sub, pk_mul, ns_m1a, ns_m1b, ns_m1c, ns_m1d, ns_m1e, ns_m1f, ns_m1g, ns_un1, ns_un0, ns_day1, Option.bind_some, gi_si_self, gi_si_ne, gl_si, gi_sl, gl_sl_self, gl_sl_ne, if_true, if_false, ns_i0, ns_i1, ns_i2, ns_i3, ns_i4, ns_i5, ns_i6, ns_i7, ns_i8, ns_i9, ns_i10, ns_i11, ns_i12, ns_i13, ns_i20, ns_i23, ns_i24, ns_i31, ns_i50, ns_i60, ns_i99, ns_i100, ns_i144, ns_i200, ns_i255, ns_i700, ns_i880, ns_i899, ns_i900, ns_i901, ns_i999, ns_i1000, ns_i1440, ns_i4095, ns_i1000000, a7, a9]
    · rw [gi_si_ne (by omega), gi_si_ne (by omega)]; exact a2
    · rw [gi_si_ne (by omega), gi_si_ne (by omega)]; exact a3
    · rw [gi_si_ne (by omega), gi_si_ne (by omega)]; exact a4
    · rw [gi_si_ne (by omega), gi_si_ne (by omega)]; exact a5
    · rw [gi_si_self]; rfl
    · rw [gi_si_ne (by omega), gi_si_ne (by omega), dpk_c, if_neg c, Nat.zero_add]; exact a9
    · rw [gi_si_ne (by omega), gi_si_ne (by omega)]
theorem pop_m {L : List Nat} {j ol b u : Nat} (hj : j < 6) {x : Nat} {K : List Nat} {S : cd_} {ts : List tkn_} {m : fm_} (h : rt0_ L j ol b u (x :: K) S ts m) (hK : K.length < 400) (hb : b + S.length ≤ 700) (hx : x < 28) : ∃ m1, f_X12_pop m = some (0, m1) ∧ rt0_ L j ol b u K (S ++ [(x, 0)]) ts m1 ∧ mfr_ (700 * j + b) m m1 := by
  obtain ⟨a1, a2, a3, a4, a5, a6, a7, a8, a9⟩ := h
  have hd := dpk_l K
  have st : stk_ 135 (nI x :: K.map nI) m := a8
  obtain ⟨s1, s2⟩ := stk_top st
  rw [List.length_map] at s1
  rw [List.length_cons] at a7
  by_cases c : x = 20
  · rw [dpk_c, if_pos (Or.inr c), Nat.add_comm] at a9
    have i1 : rt0_ L j ol b u K S ts (si_ (si_ m 106 52 (nI K.length)) 106 53 (nI (dpk_ K))) := by
      refine ⟨rsn_si (rsn_si a1 (by omega) (by omega)) (by omega) (by omega), ?_, ?_, ?_, ?_, rws_g a6 (fun a k q => by rw [gi_si_ne (by omega), gi_si_ne (by omega)]), ?_, stk_si (stk_si s2 (by omega)) (by omega), gi_si_self⟩
      · rw [gi_si_ne (by omega), gi_si_ne (by omega)]; exact a2
      · rw [gi_si_ne (by omega), gi_si_ne (by omega)]; exact a3
      · rw [gi_si_ne (by omega), gi_si_ne (by omega)]; exact a4
      · rw [gi_si_ne (by omega), gi_si_ne (by omega)]; exact a5
      · rw [gi_si_ne (by omega), gi_si_self]
    obtain ⟨m1, e1, e2, e3⟩ := stp_m hj i1 hb x 0 (x := nI 0) (fun _ => rfl)
    refine ⟨m1, ?_, e2, mfr_t (fun a k h1 h2 h3 => by rw [gi_si_ne (by omega), gi_si_ne (by omega)]) e3⟩
    unfold f_X12_pop
    simp (disch := omega) only [↓reduceIte, ↓ns_m1, ns_let, ns_lef, ns_ltt, ns_ltf, ns_eqt, ns_eqf, ns_gd, nI_clamp, nI_add, pk_sub, pk_mul, ns_m1a, ns_m1b, ns_m1c, ns_m1d, ns_m1e, ns_m1f, ns_m1g, ns_un1, ns_un0, ns_day1, Option.bind_some, gi_si_self, gi_si_ne, gl_si, gi_sl, gl_sl_self, gl_sl_ne, if_true, if_false, ns_i0, ns_i1, ns_i2, ns_i3, ns_i4, ns_i5, ns_i6, ns_i7, ns_i8, ns_i9, ns_i10, ns_i11, ns_i12, ns_i13, ns_i20, ns_i23, ns_i24, ns_i31, ns_i50, ns_i60, ns_i99, ns_i100, ns_i144, ns_i200, ns_i255, ns_i700, ns_i880, ns_i899, ns_i900, ns_i901, ns_i999, ns_i1000, ns_i1440, ns_i4095, ns_i1000000, a7, a9, s1, Nat.add_sub_cancel, e1]
  · rw [dpk_c, if_neg (by omega), Nat.zero_add] at a9
    have i1 : rt0_ L j ol b u K S ts (si_ m 106 52 (nI K.length)) := by
      refine ⟨rsn_si a1 (by omega) (by omega), ?_, ?_, ?_, ?_, rws_g a6 (fun a k q => by rw [gi_si_ne (by omega)]), gi_si_self, stk_si s2 (by omega), ?_⟩
      · rw [gi_si_ne (by omega)]; exact a2
      · rw [gi_si_ne (by omega)]; exact a3
      · rw [gi_si_ne (by omega)]; exact a4
      · rw [gi_si_ne (by omega)]; exact a5
      · rw [gi_si_ne (by omega)]; exact a9
    obtain ⟨m1, e1, e2, e3⟩ := stp_m hj i1 hb x 0 (x := nI 0) (fun _ => rfl)
    refine ⟨m1, ?_, e2, mfr_t (fun a k h1 h2 h3 => by rw [gi_si_ne (by omega)]) e3⟩
    unfold f_X12_pop
    simp (disch := omega) only [↓reduceIte, ↓ns_m1, ns_let, ns_lef, ns_ltt, ns_ltf, ns_eqt, ns_eqf, ns_gd, nI_clamp, nI_add, pk_sub, pk_mul, ns_m1a, ns_m1b, ns_m1c, ns_m1d, ns_m1e, ns_m1f, ns_m1g, ns_un1, ns_un0, ns_day1, Option.bind_some, gi_si_self, gi_si_ne, gl_si, gi_sl, gl_sl_self, gl_sl_ne, if_true, if_false, ns_i0, ns_i1, ns_i2, ns_i3, ns_i4, ns_i5, ns_i6, ns_i7, ns_i8, ns_i9, ns_i10, ns_i11, ns_i12, ns_i13, ns_i20, ns_i23, ns_i24, ns_i31, ns_i50, ns_i60, ns_i99, ns_i100, ns_i144, ns_i200, ns_i255, ns_i700, ns_i880, ns_i899, ns_i900, ns_i901, ns_i999, ns_i1000, ns_i1440, ns_i4095, ns_i1000000, a7, a9, s1, Nat.add_sub_cancel, e1]
theorem top_0 {L : List Nat} {j ol b u : Nat} {S : cd_} {ts : List tkn_} {m : fm_} (h : rt0_ L j ol b u [] S ts m) : f_X12_top m = some (nI 28, m) := by
  have a7 : gi_ m 106 52 = 0 := h.2.2.2.2.2.2.1
  unfold f_X12_top
  rw [a7, if_pos rfl]
  rfl
theorem top_k {L : List Nat} {j ol b u : Nat} {x : Nat} {K : List Nat} {S : cd_} {ts : List tkn_} {m : fm_} (h : rt0_ L j ol b u (x :: K) S ts m) (hK : K.length < 400) : f_X12_top m = some (nI x, m) := by
  have a7 := h.2.2.2.2.2.2.1
  rw [List.length_cons] at a7
  have st : stk_ 135 (nI x :: K.map nI) m := h.2.2.2.2.2.2.2.1
  obtain ⟨s1, s2⟩ := stk_top st
  rw [List.length_map] at s1
  unfold f_X12_top
  simp (disch := omega) only [↓reduceIte, ↓ns_m1, ns_let, ns_lef, ns_ltt, ns_ltf, ns_eqt, ns_eqf, ns_gd, nI_clamp, nI_add, pk_sub, pk_mul, ns_m1a, ns_m1b, ns_m1c, ns_m1d, ns_m1e, ns_m1f, ns_m1g, ns_un1, ns_un0, ns_day1, Option.bind_some, gi_si_self, gi_si_ne, gl_si, gi_sl, gl_sl_self, gl_sl_ne, if_true, if_false, ns_i0, ns_i1, ns_i2, ns_i3, ns_i4, ns_i5, ns_i6, ns_i7, ns_i8, ns_i9, ns_i10, ns_i11, ns_i12, ns_i13, ns_i20, ns_i23, ns_i24, ns_i31, ns_i50, ns_i60, ns_i99, ns_i100, ns_i144, ns_i200, ns_i255, ns_i700, ns_i880, ns_i899, ns_i900, ns_i901, ns_i999, ns_i1000, ns_i1440, ns_i4095, ns_i1000000, a7, s1, Nat.add_sub_cancel]
def opc_ (P : List Nat) : cd_ := P.map fun p => (p, 0)
/-- where a settling stops -/
def hdk_ (st : Nat → Prop) (K : List Nat) : Prop := ∀ k R, K = k :: R → k ≤ 28 ∧ (k = 28 ∨ st k)
theorem set_m {L : List Nat} {j ol b u : Nat} (hj : j < 6) {K : List Nat} {ts : List tkn_} {lo : Nat} (hlo : lo < 100) (hk : hdk_ (fun k => k < lo) K) : ∀ (P : List Nat) (S : cd_) (m : fm_), rt0_ L j ol b u (P ++ K) S ts m → (∀ p ∈ P, lo ≤ p ∧ p < 28) → (P ++ K).length ≤ 400 → b + S.length + P.length ≤ 700 → ∃ m1, f_X12_settle (nI lo) m = some (0, m1) ∧ rt0_ L j ol b u K (S ++ opc_ P) ts m1 ∧ mfr_ (700 * j + b) m m1
  | [], S, m, h, hp, h4, h7 => by
    have h : rt0_ L j ol b u K S ts m := h
    unfold f_X12_settle
    refine ⟨m, ?_, by rw [show opc_ [] = [] from rfl, List.append_nil]; exact h, mfr_r⟩
    cases K with
    | nil =>
      rw [e_X12_settle_0, top_0 h, Option.bind_some, if_pos (show nI 28 = 28 from rfl)]
    | cons k R =>
      have := hk k R rfl
      have h4 : (k :: R).length ≤ 400 := h4
      rw [List.length_cons] at h4
      have tp := top_k h (by omega)
      rw [e_X12_settle_0, tp, Option.bind_some]
      dsimp only
      by_cases c : k = 28
      · rw [if_pos (show nI k = 28 by rw [c]; rfl)]
      · have c2 : k < lo := this.2.resolve_left c
        rw [if_neg (show ¬ nI k = 28 from show ¬ nI k = nI 28 from fun q => c ((nI_eq (by omega) (by omega)).mp q)), tp, Option.bind_some, if_pos (nI_lt c2 (by omega))]
  | p :: P, S, m, h, hp, h4, h7 => by
    have h : rt0_ L j ol b u (p :: (P ++ K)) S ts m := h
    have h4 : (p :: (P ++ K)).length ≤ 400 := h4
    rw [List.length_cons] at h4
    rw [List.length_cons] at h7
    have hp1 := hp p List.mem_cons_self
    have tp := top_k h (by omega)
    obtain ⟨m1, e1, e2, e3⟩ := pop_m hj h (by omega) (by omega) hp1.2
    obtain ⟨m2, f1, f2, f3⟩ := set_m hj hlo hk P (S ++ [(p, 0)]) m1 e2 (fun x hx => hp x (List.mem_cons_of_mem _ hx)) (by omega) (by rw [List.length_append, List.length_singleton]; omega)
    refine ⟨m2, ?_, ?_, mfr_t e3 f3⟩
    · unfold f_X12_settle at f1 ⊢
      rw [e_X12_settle_0, tp, Option.bind_some]
      dsimp only
      rw [if_neg (show ¬ nI p = 28 from show ¬ nI p = nI 28 from fun q => by have := (nI_eq (by omega) (by omega)).mp q; omega), tp, Option.bind_some, if_neg (nI_nlt hp1.1 (by omega)), e1, Option.bind_some]
      exact f1
    · rw [List.append_assoc] at f2
      exact f2
theorem seo_m {L : List Nat} {j ol b u : Nat} (hj : j < 6) {K : List Nat} {ts : List tkn_} {an : Bool} (hk : hdk_ (fun k => an = true ∧ k = 21) K) : ∀ (P : List Nat) (S : cd_) (m : fm_), rt0_ L j ol b u (P ++ K) S ts m → (∀ p ∈ P, p < 28 ∧ (an = true → ¬ p = 21)) → (P ++ K).length ≤ 400 → b + S.length + P.length ≤ 700 → ∃ m1, f_X12_settleOnes (b01_ an) m = some (0, m1) ∧ rt0_ L j ol b u K (S ++ opc_ P) ts m1 ∧ mfr_ (700 * j + b) m m1
  | [], S, m, h, hp, h4, h7 => by
    have h : rt0_ L j ol b u K S ts m := h
    unfold f_X12_settleOnes
    refine ⟨m, ?_, by rw [show opc_ [] = [] from rfl, List.append_nil]; exact h, mfr_r⟩
    cases K with
    | nil =>
      rw [e_X12_settleOnes_0, top_0 h, Option.bind_some, if_pos (show nI 28 = 28 from rfl)]
    | cons k R =>
      have := hk k R rfl
      have h4 : (k :: R).length ≤ 400 := h4
      rw [List.length_cons] at h4
      have tp := top_k h (by omega)
      rw [e_X12_settleOnes_0, tp, Option.bind_some]
      dsimp only
      by_cases c : k = 28
      · rw [if_pos (show nI k = 28 by rw [c]; rfl)]
      · have c2 := this.2.resolve_left c
        rw [if_neg (show ¬ nI k = 28 from show ¬ nI k = nI 28 from fun q => c ((nI_eq (by omega) (by omega)).mp q)), c2.1, if_neg (show ¬ b01_ true = 0 by decide), tp, Option.bind_some, if_pos (show nI k = 21 by rw [c2.2]; rfl)]
  | p :: P, S, m, h, hp, h4, h7 => by
    have h : rt0_ L j ol b u (p :: (P ++ K)) S ts m := h
    have h4 : (p :: (P ++ K)).length ≤ 400 := h4
    rw [List.length_cons] at h4
    rw [List.length_cons] at h7
    have hp1 := hp p List.mem_cons_self
    have tp := top_k h (by omega)
    obtain ⟨m1, e1, e2, e3⟩ := pop_m hj h (by omega) (by omega) hp1.1
    obtain ⟨m2, f1, f2, f3⟩ := seo_m hj hk P (S ++ [(p, 0)]) m1 e2 (fun x hx => hp x (List.mem_cons_of_mem _ hx)) (by omega) (by rw [List.length_append, List.length_singleton]; omega)
    refine ⟨m2, ?_, ?_, mfr_t e3 f3⟩
    · unfold f_X12_settleOnes at f1 ⊢
      rw [e_X12_settleOnes_0, tp, Option.bind_some]
      dsimp only
      rw [if_neg (show ¬ nI p = 28 from show ¬ nI p = nI 28 from fun q => by have := (nI_eq (by omega) (by omega)).mp q; omega)]
      cases an with
      | false =>
        rw [if_pos (show b01_ false = 0 by decide), e1, Option.bind_some]
        exact f1
      | true =>
        have h21 := hp1.2 rfl
        rw [if_neg (show ¬ b01_ true = 0 by decide), tp, Option.bind_some, if_neg (show ¬ nI p = 21 from show ¬ nI p = nI 21 from fun q => h21 ((nI_eq (by omega) (by omega)).mp q)), e1, Option.bind_some]
        exact f1
    · rw [List.append_assoc] at f2
      exact f2
theorem iso1_m {K : List Nat} {m : fm_} (h1 : gi_ m 106 52 = nI K.length) (h2 : stk_ 135 (K.map nI) m) (hK : K.length ≤ 400) (hs : ∀ k ∈ K, k ≤ 28) : ∀ (d i : Nat) (b : Bool), i + d = K.length → f_X12_isOpen_4 (b01_ b) (nI i) m = some (b01_ (b || decide (28 ∈ K.reverse.drop i)), m) := by
  intro d
  induction d with
  | zero =>
    intro i b hi
    rw [e_X12_isOpen_4, h1, if_pos (nI_le (by omega) (by omega)), List.drop_of_length_le (by rw [List.length_reverse]; omega), gd_t (show bl_ (b01_ b) = true by cases b <;> decide)]
    cases b <;> rfl
  | succ d ih =>
    intro i b hi
    have hl : i < K.reverse.length := by rw [List.length_reverse]; omega
    have ed := List.drop_eq_getElem_cons hl
    have eg := List.getElem?_eq_getElem hl
    have em : K.reverse[i] ∈ K := List.mem_reverse.mp (List.getElem_mem hl)
    generalize K.reverse[i] = x at ed eg em
    have hx := hs x em
    have ex : nI i + 1 = nI (i + 1) := by
      show nI i + nI 1 = _
      rw [nI_add]
    have gx : gi_ m 135 i = nI x := h2 i (nI x) (by rw [← List.map_reverse, List.getElem?_map, eg]; rfl)
    rw [e_X12_isOpen_4, h1, if_neg (nI_ge (by omega) (by omega)), ex]
    cases b with
    | true =>
      rw [if_neg (show ¬ b01_ true = 0 by decide)]
      exact ih (i + 1) true (by omega)
    | false =>
      rw [if_pos (show b01_ false = 0 by decide), ns_gd (by omega) (by omega), nI_clamp (by omega), gx, ed]
      by_cases c : x = 28
      · rw [if_pos (show nI x = 28 by rw [c]; rfl), decide_eq_true (show 28 ∈ x :: K.reverse.drop (i + 1) by rw [c]; exact List.mem_cons_self)]
        exact ih (i + 1) true (by omega)
      · have e : decide (28 ∈ x :: K.reverse.drop (i + 1)) = decide (28 ∈ K.reverse.drop (i + 1)) := by
          have : (28 ∈ x :: K.reverse.drop (i + 1)) ↔ 28 ∈ K.reverse.drop (i + 1) := by
            rw [List.mem_cons]
            exact ⟨fun q => q.resolve_left (fun z => c z.symm), Or.inr⟩
          exact decide_eq_decide.mpr this
        rw [if_neg (show ¬ nI x = 28 from show ¬ nI x = nI 28 from fun q => c ((nI_eq (by omega) (by omega)).mp q)), e]
        exact ih (i + 1) false (by omega)
theorem iso_m {L : List Nat} {j ol b u : Nat} {K : List Nat} {S : cd_} {ts : List tkn_} {m : fm_} (h : rt0_ L j ol b u K S ts m) (hK : K.length ≤ 400) (hs : ∀ k ∈ K, k ≤ 28) : f_X12_isOpen m = some (b01_ (decide (28 ∈ K)), m) := by
  have := iso1_m h.2.2.2.2.2.2.1 h.2.2.2.2.2.2.2.1 hK hs K.length 0 false (by omega)
  rw [List.drop_zero, show decide (28 ∈ K.reverse) = decide (28 ∈ K) from decide_eq_decide.mpr List.mem_reverse] at this
  exact this
