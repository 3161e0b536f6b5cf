/-! ===== small numbers ===== -/
/-- x as a number below n -/
def nat_ (x : Int32) (n : Nat) : Option Nat := if x < 0 then none else if nI n ≤ x then none else some x.toNatClampNeg
theorem nat_ix (x : Int32) {n : Nat} (hn : n < 2 ^ 31) : (nat_ x n = none ∧ (x < 0 ∨ (¬ x < 0 ∧ nI n ≤ x))) ∨ ∃ j, j < n ∧ x = nI j ∧ nat_ x n = some j ∧ ¬ x < 0 ∧ ¬ nI n ≤ x := by
  unfold nat_
  by_cases h1 : x < 0
  · exact Or.inl ⟨by rw [if_pos h1], Or.inl h1⟩
  · by_cases h2 : nI n ≤ x
    · exact Or.inl ⟨by rw [if_neg h1, if_pos h2], Or.inr ⟨h1, h2⟩⟩
    · obtain ⟨j, hj, rfl⟩ := nI_of h1
      have hjn : j < n := Nat.lt_of_not_le fun q => h2 (nI_le q hj)
      exact Or.inr ⟨j, hjn, rfl, by rw [if_neg h1, if_neg h2, nI_clamp hj], h1, h2⟩
def bu_ (x : Int32) (n : Nat) : Int32 := if (nat_ x n).isSome then 1 else 0
theorem und_ (x : Int32) {n : Nat} (m : fm_) : f_X11_isUnder x (nI n) m = some (bu_ x n, m) := by
  unfold f_X11_isUnder bu_ nat_
  by_cases h1 : x < 0
  · rw [if_pos h1, if_pos h1]; rfl
  · rw [if_neg h1, if_neg h1]
    by_cases h2 : nI n ≤ x
    · rw [if_pos h2, if_pos h2]; rfl
    · rw [if_neg h2, if_neg h2]; rfl
theorem day_c (x : Int32) (m : fm_) : f_X11_isDay x m = some (bu_ x 100, m) := by
  unfold f_X11_isDay bu_ nat_
  by_cases h1 : x < 0
  · rw [if_pos h1, if_pos h1]; rfl
  · rw [if_neg h1, if_neg h1]
    by_cases h2 : 100 ≤ x
    · rw [if_pos h2, if_pos (show nI 100 ≤ x from h2)]; rfl
    · rw [if_neg h2, if_neg (show ¬ nI 100 ≤ x from h2)]; rfl
theorem day_m (x : Int32) (m : fm_) : f_X12_isDay x m = some (bu_ x 100, m) := by
  unfold f_X12_isDay bu_ nat_
  by_cases h1 : x < 0
  · rw [if_pos h1, if_pos h1]; rfl
  · rw [if_neg h1, if_neg h1]
    by_cases h2 : 100 ≤ x
    · rw [if_pos h2, if_pos (show nI 100 ≤ x from h2)]; rfl
    · rw [if_neg h2, if_neg (show ¬ nI 100 ≤ x from h2)]; rfl
theorem bu_0 {x : Int32} {n : Nat} (h : nat_ x n = none) : bu_ x n = 0 := by unfold bu_; rw [h]; rfl
theorem bu_1 {x : Int32} {n j : Nat} (h : nat_ x n = some j) : bu_ x n = 1 := by unfold bu_; rw [h]; rfl
theorem bu_ne {x : Int32} {n j : Nat} (h : nat_ x n = some j) : ¬ bu_ x n = 0 := by rw [bu_1 h]; decide
/-! ===== the time ===== -/
def lt_ (T : Nat) (x : Int32) : Int32 × Nat := match nat_ x 1001 with
  | none => (-1, T)
  | some j => if T + j ≤ 100000 then (nI (T + j), T + j) else (-1, T)
theorem later_c {T : Nat} {m : fm_} (hT : T ≤ 100000) (h : gi_ m 72 8 = nI T) (x : Int32) : ∃ m1, f_X11_later x m = some ((lt_ T x).1, m1) ∧ (lt_ T x).2 ≤ 100000 ∧ gi_ m1 72 8 = nI (lt_ T x).2 := by
  unfold f_X11_later lt_
  rcases nat_ix x (n := 1001) (by omega) with ⟨e, h1 | ⟨h1, h2⟩⟩ | ⟨j, hj, rfl, e, h1, h2⟩
  · rw [e, if_pos h1]; exact ⟨m, rfl, hT, h⟩
  · have h3 : 1000 < x := by
      rw [Int32.le_iff_toInt_le, nI_toInt (by omega)] at h2
      rw [Int32.lt_iff_toInt_lt, show (1000 : Int32).toInt = 1000 from rfl]
      omega
    rw [e, if_neg h1, if_pos h3]; exact ⟨m, rfl, hT, h⟩
  · have h3 : ¬ 1000 < nI j := nI_nlt (a := 1000) (b := j) (by omega) (by omega)
    rw [e, if_neg h1, if_neg h3, h, nI_add]
    by_cases h4 : T + j ≤ 100000
    · have h5 : nI (T + j) ≤ 100000 := nI_le (b := 100000) h4 (by omega)
      simp only [if_pos h4, if_pos h5]
      exact ⟨_, rfl, h4, gi_si_self⟩
    · have h5 : ¬ nI (T + j) ≤ 100000 := nI_ge (a := 100000) (b := T + j) (by omega) (by omega)
      simp only [if_neg h4, if_neg h5]
      exact ⟨m, rfl, hT, h⟩
theorem later_m {T : Nat} {m : fm_} (hT : T ≤ 100000) (h : gi_ m 106 59 = nI T) (x : Int32) : ∃ m1, f_X12_later x m = some ((lt_ T x).1, m1) ∧ gi_ m1 106 59 = nI (lt_ T x).2 := by
  unfold f_X12_later lt_
  rcases nat_ix x (n := 1001) (by omega) with ⟨e, h1 | ⟨h1, h2⟩⟩ | ⟨j, hj, rfl, e, h1, h2⟩
  · rw [e, if_pos h1]; exact ⟨m, rfl, h⟩
  · have h3 : 1000 < x := by
      rw [Int32.le_iff_toInt_le, nI_toInt (by omega)] at h2
      rw [Int32.lt_iff_toInt_lt, show (1000 : Int32).toInt = 1000 from rfl]
      omega
    rw [e, if_neg h1, if_pos h3]; exact ⟨m, rfl, h⟩
  · have h3 : ¬ 1000 < nI j := nI_nlt (a := 1000) (b := j) (by omega) (by omega)
    rw [e, if_neg h1, if_neg h3, h, nI_add]
    by_cases h4 : T + j ≤ 100000
    · have h5 : nI (T + j) ≤ 100000 := nI_le (b := 100000) h4 (by omega)
      simp only [if_pos h4, if_pos h5]
      exact ⟨_, rfl, gi_si_self⟩
    · have h5 : ¬ nI (T + j) ≤ 100000 := nI_ge (a := 100000) (b := T + j) (by omega) (by omega)
      simp only [if_neg h4, if_neg h5]
      exact ⟨m, rfl, h⟩
/-! ===== values of the air ===== -/
abbrev air_ : Type := Nat → Option (Nat × Nat)
def rc1_ (A : air_) (m : fm_) (c : Nat) : Prop := match A c with
  | none => gi_ m 96 c = -1
  | some q => q.1 < 4 ∧ q.2 < 1000 ∧ gi_ m 96 c = nI q.1 ∧ gi_ m 95 c = nI q.2
def rc_ (A : air_) (n : Nat) (m : fm_) : Prop := n ≤ 120 ∧ gi_ m 94 2 = nI n ∧ ∀ c, c < 200 → rc1_ A m c
def rm1_ (A : air_) (m : fm_) (c : Nat) : Prop := match A c with
  | none => gi_ m 159 c = 0
  | some q => gi_ m 159 c = 1 ∧ gi_ m 156 c = nI q.1 ∧ gi_ m 157 c = nI q.2
def rm_ (A : air_) (n : Nat) (m : fm_) : Prop := gi_ m 106 81 = nI n ∧ ∀ c, c < 200 → rm1_ A m c
def ua_ (A : air_) (c : Nat) (q : Nat × Nat) : air_ := fun b => if b = c then some q else A b
def sa1_ (A : air_) (n c w v : Nat) : Int32 × air_ × Nat := if 120 ≤ n then (-1, A, n) else match A c with
  | none => (nI (n + 1), ua_ A c (w, v), n + 1)
  | some _ => (-1, A, n)
def sair_ (A : air_) (n : Nat) (p1 p2 p3 p4 : Int32) : Int32 × air_ × Nat := match nat_ p1 2, nat_ p2 100, nat_ p3 4, nat_ p4 1000 with
  | some s, some d, some w, some v => sa1_ A n (100 * s + d) w v
  | _, _, _, _ => (-1, A, n)
theorem add_c {A : air_} {n : Nat} {m : fm_} (h : rc_ A n m) {s d w v : Nat} (hs : s < 2) (hd : d < 100) (hw : w < 4) (hv : v < 1000) : ∃ m1, f_X0_add (nI s) (nI d) (nI w) (nI v) m = some ((sa1_ A n (100 * s + d) w v).1, m1) ∧ rc_ (sa1_ A n (100 * s + d) w v).2.1 (sa1_ A n (100 * s + d) w v).2.2 m1 := by
  obtain ⟨h1, h2, h3⟩ := id h
  have hc : nI s * 100 + nI d = nI (100 * s + d) := by rw [show (100 : Int32) = nI 100 from rfl, pk_mul, nI_add, Nat.mul_comm]
  have hc2 : 100 * s + d < 200 := by omega
  unfold f_X0_add sa1_
  rw [hc, h2]
  by_cases hn : 120 ≤ n
  · rw [if_pos (show (120 : Int32) ≤ nI n from nI_le (a := 120) hn (by omega))]
    simp only [if_pos hn]
    exact ⟨m, rfl, h⟩
  · rw [if_neg (show ¬ (120 : Int32) ≤ nI n from nI_ge (a := n) (b := 120) (by omega) (by omega)), show (200 : Int32) = nI 200 from rfl, und_]
    have hb : nat_ (nI (100 * s + d)) 200 = some (100 * s + d) := by
      rcases nat_ix (nI (100 * s + d)) (n := 200) (by omega) with ⟨_, q | ⟨_, q⟩⟩ | ⟨j, _, e, q, _⟩
      · exact absurd q (nI_pos (by omega))
      · exact absurd q (nI_ge (by omega) (by omega))
      · rw [q, (nI_eq (by omega) (by omega)).mp e]
    have hx : ix_ (nI (100 * s + d)) 200 = true := ix_i (vp_in_nI hc2 (by omega))
    simp only [Option.bind, if_neg (bu_ne hb), gd_t hx, nI_clamp (show 100 * s + d < 2 ^ 31 by omega), if_neg hn]
    have hcell := h3 _ hc2
    unfold rc1_ at hcell
    cases hA : A (100 * s + d) with
    | none =>
      rw [hA] at hcell
      simp only at hcell
      rw [if_pos hcell]
      dsimp only
      refine ⟨_, by rw [h2, nI_1], by omega, by rw [gi_si_self], fun c hcl => ?_⟩
      by_cases e : c = 100 * s + d
      · subst e
        unfold rc1_
        rw [show ua_ A (100 * s + d) (w, v) (100 * s + d) = some (w, v) from if_pos rfl]
        exact ⟨hw, hv, by rw [gi_si_ne (by omega), gi_si_self], by rw [gi_si_ne (by omega), gi_si_ne (by omega), gi_si_self]⟩
      · have := h3 c hcl
        unfold rc1_ at this ⊢
        rw [show ua_ A (100 * s + d) (w, v) c = A c from if_neg e, gi_si_ne (by omega), gi_si_ne (by omega), gi_si_ne (by omega), gi_si_ne (by omega), gi_si_ne (by omega), gi_si_ne (by omega)]
        exact this
    | some q =>
      rw [hA] at hcell
      simp only at hcell
      have hne : ¬ gi_ m 96 (100 * s + d) = -1 := by
        rw [hcell.2.2.1]
        intro e
        have e1 := congrArg Int32.toInt e
        rw [nI_toInt (by omega)] at e1
        have e2 : Int32.toInt (-1) = -1 := by decide
        omega
      rw [if_neg hne]
      exact ⟨m, rfl, h⟩
theorem air_c {A : air_} {n : Nat} {m : fm_} (h : rc_ A n m) (p1 p2 p3 p4 : Int32) : ∃ m1, f_X11_air p1 p2 p3 p4 m = some ((sair_ A n p1 p2 p3 p4).1, m1) ∧ rc_ (sair_ A n p1 p2 p3 p4).2.1 (sair_ A n p1 p2 p3 p4).2.2 m1 := by
  unfold f_X11_air sair_
  rw [show (2 : Int32) = nI 2 from rfl, und_]
  simp only [Option.bind]
  rcases nat_ix p1 (n := 2) (by omega) with ⟨e1, _⟩ | ⟨s, hs, rfl, e1, -⟩
  · rw [if_pos (bu_0 e1), e1]; exact ⟨m, rfl, h⟩
  rw [if_neg (bu_ne e1), e1, day_c]
  simp only
  rcases nat_ix p2 (n := 100) (by omega) with ⟨e2, _⟩ | ⟨d, hd, rfl, e2, -⟩
  · rw [if_pos (bu_0 e2), e2]; exact ⟨m, rfl, h⟩
  rw [if_neg (bu_ne e2), e2, show (4 : Int32) = nI 4 from rfl, und_]
  simp only
  rcases nat_ix p3 (n := 4) (by omega) with ⟨e3, _⟩ | ⟨w, hw, rfl, e3, -⟩
  · rw [if_pos (bu_0 e3), e3]; exact ⟨m, rfl, h⟩
  rw [if_neg (bu_ne e3), e3]
  rcases nat_ix p4 (n := 1000) (by omega) with ⟨e4, h1 | ⟨h1, h2⟩⟩ | ⟨v, hv, rfl, e4, h1, h2⟩
  · rw [if_pos h1, e4]; exact ⟨m, rfl, h⟩
  · have h3 : 999 < p4 := by
      rw [Int32.le_iff_toInt_le, nI_toInt (by omega)] at h2
      rw [Int32.lt_iff_toInt_lt, show (999 : Int32).toInt = 999 from rfl]
      omega
    rw [if_neg h1, if_pos h3, e4]; exact ⟨m, rfl, h⟩
  · rw [if_neg h1, if_neg (show ¬ (999 : Int32) < nI v from nI_nlt (a := 999) (b := v) (by omega) (by omega)), e4]
    obtain ⟨m1, q1, q2⟩ := add_c h hs hd hw hv
    rw [q1]
    exact ⟨m1, rfl, q2⟩
theorem air_m {A : air_} {n : Nat} {m : fm_} (hn : n ≤ 120) (h : rm_ A n m) (p1 p2 p3 p4 : Int32) : ∃ m1, f_X12_air p1 p2 p3 p4 m = some ((sair_ A n p1 p2 p3 p4).1, m1) ∧ rm_ (sair_ A n p1 p2 p3 p4).2.1 (sair_ A n p1 p2 p3 p4).2.2 m1 := by
  obtain ⟨h1, h3⟩ := id h
  have toI : ∀ {x : Int32} {k : Nat}, k < 2 ^ 30 → nI (k + 1) ≤ x → nI k < x := fun {x k} hk hx => by
    rw [Int32.le_iff_toInt_le, nI_toInt (by omega)] at hx
    rw [Int32.lt_iff_toInt_lt, nI_toInt (by omega)]
    omega
  unfold f_X12_air sair_
  rw [h1, day_m]
  simp only [Option.bind]
  by_cases h120 : nI n = 120
  · have hn2 : n = 120 := (nI_eq (b := 120) (by omega) (by omega)).mp h120
    rw [if_pos h120]
    refine ⟨m, ?_⟩
    cases nat_ p1 2 with
    | none => exact ⟨rfl, h⟩
    | some s =>
      cases nat_ p2 100 with
      | none => exact ⟨rfl, h⟩
      | some d =>
        cases nat_ p3 4 with
        | none => exact ⟨rfl, h⟩
        | some w =>
          cases nat_ p4 1000 with
          | none => exact ⟨rfl, h⟩
          | some v =>
            unfold sa1_
            simp only [if_pos (show 120 ≤ n by omega)]
            exact ⟨trivial, h⟩
  rw [if_neg h120]
  have hn3 : ¬ 120 ≤ n := fun q => h120 (by rw [show n = 120 by omega]; rfl)
  rcases nat_ix p1 (n := 2) (by omega) with ⟨e1, q | ⟨q, q2⟩⟩ | ⟨s, hs, rfl, e1, q, -⟩
  · rw [if_pos q, e1]; exact ⟨m, rfl, h⟩
  · rw [if_neg q, if_pos (show (1 : Int32) < p1 from toI (k := 1) (by omega) q2), e1]; exact ⟨m, rfl, h⟩
  rw [if_neg q, if_neg (show ¬ (1 : Int32) < nI s from nI_nlt (a := 1) (b := s) (by omega) (by omega)), e1]
  rcases nat_ix p2 (n := 100) (by omega) with ⟨e2, _⟩ | ⟨d, hd, rfl, e2, -⟩
  · rw [if_pos (bu_0 e2), e2]; exact ⟨m, rfl, h⟩
  rw [if_neg (bu_ne e2), e2]
  rcases nat_ix p3 (n := 4) (by omega) with ⟨e3, q3 | ⟨q3, q4⟩⟩ | ⟨w, hw, rfl, e3, q3, -⟩
  · rw [if_pos q3, e3]; exact ⟨m, rfl, h⟩
  · rw [if_neg q3, if_pos (show (3 : Int32) < p3 from toI (k := 3) (by omega) q4), e3]; exact ⟨m, rfl, h⟩
  rw [if_neg q3, if_neg (show ¬ (3 : Int32) < nI w from nI_nlt (a := 3) (b := w) (by omega) (by omega)), e3]
  rcases nat_ix p4 (n := 1000) (by omega) with ⟨e4, q5 | ⟨q5, q6⟩⟩ | ⟨v, hv, rfl, e4, q5, -⟩
  · rw [if_pos q5, e4]; exact ⟨m, rfl, h⟩
  · rw [if_neg q5, if_pos (show (999 : Int32) < p4 from toI (k := 999) (by omega) q6), e4]; exact ⟨m, rfl, h⟩
  rw [if_neg q5, if_neg (show ¬ (999 : Int32) < nI v from nI_nlt (a := 999) (b := v) (by omega) (by omega)), e4]
  have hc : 100 * nI s + nI d = nI (100 * s + d) := by rw [show (100 : Int32) = nI 100 from rfl, pk_mul, nI_add]
  have hc2 : 100 * s + d < 200 := by omega
  have hx : ix_ (nI (100 * s + d)) 200 = true := ix_i (vp_in_nI hc2 (by omega))
  rw [hc]
  simp only [gd_t hx, nI_clamp (show 100 * s + d < 2 ^ 31 by omega)]
  have hcell := h3 _ hc2
  unfold rm1_ at hcell
  unfold sa1_
  simp only [if_neg hn3]
  cases hA : A (100 * s + d) with
  | none =>
    rw [hA] at hcell
    simp only at hcell
    rw [if_pos hcell]
    dsimp only
    refine ⟨_, by rw [h1, nI_1], by rw [gi_si_self], fun c hcl => ?_⟩
    by_cases e : c = 100 * s + d
    · subst e
      unfold rm1_
      rw [show ua_ A (100 * s + d) (w, v) (100 * s + d) = some (w, v) from if_pos rfl]
      exact ⟨by rw [gi_si_ne (by omega), gi_si_ne (by omega), gi_si_ne (by omega), gi_si_self], by rw [gi_si_ne (by omega), gi_si_ne (by omega), gi_si_self], by rw [gi_si_ne (by omega), gi_si_self]⟩
    · have := h3 c hcl
      unfold rm1_ at this ⊢
      rw [show ua_ A (100 * s + d) (w, v) c = A c from if_neg e]
      have f : ∀ b, (b = 159 ∨ b = 156 ∨ b = 157) → gi_ (si_ (si_ (si_ (si_ m 159 (100 * s + d) 1) 156 (100 * s + d) (nI w)) 157 (100 * s + d) (nI v)) 106 81 (nI (n + 1))) b c = gi_ m b c := fun b hb => by
        rw [gi_si_ne (by omega), gi_si_ne (by omega), gi_si_ne (by omega), gi_si_ne (by omega)]
      rw [f 159 (by omega), f 156 (by omega), f 157 (by omega)]
      exact this
  | some q =>
    rw [hA] at hcell
    simp only at hcell
    rw [if_neg (by rw [hcell.1]; decide)]
    exact ⟨m, rfl, h⟩
