/-! ===== facts ===== -/
/-- kind (0 papers, 1 reading, 2 appeal, 3 gone), told, untold, holder, day, detail, signs -/
abbrev fa_ : Type := Nat × Nat × Option Nat × Nat × Nat × Nat × Int64
def un_ (o : Option Nat) : Int32 := match o with
  | none => -1
  | some t => nI t
def wf_ (q : fa_) : Prop := q.1 ≤ 3 ∧ q.2.1 ≤ 100000 ∧ (∀ t, q.2.2.1 = some t → t ≤ 100000) ∧ q.2.2.2.1 < 10 ∧ q.2.2.2.2.1 < 100 ∧ q.2.2.2.2.2.1 < 10000
def fc1_ (q : fa_) (j : Nat) (m : fm_) : Prop := gi_ m 73 j = nI (q.1 + 1) ∧ gi_ m 74 j = nI q.2.1 ∧ gi_ m 75 j = un_ q.2.2.1 ∧ gi_ m 76 j = nI q.2.2.2.1 ∧ gi_ m 77 j = nI q.2.2.2.2.1 ∧ gi_ m 78 j = nI q.2.2.2.2.2.1 ∧ (q.1 = 1 → gl_ m 79 j = q.2.2.2.2.2.2)
def fm1_ (q : fa_) (j : Nat) (m : fm_) : Prop := gi_ m 141 j = nI q.1 ∧ gi_ m 149 j = nI q.2.1 ∧ gi_ m 150 j = un_ q.2.2.1 ∧ gi_ m 142 j = nI q.2.2.2.1 ∧ gi_ m 143 j = nI q.2.2.2.2.1 ∧ (q.1 = 1 → gi_ m 144 j = nI q.2.2.2.2.2.1 ∧ gl_ m 139 j = q.2.2.2.2.2.2) ∧ (q.1 = 0 → gi_ m 145 j = nI (q.2.2.2.2.2.1 / 1000) ∧ gi_ m 146 j = nI (q.2.2.2.2.2.1 / 100 % 10) ∧ gi_ m 147 j = nI (q.2.2.2.2.2.1 / 10 % 10) ∧ gi_ m 148 j = nI (q.2.2.2.2.2.1 % 10))
def fw_ (F : List fa_) (T : Nat) : Prop := F.length ≤ 200 ∧ T ≤ 100000 ∧ ∀ q ∈ F, wf_ q
def fc_ (F : List fa_) (T : Nat) (m : fm_) : Prop := gi_ m 72 7 = nI F.length ∧ gi_ m 72 8 = nI T ∧ ∀ j q, F[j]? = some q → fc1_ q j m
def fm1s_ (F : List fa_) (T : Nat) (m : fm_) : Prop := gi_ m 106 58 = nI F.length ∧ gi_ m 106 59 = nI T ∧ ∀ j q, F[j]? = some q → fm1_ q j m
def ut_ (q : fa_) (T : Nat) : fa_ := (q.1, q.2.1, some T, q.2.2.2)
def sun1_ (F : List fa_) (T j : Nat) (q : fa_) : Int32 × List fa_ := if q.1 = 3 then (0, F) else match q.2.2.1 with
  | none => (1, F.set j (ut_ q T))
  | some _ => (0, F)
def sun_ (F : List fa_) (T : Nat) (x : Int32) : Int32 × List fa_ := match nat_ x F.length with
  | none => (0, F)
  | some j => match F[j]? with
    | none => (0, F)
    | some q => sun1_ F T j q
theorem set_get {F : List fa_} {j i : Nat} {q r : fa_} (hj : j < F.length) (h : (F.set j q)[i]? = some r) : (i = j ∧ r = q) ∨ (¬ i = j ∧ F[i]? = some r) := by
  rw [List.getElem?_set] at h
  by_cases e : j = i
  · rw [if_pos e] at h
    subst e
    rw [if_pos hj] at h
    cases h
    exact Or.inl ⟨rfl, rfl⟩
  · rw [if_neg e] at h
    exact Or.inr ⟨fun q => e q.symm, h⟩
theorem fw_un {F : List fa_} {T : Nat} (h : fw_ F T) (x : Int32) : fw_ (sun_ F T x).2 T := by
  unfold sun_
  cases nat_ x F.length with
  | none => exact h
  | some j =>
    simp only
    cases hq : F[j]? with
    | none => exact h
    | some q =>
      simp only
      unfold sun1_
      by_cases h3 : q.1 = 3
      · rw [if_pos h3]; exact h
      rw [if_neg h3]
      cases hu : q.2.2.1 with
      | some t => exact h
      | none =>
        have hw := h.2.2 q (List.mem_of_getElem? hq)
        refine ⟨by rw [List.length_set]; exact h.1, h.2.1, fun r hr => ?_⟩
        rcases List.mem_or_eq_of_mem_set hr with hr | hr
        · exact h.2.2 r hr
        · subst hr
          exact ⟨hw.1, hw.2.1, fun t e => by cases e; exact h.2.1, hw.2.2.2⟩
theorem untell_c {F : List fa_} {T : Nat} {m : fm_} (hw : fw_ F T) (h : fc_ F T m) (x : Int32) : ∃ m1, f_X11_untell x m = some ((sun_ F T x).1, m1) ∧ fc_ (sun_ F T x).2 T m1 := by
  have hf : f_X6_forget m = some (0, si_ m 82 3 (gi_ m 82 3 + 1)) := rfl
  unfold f_X11_untell
  rw [hf]
  simp only [Option.bind]
  have h : fc_ F T (si_ m 82 3 (gi_ m 82 3 + 1)) := by
    obtain ⟨h1, h2, h3⟩ := h
    refine ⟨by rw [gi_si_ne (by omega)]; exact h1, by rw [gi_si_ne (by omega)]; exact h2, fun j q hj => ?_⟩
    have := h3 j q hj
    unfold fc1_ at this ⊢
    rw [gi_si_ne (by omega), gi_si_ne (by omega), gi_si_ne (by omega), gi_si_ne (by omega), gi_si_ne (by omega), gi_si_ne (by omega), gl_si]
    exact this
  generalize si_ m 82 3 (gi_ m 82 3 + 1) = m0 at h
  obtain ⟨h1, h2, h3⟩ := id h
  have hl := hw.1
  unfold f_X1_takeBack sun_
  rw [h1, und_]
  simp only [Option.bind]
  rcases nat_ix x (n := F.length) (by omega) with ⟨e, _⟩ | ⟨j, hj, rfl, e, -⟩
  · rw [if_pos (bu_0 e), e]; exact ⟨m0, rfl, h⟩
  have hq := List.getElem?_eq_getElem hj
  have hx : ix_ (nI j) 200 = true := ix_i (vp_in_nI (by omega) (by omega))
  have hr := h3 j F[j] hq
  have hwf := hw.2.2 F[j] (List.getElem_mem hj)
  rw [if_neg (bu_ne e), e, gd_t hx, gd_t hx, gd_t hx, nI_clamp (show j < 2 ^ 31 by omega)]
  simp only [hq]
  generalize hqq : F[j] = q at hq hr hwf
  obtain ⟨r1, r2, r3, r4, r5, r6, r7⟩ := hr
  unfold sun1_
  rw [r1, r3]
  by_cases h4 : q.1 = 3
  · rw [if_pos (show nI (q.1 + 1) = 4 by rw [h4]; rfl)]
    simp only [if_pos h4]
    exact ⟨m0, rfl, h⟩
  have hne : ¬ nI (q.1 + 1) = 4 := fun e => h4 (by have := (nI_eq (a := q.1 + 1) (b := 4) (by have := hwf.1; omega) (by omega)).mp e; omega)
  rw [if_neg hne]
  simp only [if_neg h4]
  cases hu : q.2.2.1 with
  | some t =>
    have ht := hwf.2.2.1 t hu
    have hne : ¬ un_ (some t) = -1 := fun e => by
      have e1 := congrArg Int32.toInt e
      rw [show un_ (some t) = nI t from rfl, nI_toInt (by omega)] at e1
      have e2 : Int32.toInt (-1) = -1 := by decide
      omega
    rw [if_neg hne]
    exact ⟨m0, rfl, h⟩
  | none =>
    rw [if_pos (show un_ none = -1 from rfl)]
    simp only
    refine ⟨_, rfl, by rw [gi_si_ne (by omega), List.length_set]; exact h1, by rw [gi_si_ne (by omega)]; exact h2, fun i r hi => ?_⟩
    unfold fc1_
    have f : ∀ b, ¬ b = 75 → gi_ (si_ m0 75 j (gi_ m0 72 8)) b i = gi_ m0 b i := fun b hb => gi_si_ne (by omega)
    rw [f 73 (by omega), f 74 (by omega), f 76 (by omega), f 77 (by omega), f 78 (by omega), gl_si]
    rcases set_get hj hi with ⟨e1, e2⟩ | ⟨e1, e2⟩
    · subst e1
      subst e2
      exact ⟨r1, r2, by rw [gi_si_self, h2]; rfl, r4, r5, r6, r7⟩
    · rw [gi_si_ne (by omega)]
      exact h3 i r e2
theorem untell_m {F : List fa_} {T : Nat} {m : fm_} (hw : fw_ F T) (h : fm1s_ F T m) (x : Int32) : ∃ m1, f_X12_untell x m = some ((sun_ F T x).1, m1) ∧ fm1s_ (sun_ F T x).2 T m1 := by
  obtain ⟨h1, h2, h3⟩ := id h
  have hl := hw.1
  unfold f_X12_untell sun_
  rw [h1]
  rcases nat_ix x (n := F.length) (by omega) with ⟨e, q | ⟨q, q2⟩⟩ | ⟨j, hj, rfl, e, q, q2⟩
  · rw [if_pos q, e]; exact ⟨m, rfl, h⟩
  · rw [if_neg q, if_pos q2, e]; exact ⟨m, rfl, h⟩
  have hq := List.getElem?_eq_getElem hj
  have hx : ix_ (nI j) 200 = true := ix_i (vp_in_nI (by omega) (by omega))
  have hr := h3 j F[j] hq
  have hwf := hw.2.2 F[j] (List.getElem_mem hj)
  rw [if_neg q, if_neg q2, e, gd_t hx, gd_t hx, gd_t hx, nI_clamp (show j < 2 ^ 31 by omega)]
  simp only [hq]
  generalize hqq : F[j] = q at hq hr hwf
  obtain ⟨r1, r2, r3, r4, r5, r6, r7⟩ := hr
  unfold sun1_
  rw [r1, r3]
  by_cases h4 : q.1 = 3
  · rw [if_pos (show nI q.1 = 3 by rw [h4]; rfl)]
    simp only [if_pos h4]
    exact ⟨m, rfl, h⟩
  have hne : ¬ nI q.1 = 3 := fun e => h4 ((nI_eq (a := q.1) (b := 3) (by have := hwf.1; omega) (by omega)).mp e)
  rw [if_neg hne]
  simp only [if_neg h4]
  cases hu : q.2.2.1 with
  | some t =>
    have ht := hwf.2.2.1 t hu
    rw [if_neg (show ¬ un_ (some t) < 0 from nI_pos (by omega))]
    exact ⟨m, rfl, h⟩
  | none =>
    rw [if_pos (show un_ none < 0 by decide)]
    simp only
    refine ⟨_, rfl, by rw [gi_si_ne (by omega), List.length_set]; exact h1, by rw [gi_si_ne (by omega)]; exact h2, fun i r hi => ?_⟩
    have f : ∀ b, ¬ b = 150 → gi_ (si_ m 150 j (gi_ m 106 59)) b i = gi_ m b i := fun b hb => gi_si_ne (by omega)
    unfold fm1_
    rw [f 141 (by omega), f 149 (by omega), f 142 (by omega), f 143 (by omega), f 144 (by omega), f 145 (by omega), f 146 (by omega), f 147 (by omega), f 148 (by omega), gl_si]
    rcases set_get hj hi with ⟨e1, e2⟩ | ⟨e1, e2⟩
    · subst e1
      subst e2
      exact ⟨r1, r2, by rw [gi_si_self, h2]; rfl, r4, r5, r6, r7⟩
    · rw [gi_si_ne (by omega)]
      exact h3 i r e2
