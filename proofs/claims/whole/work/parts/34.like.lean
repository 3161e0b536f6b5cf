/-! ===== fault, like ===== -/
def sfl_ (a b : Int32) (x : Int32) : Int32 := if x = 0 then a else if x = 1 then b else -1
theorem fault_c {m : fm_} {a b : Int32} (h1 : gi_ m 1 7 = a) (h2 : gi_ m 1 8 = b) (x : Int32) : f_X11_fault x m = some (sfl_ a b x, m) := by
  unfold f_X11_fault sfl_
  rw [h1, h2]
  by_cases q1 : x = 0
  · rw [if_pos q1, if_pos q1]
  · rw [if_neg q1, if_neg q1]
    by_cases q2 : x = 1
    · rw [if_pos q2, if_pos q2]
    · rw [if_neg q2, if_neg q2]
theorem fault_m {m : fm_} {a b : Int32} (h1 : gi_ m 106 2 = a) (h2 : gi_ m 106 3 = b) (x : Int32) : f_X12_fault x m = some (sfl_ a b x, m) := by
  unfold f_X12_fault sfl_
  rw [h1, h2]
  by_cases q1 : x = 0
  · rw [if_pos q1, if_pos q1]
  · rw [if_neg q1, if_neg q1]
    by_cases q2 : x = 1
    · rw [if_pos q2, if_pos q2]
    · rw [if_neg q2, if_neg q2]
/-- the reading of that number -/
def rdg_ (F : List fa_) (x : Int32) : Option (Nat × fa_) := match nat_ x F.length with
  | none => none
  | some j => match F[j]? with
    | none => none
    | some q => if q.1 = 1 then some (j, q) else none
theorem rdg_u {F : List fa_} {x : Int32} {j : Nat} {q : fa_} (hF : F.length ≤ 200) (h : rdg_ F x = some (j, q)) : x = nI j ∧ j < F.length ∧ F[j]? = some q ∧ q.1 = 1 := by
  unfold rdg_ at h
  rcases nat_ix x (n := F.length) (by omega) with ⟨e, _⟩ | ⟨i, hi, rfl, e, -⟩
  · rw [e] at h; cases h
  · rw [e] at h
    simp only at h
    cases hq : F[i]? with
    | none => rw [hq] at h; cases h
    | some r =>
      rw [hq] at h
      simp only at h
      by_cases h1 : r.1 = 1
      · rw [if_pos h1] at h
        cases h
        exact ⟨rfl, hi, hq, h1⟩
      · rw [if_neg h1] at h; cases h
theorem isr_c {F : List fa_} {T : Nat} {m : fm_} (hw : fw_ F T) (h : fc_ F T m) (x : Int32) : f_X1_isReading x m = some (if (rdg_ F x).isSome = true then 1 else 0, m) := by
  obtain ⟨h1, h2, h3⟩ := h
  have hl := hw.1
  unfold f_X1_isReading rdg_
  rw [h1]
  rcases nat_ix x (n := F.length) (by omega) with ⟨e, q | ⟨q, q2⟩⟩ | ⟨j, hj, rfl, e, q, q2⟩
  · rw [if_pos q, e]; rfl
  · rw [if_neg q, if_pos q2, e]; rfl
  have hq := List.getElem?_eq_getElem hj
  have hr := (h3 j F[j] hq).1
  have hwf := (hw.2.2 F[j] (List.getElem_mem hj)).1
  rw [if_neg q, if_neg q2, e, gd_t (ix_i (vp_in_nI (show j < 200 by omega) (by omega))), nI_clamp (show j < 2 ^ 31 by omega), hr]
  simp only [hq]
  by_cases h4 : F[j].1 = 1
  · rw [if_pos (show nI (F[j].1 + 1) = 2 by rw [h4]; rfl), if_pos h4]; rfl
  · rw [if_neg (show ¬ nI (F[j].1 + 1) = 2 from fun e => h4 (by have := (nI_eq (b := 2) (by omega) (by omega)).mp e; omega)), if_neg h4]; rfl
theorem isr_m {F : List fa_} {T : Nat} {m : fm_} (hw : fw_ F T) (h : fm1s_ F T m) (x : Int32) : f_X12_isReading x m = some (if (rdg_ F x).isSome = true then 1 else 0, m) := by
  obtain ⟨h1, h2, h3⟩ := h
  have hl := hw.1
  unfold f_X12_isReading rdg_
  rw [h1]
  rcases nat_ix x (n := F.length) (by omega) with ⟨e, q | ⟨q, q2⟩⟩ | ⟨j, hj, rfl, e, q, q2⟩
  · rw [if_pos q, e]; rfl
  · rw [if_neg q, if_pos q2, e]; rfl
  have hq := List.getElem?_eq_getElem hj
  have hr := (h3 j F[j] hq).1
  have hwf := (hw.2.2 F[j] (List.getElem_mem hj)).1
  rw [if_neg q, if_neg q2, e, gd_t (ix_i (vp_in_nI (show j < 200 by omega) (by omega))), nI_clamp (show j < 2 ^ 31 by omega), hr]
  simp only [hq]
  by_cases h4 : F[j].1 = 1
  · rw [if_pos (show nI F[j].1 = 1 by rw [h4]; rfl), if_pos h4]; rfl
  · rw [if_neg (show ¬ nI F[j].1 = 1 from fun e => h4 ((nI_eq (b := 1) (by omega) (by omega)).mp e)), if_neg h4]; rfl
def slk_ (F : List fa_) (P : pl_) (x y : Int32) : Int32 := match rdg_ F x, nat_ y P.length with
  | some z, some k => match P[k]? with
    | some p => lk_ z.2.2.2.2.2.2.2 p.1
    | none => -1
  | _, _ => -1
theorem like_c {F : List fa_} {T : Nat} {P : pl_} {m : fm_} (hw : fw_ F T) (h : fc_ F T m) (hp : pc_ P m) (x y : Int32) : f_X11_like x y m = some (slk_ F P x y, m) := by
  have hl := hw.1
  have hP := hp.1
  unfold f_X11_like slk_
  rw [isr_c hw h]
  simp only [Option.bind]
  cases hr : rdg_ F x with
  | none => rfl
  | some z =>
    obtain ⟨j, q⟩ := z
    obtain ⟨rfl, hj, hq, h1⟩ := rdg_u hl hr
    rw [if_neg (show ¬ (if (some (j, q)).isSome = true then (1 : Int32) else 0) = 0 from (show ¬ (1 : Int32) = 0 by decide)), hp.2.2.1, und_]
    simp only
    rcases nat_ix y (n := P.length) (by omega) with ⟨e, _⟩ | ⟨k, hk, rfl, e, -⟩
    · rw [if_pos (bu_0 e), e]
    have hg := List.getElem?_eq_getElem hk
    rw [if_neg (bu_ne e), e, gd_t (ix_i (vp_in_nI (show j < 200 by omega) (by omega))), gd_t (ix_i (vp_in_nI (show k < 10 by omega) (by omega))), nI_clamp (show j < 2 ^ 31 by omega), nI_clamp (show k < 2 ^ 31 by omega), lk_all, (hp.2.2.2 k P[k] hg).1, (h.2.2 j q hq).2.2.2.2.2.2 h1]
    simp only [hg]
theorem like_m {F : List fa_} {T : Nat} {P : pl_} {m : fm_} (hw : fw_ F T) (h : fm1s_ F T m) (hP : P.length ≤ 10) (hp : pm_ P m) (x y : Int32) : f_X12_like x y m = some (slk_ F P x y, m) := by
  have hl := hw.1
  unfold f_X12_like slk_
  rw [isr_m hw h]
  simp only [Option.bind]
  cases hr : rdg_ F x with
  | none => rfl
  | some z =>
    obtain ⟨j, q⟩ := z
    obtain ⟨rfl, hj, hq, h1⟩ := rdg_u hl hr
    rw [if_neg (show ¬ (if (some (j, q)).isSome = true then (1 : Int32) else 0) = 0 from (show ¬ (1 : Int32) = 0 by decide)), isp_m hp]
    simp only
    rcases nat_ix y (n := P.length) (by omega) with ⟨e, _⟩ | ⟨k, hk, rfl, e, -⟩
    · rw [if_pos (bu_0 e), e]
    have hg := List.getElem?_eq_getElem hk
    rw [if_neg (bu_ne e), e, lk_mall (show j < 200 by omega) (show k < 10 by omega) ((h.2.2 j q hq).2.2.2.2.2.1 h1).2 (hp.2 k P[k] hg).1]
    simp only [hg]
