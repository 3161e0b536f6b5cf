theorem isp_m {P : pl_} {m : fm_} (h : pm_ P m) (x : Int32) : f_X12_isPlate x m = some (bu_ x P.length, m) := by
  unfold f_X12_isPlate bu_ nat_
  rw [h.1]
  by_cases h1 : x < 0
  · rw [if_pos h1, if_pos h1]; rfl
  · rw [if_neg h1, if_neg h1]
    by_cases h2 : nI P.length ≤ x
    · rw [if_pos h2, if_pos h2]; rfl
    · rw [if_neg h2, if_neg h2]; rfl
theorem iss_m (x : Int32) (m : fm_) : f_X12_isSmall x m = some (bu_ x 10, m) := by
  unfold f_X12_isSmall bu_ nat_
  by_cases h1 : x < 0
  · rw [if_pos h1, if_pos h1]; rfl
  · rw [if_neg h1, if_neg h1]
    have e : (9 : Int32) < x ↔ nI 10 ≤ x := by
      rw [Int32.lt_iff_toInt_lt, Int32.le_iff_toInt_le, nI_toInt (by omega), show (9 : Int32).toInt = 9 from rfl]
      omega
    by_cases h2 : nI 10 ≤ x
    · rw [if_pos (e.mpr h2), if_pos h2]; rfl
    · rw [if_neg fun q => h2 (e.mp q), if_neg h2]; rfl
theorem pap_m {F : List fa_} {T : Nat} {P : pl_} {m : fm_} (hw : fw_ F T) (h : fm1s_ F T m) (hP : P.length ≤ 10) (hp : pm_ P m) (p1 p2 p3 p4 p5 p6 : Int32) : ∃ m1, f_X12_papers p1 p2 p3 p4 p5 p6 m = some ((spap_ F T P.length p1 p2 p3 p4 p5 p6).1, m1) ∧ fm1s_ (spap_ F T P.length p1 p2 p3 p4 p5 p6).2 T m1 := by
  obtain ⟨h1, h2, h3⟩ := id h
  have hl := hw.1
  unfold f_X12_papers spap_
  rw [h1]
  by_cases h200 : F.length < 200
  rotate_left
  · rw [if_pos (show nI F.length = 200 by rw [show F.length = 200 by omega]; rfl)]
    refine ⟨m, ?_⟩
    simp only [if_neg h200]
    cases nat_ p1 P.length with
    | none => exact ⟨rfl, h⟩
    | some a =>
      cases nat_ p2 100 with
      | none => exact ⟨rfl, h⟩
      | some b =>
        cases nat_ p3 10 with
        | none => exact ⟨rfl, h⟩
        | some c =>
          cases nat_ p4 10 with
          | none => exact ⟨rfl, h⟩
          | some d =>
            cases nat_ p5 10 with
            | none => exact ⟨rfl, h⟩
            | some e =>
              cases nat_ p6 2 with
              | none => exact ⟨rfl, h⟩
              | some f => exact ⟨rfl, h⟩
  rw [if_neg (show ¬ nI F.length = 200 from fun e => by have := (nI_eq (b := 200) (by omega) (by omega)).mp e; omega), isp_m hp]
  simp only [Option.bind]
  rcases nat_ix p1 (n := P.length) (by omega) with ⟨e1, _⟩ | ⟨a, ha, rfl, e1, -⟩
  · rw [if_pos (bu_0 e1), e1]; exact ⟨m, rfl, h⟩
  rw [if_neg (bu_ne e1), e1, day_m]
  simp only
  rcases nat_ix p2 (n := 100) (by omega) with ⟨e2, _⟩ | ⟨d, hd, rfl, e2, -⟩
  · rw [if_pos (bu_0 e2), e2]; exact ⟨m, rfl, h⟩
  rw [if_neg (bu_ne e2), e2, iss_m]
  simp only
  rcases nat_ix p3 (n := 10) (by omega) with ⟨e3, _⟩ | ⟨f, hf, rfl, e3, -⟩
  · rw [if_pos (bu_0 e3), e3]; exact ⟨m, rfl, h⟩
  rw [if_neg (bu_ne e3), e3, iss_m]
  simp only
  rcases nat_ix p4 (n := 10) (by omega) with ⟨e4, _⟩ | ⟨n, hn, rfl, e4, -⟩
  · rw [if_pos (bu_0 e4), e4]; exact ⟨m, rfl, h⟩
  rw [if_neg (bu_ne e4), e4, iss_m]
  simp only
  rcases nat_ix p5 (n := 10) (by omega) with ⟨e5, _⟩ | ⟨k, hk, rfl, e5, -⟩
  · rw [if_pos (bu_0 e5), e5]; exact ⟨m, rfl, h⟩
  rw [if_neg (bu_ne e5), e5]
  rcases nat_ix p6 (n := 2) (by omega) with ⟨e6, q | ⟨q, q2⟩⟩ | ⟨g, hg, rfl, e6, q, -⟩
  · rw [if_pos q, e6]; exact ⟨m, rfl, h⟩
  · have hn1 : ¬ p6 ≤ 1 := by
      rw [Int32.le_iff_toInt_le, nI_toInt (by omega)] at q2
      rw [Int32.le_iff_toInt_le, show (1 : Int32).toInt = 1 from rfl]
      omega
    rw [if_neg q, if_neg hn1, e6]; exact ⟨m, rfl, h⟩
  rw [if_neg q, if_pos (show nI g ≤ (1 : Int32) from nI_le (b := 1) (by omega) (by omega)), e6, h1]
  have hx : ix_ (nI F.length) 200 = true := ix_i (vp_in_nI h200 (by omega))
  simp only [gd_t hx, nI_clamp (show F.length < 2 ^ 31 by omega), if_pos h200]
  generalize hm0 : si_ (si_ (si_ (si_ m 145 F.length (nI f)) 146 F.length (nI n)) 147 F.length (nI k)) 148 F.length (nI g) = m0
  have h0 : fm1s_ F T m0 := by
    subst hm0
    refine ⟨by rw [gi_si_ne (by omega), gi_si_ne (by omega), gi_si_ne (by omega), gi_si_ne (by omega)]; exact h1, by rw [gi_si_ne (by omega), gi_si_ne (by omega), gi_si_ne (by omega), gi_si_ne (by omega)]; exact h2, fun j r hj => ?_⟩
    have := h3 j r hj
    have hjn : ¬ j = F.length := by have := (List.getElem?_eq_some_iff.mp hj).1; omega
    unfold fm1_ at this ⊢
    simp only [gi_si, gl_si, hjn, and_false, if_false]
    simpa using this
  obtain ⟨m1, q1, q2⟩ := add_mf h0 h200 (kd := 0) (ho := a) (dy := d) (de := f * 1000 + n * 100 + k * 10 + g) (by omega) (fun _ => by
    subst hm0
    refine ⟨?_, ?_, ?_, ?_⟩
    · rw [gi_si_ne (by omega), gi_si_ne (by omega), gi_si_ne (by omega), gi_si_self]; congr 1; omega
    · rw [gi_si_ne (by omega), gi_si_ne (by omega), gi_si_self]; congr 1; omega
    · rw [gi_si_ne (by omega), gi_si_self]; congr 1; omega
    · rw [gi_si_self]; congr 1; omega)
  rw [show (0 : Int32) = nI 0 from rfl, q1]
  exact ⟨m1, rfl, q2⟩
/-! appeals -/
def sapp_ (F : List fa_) (T P : Nat) (p1 p2 : Int32) : Int32 × List fa_ := match nat_ p1 P, nat_ p2 100 with
  | some a, some d => if F.length < 200 then (nI F.length, F ++ [fnew_ 2 T a d 0]) else (-1, F)
  | _, _ => (-1, F)
theorem ipd_c {P : pl_} {m : fm_} (h : pc_ P m) (x y : Int32) : f_X11_isPlateAndDay x y m = some (if (nat_ x P.length).isSome && (nat_ y 100).isSome then 1 else 0, m) := by
  unfold f_X11_isPlateAndDay
  rw [h.2.2.1, und_]
  simp only [Option.bind]
  rw [day_c]
  simp only
  cases e1 : nat_ x P.length with
  | none => rw [if_pos (bu_0 e1)]; rfl
  | some a =>
    rw [if_neg (bu_ne e1)]
    cases e2 : nat_ y 100 with
    | none => rw [if_pos (bu_0 e2)]; rfl
    | some b => rw [if_neg (bu_ne e2)]; rfl
theorem app_c {F : List fa_} {T : Nat} {P : pl_} {m : fm_} (hw : fw_ F T) (h : fc_ F T m) (hp : pc_ P m) (p1 p2 : Int32) : ∃ m1, f_X11_appeal p1 p2 m = some ((sapp_ F T P.length p1 p2).1, m1) ∧ fc_ (sapp_ F T P.length p1 p2).2 T m1 := by
  have hl := hw.1
  have hP := hp.1
  unfold f_X11_appeal sapp_
  rw [ipd_c hp]
  simp only [Option.bind]
  rcases nat_ix p1 (n := P.length) (by omega) with ⟨e1, _⟩ | ⟨a, ha, rfl, e1, -⟩
  · rw [e1]; exact ⟨m, rfl, h⟩
  rcases nat_ix p2 (n := 100) (by omega) with ⟨e2, _⟩ | ⟨d, hd, rfl, e2, -⟩
  · rw [e1, e2]; exact ⟨m, rfl, h⟩
  rw [e1, e2, if_neg (show ¬ (if ((some a).isSome && (some d).isSome) = true then (1 : Int32) else 0) = 0 from (show ¬ (1 : Int32) = 0 by decide)), h.1]
  by_cases h200 : F.length < 200
  · rw [if_pos (show nI F.length < (200 : Int32) from nI_lt (b := 200) h200 (by omega))]
    obtain ⟨m1, q1, q2⟩ := add_cf h h200 (kd := 2) (ho := a) (dy := d) (de := 0) (by omega)
    unfold f_X1_addAppeal
    rw [show (3 : Int32) = nI (2 + 1) from rfl, show (0 : Int32) = nI 0 from rfl, q1]
    simp only [Option.bind, if_pos h200]
    exact ⟨m1, rfl, q2⟩
  · rw [if_neg (show ¬ nI F.length < (200 : Int32) from nI_nlt (b := 200) (by omega) (by omega))]
    simp only [if_neg h200]
    exact ⟨m, rfl, h⟩
theorem app_m {F : List fa_} {T : Nat} {P : pl_} {m : fm_} (hw : fw_ F T) (h : fm1s_ F T m) (hP : P.length ≤ 10) (hp : pm_ P m) (p1 p2 : Int32) : ∃ m1, f_X12_appeal p1 p2 m = some ((sapp_ F T P.length p1 p2).1, m1) ∧ fm1s_ (sapp_ F T P.length p1 p2).2 T m1 := by
  have hl := hw.1
  unfold f_X12_appeal sapp_
  rw [h.1]
  by_cases h200 : F.length < 200
  rotate_left
  · rw [if_pos (show nI F.length = 200 by rw [show F.length = 200 by omega]; rfl)]
    refine ⟨m, ?_⟩
    simp only [if_neg h200]
    cases nat_ p1 P.length with
    | none => exact ⟨rfl, h⟩
    | some a =>
      cases nat_ p2 100 with
      | none => exact ⟨rfl, h⟩
      | some b => exact ⟨rfl, h⟩
  rw [if_neg (show ¬ nI F.length = 200 from fun e => by have := (nI_eq (b := 200) (by omega) (by omega)).mp e; omega), isp_m hp]
  simp only [Option.bind]
  rcases nat_ix p1 (n := P.length) (by omega) with ⟨e1, _⟩ | ⟨a, ha, rfl, e1, -⟩
  · rw [if_pos (bu_0 e1), e1]; exact ⟨m, rfl, h⟩
  rw [if_neg (bu_ne e1), e1, day_m]
  simp only
  rcases nat_ix p2 (n := 100) (by omega) with ⟨e2, _⟩ | ⟨d, hd, rfl, e2, -⟩
  · rw [if_pos (bu_0 e2), e2]; exact ⟨m, rfl, h⟩
  rw [if_neg (bu_ne e2), e2]
  obtain ⟨m1, q1, q2⟩ := add_mf h h200 (kd := 2) (ho := a) (dy := d) (de := 0) (by omega) (fun e => by omega)
  rw [show (2 : Int32) = nI 2 from rfl, q1]
  simp only [if_pos h200]
  exact ⟨m1, rfl, q2⟩
