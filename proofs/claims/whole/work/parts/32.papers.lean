/-! ===== papers, appeals ===== -/
def fnew_ (kd T ho dy de : Nat) : fa_ := (kd, T, none, ho, dy, de, 0)
theorem fw_add {F : List fa_} {T : Nat} (h : fw_ F T) (hl : F.length < 200) {q : fa_} (hq : wf_ q) : fw_ (F ++ [q]) T :=
  ⟨by rw [List.length_append]; exact hl, h.2.1, fun r hr => by
    rcases List.mem_append.mp hr with hr | hr
    · exact h.2.2 r hr
    · rw [List.mem_singleton.mp hr]; exact hq⟩
theorem add_cf {F : List fa_} {T : Nat} {m : fm_} (h : fc_ F T m) (hl : F.length < 200) {kd ho dy de : Nat} (hkd : ¬ kd = 1) : ∃ m1, f_X1_add (nI (kd + 1)) (nI ho) (nI dy) (nI de) m = some (nI F.length, m1) ∧ fc_ (F ++ [fnew_ kd T ho dy de]) T m1 := by
  obtain ⟨h1, h2, h3⟩ := h
  have hx : ix_ (nI F.length) 200 = true := ix_i (vp_in_nI hl (by omega))
  unfold f_X1_add
  rw [h1, h2, if_pos (show nI F.length < (200 : Int32) from nI_lt (b := 200) hl (by omega))]
  simp only [gd_t hx, nI_clamp (show F.length < 2 ^ 31 by omega), nI_1, nI_pred]
  refine ⟨_, rfl, by rw [gi_si_self, List.length_append]; rfl, ?_, fun j q hj => ?_⟩
  · rw [gi_si_ne (by omega), gi_si_ne (by omega), gi_si_ne (by omega), gi_si_ne (by omega), gi_si_ne (by omega), gi_si_ne (by omega), gi_si_ne (by omega)]
    exact h2
  · rcases ap_get hj with ⟨q1, q2⟩ | ⟨q1, q2⟩
    · have := h3 j q q2
      unfold fc1_ at this ⊢
      have hjn : ¬ j = F.length := by omega
      simp only [gi_si, gl_si, hjn, and_false, if_false]
      simpa using this
    · subst q1
      subst q2
      unfold fc1_ fnew_
      refine ⟨?_, ?_, ?_, ?_, ?_, ?_, fun e => absurd e hkd⟩
      · simp [gi_si]
      · simp [gi_si]
      · simp [gi_si, un_]
      · simp [gi_si]
      · simp [gi_si]
      · simp [gi_si]
theorem add_mf {F : List fa_} {T : Nat} {m : fm_} (h : fm1s_ F T m) (hl : F.length < 200) {kd ho dy de : Nat} (hkd : ¬ kd = 1) (hd : kd = 0 → gi_ m 145 F.length = nI (de / 1000) ∧ gi_ m 146 F.length = nI (de / 100 % 10) ∧ gi_ m 147 F.length = nI (de / 10 % 10) ∧ gi_ m 148 F.length = nI (de % 10)) : ∃ m1, f_X12_fact (nI kd) (nI ho) (nI dy) m = some (nI F.length, m1) ∧ fm1s_ (F ++ [fnew_ kd T ho dy de]) T m1 := by
  obtain ⟨h1, h2, h3⟩ := h
  have hx : ix_ (nI F.length) 200 = true := ix_i (vp_in_nI hl (by omega))
  unfold f_X12_fact
  rw [h1, h2]
  simp only [gd_t hx, nI_clamp (show F.length < 2 ^ 31 by omega), nI_1, nI_pred]
  refine ⟨_, rfl, by rw [gi_si_self, List.length_append]; rfl, ?_, fun j q hj => ?_⟩
  · rw [gi_si_ne (by omega), gi_si_ne (by omega), gi_si_ne (by omega), gi_si_ne (by omega), gi_si_ne (by omega), gi_si_ne (by omega)]
    exact h2
  · rcases ap_get hj with ⟨q1, q2⟩ | ⟨q1, q2⟩
    · have := h3 j q q2
      unfold fm1_ at this ⊢
      have hjn : ¬ j = F.length := by omega
      simp only [gi_si, gl_si, hjn, and_false, if_false]
      simpa using this
    · subst q1
      subst q2
      unfold fm1_ fnew_
      refine ⟨?_, ?_, ?_, ?_, ?_, fun e => absurd e hkd, fun e => ?_⟩
      · simp [gi_si]
      · simp [gi_si]
      · simp [gi_si, un_]
      · simp [gi_si]
      · simp [gi_si]
      · have := hd e
        simpa [gi_si] using this
def spap_ (F : List fa_) (T P : Nat) (p1 p2 p3 p4 p5 p6 : Int32) : Int32 × List fa_ := match nat_ p1 P, nat_ p2 100, nat_ p3 10, nat_ p4 10, nat_ p5 10, nat_ p6 2 with
  | some a, some d, some f, some n, some k, some h => if F.length < 200 then (nI F.length, F ++ [fnew_ 0 T a d (f * 1000 + n * 100 + k * 10 + h)]) else (-1, F)
  | _, _, _, _, _, _ => (-1, F)
theorem pap_c {F : List fa_} {T : Nat} {P : pl_} {m : fm_} (hw : fw_ F T) (h : fc_ F T m) (hp : pc_ P m) (p1 p2 p3 p4 p5 p6 : Int32) : ∃ m1, f_X11_papers p1 p2 p3 p4 p5 p6 m = some ((spap_ F T P.length p1 p2 p3 p4 p5 p6).1, m1) ∧ fc_ (spap_ F T P.length p1 p2 p3 p4 p5 p6).2 T m1 := by
  unfold f_X11_papers spap_
  have hP := hp.1
  rw [hp.2.2.1, und_, show (10 : Int32) = nI 10 from rfl, show (2 : Int32) = nI 2 from rfl]
  simp only [Option.bind]
  rcases nat_ix p1 (n := P.length) (by omega) with ⟨e1, _⟩ | ⟨a, ha, rfl, e1, -⟩
  · rw [if_pos (bu_0 e1), e1]; exact ⟨m, rfl, h⟩
  rw [if_neg (bu_ne e1), e1, day_c]
  simp only
  rcases nat_ix p2 (n := 100) (by omega) with ⟨e2, _⟩ | ⟨d, hd, rfl, e2, -⟩
  · rw [if_pos (bu_0 e2), e2]; exact ⟨m, rfl, h⟩
  rw [if_neg (bu_ne e2), e2, und_]
  simp only
  rcases nat_ix p3 (n := 10) (by omega) with ⟨e3, _⟩ | ⟨f, hf, rfl, e3, -⟩
  · rw [if_pos (bu_0 e3), e3]; exact ⟨m, rfl, h⟩
  rw [if_neg (bu_ne e3), e3, und_]
  simp only
  rcases nat_ix p4 (n := 10) (by omega) with ⟨e4, _⟩ | ⟨n, hn, rfl, e4, -⟩
  · rw [if_pos (bu_0 e4), e4]; exact ⟨m, rfl, h⟩
  rw [if_neg (bu_ne e4), e4, und_]
  simp only
  rcases nat_ix p5 (n := 10) (by omega) with ⟨e5, _⟩ | ⟨k, hk, rfl, e5, -⟩
  · rw [if_pos (bu_0 e5), e5]; exact ⟨m, rfl, h⟩
  rw [if_neg (bu_ne e5), e5, und_]
  simp only
  rcases nat_ix p6 (n := 2) (by omega) with ⟨e6, _⟩ | ⟨g, hg, rfl, e6, -⟩
  · rw [if_pos (bu_0 e6), e6]; exact ⟨m, rfl, h⟩
  rw [if_neg (bu_ne e6), e6, h.1]
  have hde : nI f * 1000 + nI n * 100 + nI k * nI 10 + nI g = nI (f * 1000 + n * 100 + k * 10 + g) := by
    rw [show (1000 : Int32) = nI 1000 from rfl, show (100 : Int32) = nI 100 from rfl, pk_mul, pk_mul, pk_mul, nI_add, nI_add, nI_add]
  have hl := hw.1
  by_cases h200 : F.length < 200
  · rw [if_pos (show nI F.length < (200 : Int32) from nI_lt (b := 200) h200 (by omega)), hde]
    obtain ⟨m1, q1, q2⟩ := add_cf h h200 (kd := 0) (ho := a) (dy := d) (de := f * 1000 + n * 100 + k * 10 + g) (by omega)
    unfold f_X1_addPapers
    rw [show (1 : Int32) = nI (0 + 1) from rfl, q1]
    simp only [Option.bind, if_pos h200]
    exact ⟨m1, rfl, q2⟩
  · rw [if_neg (show ¬ nI F.length < (200 : Int32) from nI_nlt (b := 200) (by omega) (by omega))]
    simp only [if_neg h200]
    exact ⟨m, rfl, h⟩
