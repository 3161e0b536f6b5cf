/-! ===== plates ===== -/
abbrev pl_ : Type := List (Int64 × Nat)
def pc_ (P : pl_) (m : fm_) : Prop := P.length ≤ 10 ∧ (∀ q ∈ P, q.2 < 10) ∧ gi_ m 69 2 = nI P.length ∧ ∀ j q, P[j]? = some q → gl_ m 70 j = q.1 ∧ gi_ m 71 j = nI q.2
def pm_ (P : pl_) (m : fm_) : Prop := gi_ m 106 57 = nI P.length ∧ ∀ j q, P[j]? = some q → gl_ m 138 j = q.1 ∧ gi_ m 140 j = nI q.2
def has_ (y : Int64) (P : pl_) : Bool := P.any fun q => decide (q.1 = y)
def okp_ (x : Int64) : Bool := al_ (fun j => isg_ 0 (sg_ x j)) 6 0
def spl_ (P : pl_) (x : Int64) (f : Int32) : Int32 × pl_ := match nat_ f 10 with
  | none => (-1, P)
  | some k => if P.length = 10 then (-1, P) else if okp_ x = false then (-1, P) else if has_ (x &&& 281474976710655) P = true then (-1, P) else (nI P.length, P ++ [(x &&& 281474976710655, k)])
theorem okp_mask (x : Int64) : okp_ (x &&& 281474976710655) = okp_ x := by
  unfold okp_
  show (isg_ 0 (sg_ _ 0) && (isg_ 0 (sg_ _ 1) && (isg_ 0 (sg_ _ 2) && (isg_ 0 (sg_ _ 3) && (isg_ 0 (sg_ _ 4) && (isg_ 0 (sg_ _ 5) && true)))))) = _
  rw [sg_mask x (show 0 < 6 by omega), sg_mask x (show 1 < 6 by omega), sg_mask x (show 2 < 6 by omega), sg_mask x (show 3 < 6 by omega), sg_mask x (show 4 < 6 by omega), sg_mask x (show 5 < 6 by omega)]
  rfl
theorem gl_sl_self {m : fm_} {a k : Nat} {x : Int64} : gl_ (sl_ m a k x) a k = x := by rw [gl_sl, if_pos ⟨rfl, rfl⟩]
theorem gl_sl_ne {m : fm_} {a k : Nat} {x : Int64} {b j : Nat} (h : ¬ (b = a ∧ j = k)) : gl_ (sl_ m a k x) b j = gl_ m b j := by rw [gl_sl, if_neg h]
def ap_c (P : pl_) (y : Int64) (k : Nat) (m : fm_) : fm_ := si_ (si_ (sl_ m 70 P.length y) 71 P.length (nI k)) 69 2 (nI (P.length + 1))
def ap_m (P : pl_) (y : Int64) (k : Nat) (m : fm_) : fm_ := si_ (si_ (sl_ m 138 P.length y) 140 P.length (nI k)) 106 57 (nI (P.length + 1))
theorem pc_add {P : pl_} {m : fm_} (h : pc_ P m) (hl : P.length < 10) (y : Int64) {k : Nat} (hk : k < 10) : pc_ (P ++ [(y, k)]) (ap_c P y k m) := by
  obtain ⟨h1, h2, h3, h4⟩ := h
  refine ⟨by rw [List.length_append]; exact hl, fun q hq => ?_, by unfold ap_c; rw [gi_si_self, List.length_append]; rfl, fun j q hj => ?_⟩
  · rcases List.mem_append.mp hq with hq | hq
    · exact h2 q hq
    · rw [List.mem_singleton.mp hq]; exact hk
  · unfold ap_c
    rw [gl_si, gl_si, gi_si_ne (by omega)]
    rcases ap_get hj with ⟨q1, q2⟩ | ⟨q1, q2⟩
    · rw [gl_sl_ne (by omega), gi_si_ne (by omega), gi_sl]
      exact h4 j q q2
    · subst q1
      rw [gl_sl_self, gi_si_self, q2]
      exact ⟨rfl, rfl⟩
theorem pm_add {P : pl_} {m : fm_} (h : pm_ P m) (y : Int64) (k : Nat) : pm_ (P ++ [(y, k)]) (ap_m P y k m) := by
  obtain ⟨h3, h4⟩ := h
  refine ⟨by unfold ap_m; rw [gi_si_self, List.length_append]; rfl, fun j q hj => ?_⟩
  unfold ap_m
  rw [gl_si, gl_si, gi_si_ne (by omega)]
  rcases ap_get hj with ⟨q1, q2⟩ | ⟨q1, q2⟩
  · rw [gl_sl_ne (by omega), gi_si_ne (by omega), gi_sl]
    exact h4 j q q2
  · subst q1
    rw [gl_sl_self, gi_si_self, q2]
    exact ⟨rfl, rfl⟩
theorem has_s {y : Int64} {P : pl_} {i : Nat} (hi : i < P.length) : has_ y (P.drop i) = (decide (P[i].1 = y) || has_ y (P.drop (i + 1))) := by
  rw [List.drop_eq_getElem_cons hi]
  rfl
theorem ad_c {P : pl_} {m : fm_} (h : pc_ P m) (hl : P.length < 10) (y : Int64) (k : Nat) : ∀ (n i : Nat), i + n = P.length → f_X7_add_31 y (nI k) (nI i) m = if has_ y (P.drop i) = true then some (-1, m) else some (nI P.length, ap_c P y k m) := by
  obtain ⟨h1, h2, h3, h4⟩ := h
  intro n
  induction n with
  | zero =>
    intro i e
    have hx : ix_ (nI P.length) 10 = true := ix_i (vp_in_nI hl (by omega))
    rw [e_X7_add_31, h3, if_pos (nI_le (by omega) (by omega)), gd_t hx, gd_t hx, nI_clamp (show P.length < 2 ^ 31 by omega), nI_1, nI_pred, List.drop_of_length_le (by omega)]
    rfl
  | succ n ih =>
    intro i e
    have hi : i < P.length := by omega
    have hg := h4 i P[i] (List.getElem?_eq_getElem hi)
    rw [e_X7_add_31, h3, if_neg (nI_ge hi (by omega)), gd_t (ix_i (vp_in_nI (show i < 10 by omega) (by omega))), nI_clamp (show i < 2 ^ 31 by omega), hg.1, nI_1, ih (i + 1) (by omega), has_s hi]
    by_cases q : P[i].1 = y
    · rw [if_pos ((lg_cmp_eq _ _).mpr q), decide_eq_true q, Bool.true_or, if_pos rfl]
    · rw [if_neg fun e => q ((lg_cmp_eq _ _).mp e), decide_eq_false q, Bool.false_or]
theorem plate_c {P : pl_} {m : fm_} (h : pc_ P m) (x : Int64) (f : Int32) : ∃ m1, f_X11_plate x f m = some ((spl_ P x f).1, m1) ∧ pc_ (spl_ P x f).2 m1 := by
  obtain ⟨h1, h2, h3, h4⟩ := id h
  unfold f_X11_plate f_X7_add spl_
  rw [h3]
  by_cases hl : P.length = 10
  · rw [if_pos (show (10 : Int32) ≤ nI P.length from nI_le (a := 10) (by omega) (by omega))]
    simp only [Option.bind]
    rw [if_pos trivial]
    refine ⟨m, ?_⟩
    cases nat_ f 10 with
    | none => exact ⟨rfl, h⟩
    | some k => simp only [if_pos hl]; exact ⟨trivial, h⟩
  rw [if_neg (show ¬ (10 : Int32) ≤ nI P.length from nI_ge (b := 10) (by omega) (by omega)), show (10 : Int32) = nI 10 from rfl, und_]
  simp only [Option.bind]
  rcases nat_ix f (n := 10) (by omega) with ⟨e, _⟩ | ⟨k, hk, rfl, e, -⟩
  · rw [if_pos (bu_0 e), e]
    simp only
    rw [if_pos trivial]
    exact ⟨m, rfl, h⟩
  rw [if_neg (bu_ne e), e, as_all]
  simp only
  have ho : al_ (fun j => isg_ 0 (sg_ (x &&& 281474976710655) j)) 6 0 = okp_ x := okp_mask x
  rw [ho]
  cases hok : okp_ x with
  | false =>
    rw [if_pos (show b01_ false = 0 from rfl)]
    simp only [if_neg hl]
    rw [if_pos trivial]
    exact ⟨m, rfl, h⟩
  | true =>
    rw [if_neg (show ¬ b01_ true = 0 by decide), show (0 : Int32) = nI 0 from rfl, ad_c h (by omega) _ k P.length 0 (by omega), List.drop_zero]
    simp only [if_neg hl]
    cases hh : has_ (x &&& 281474976710655) P with
    | true =>
      simp only [if_true]
      rw [if_neg (show ¬ (true = false) by decide)]
      exact ⟨m, rfl, h⟩
    | false =>
      have hne : ¬ nI P.length = -1 := fun e => by
        have e1 := congrArg Int32.toInt e
        rw [nI_toInt (by omega)] at e1
        have e2 : Int32.toInt (-1) = -1 := by decide
        omega
      have hf : f_X6_forget (ap_c P (x &&& 281474976710655) k m) = some (0, si_ (ap_c P (x &&& 281474976710655) k m) 82 3 (gi_ (ap_c P (x &&& 281474976710655) k m) 82 3 + 1)) := rfl
      simp only [Bool.false_eq_true, if_false]
      rw [if_neg hne, hf]
      refine ⟨_, rfl, ?_⟩
      obtain ⟨a1, a2, a3, a4⟩ := pc_add h (by omega) (x &&& 281474976710655) hk
      exact ⟨a1, a2, by rw [gi_si_ne (by omega)]; exact a3, fun j q hj => by rw [gl_si, gi_si_ne (by omega)]; exact a4 j q hj⟩
theorem ad_m {P : pl_} {m : fm_} (h : pm_ P m) (hl : P.length < 10) (x y : Int64) (k : Nat) : ∀ (n i : Nat), i + n = P.length → f_X12_plate_39 x (nI k) y (nI i) m = if has_ y (P.drop i) = true then some (-1, m) else some (nI P.length, ap_m P y k m) := by
  obtain ⟨h3, h4⟩ := h
  intro n
  induction n with
  | zero =>
    intro i e
    have hx : ix_ (nI P.length) 10 = true := ix_i (vp_in_nI hl (by omega))
    rw [e_X12_plate_39, h3, if_pos (nI_le (by omega) (by omega)), gd_t hx, gd_t hx, nI_clamp (show P.length < 2 ^ 31 by omega), nI_1, nI_pred, List.drop_of_length_le (by omega)]
    rfl
  | succ n ih =>
    intro i e
    have hi : i < P.length := by omega
    have hg := h4 i P[i] (List.getElem?_eq_getElem hi)
    rw [e_X12_plate_39, h3, if_neg (nI_ge hi (by omega)), gd_t (ix_i (vp_in_nI (show i < 10 by omega) (by omega))), nI_clamp (show i < 2 ^ 31 by omega), hg.1, nI_1, ih (i + 1) (by omega), has_s hi]
    by_cases q : P[i].1 = y
    · rw [if_pos ((lg_cmp_eq _ _).mpr q), decide_eq_true q, Bool.true_or, if_pos rfl]
    · rw [if_neg fun e => q ((lg_cmp_eq _ _).mp e), decide_eq_false q, Bool.false_or]
theorem plate_m {P : pl_} {m : fm_} (hP : P.length ≤ 10) (h : pm_ P m) (x : Int64) (f : Int32) : ∃ m1, f_X12_plate x f m = some ((spl_ P x f).1, m1) ∧ pm_ (spl_ P x f).2 m1 := by
  obtain ⟨h3, h4⟩ := id h
  unfold f_X12_plate spl_
  rw [h3]
  by_cases hl : P.length = 10
  · rw [if_pos (show nI P.length = 10 by rw [hl]; rfl)]
    refine ⟨m, ?_⟩
    cases nat_ f 10 with
    | none => exact ⟨rfl, h⟩
    | some k => simp only [if_pos hl]; exact ⟨trivial, h⟩
  rw [if_neg (show ¬ nI P.length = 10 from fun e => hl ((nI_eq (b := 10) (by omega) (by omega)).mp e)), as_mall]
  simp only [Option.bind]
  have ho : al_ (fun j => isg_ 0 (sg_ x j)) 6 0 = okp_ x := rfl
  rw [ho]
  cases hok : okp_ x with
  | false =>
    rw [if_pos (show b01_ false = 0 from rfl)]
    refine ⟨m, ?_⟩
    cases nat_ f 10 with
    | none => exact ⟨rfl, h⟩
    | some k => simp only [if_neg hl]; exact ⟨rfl, h⟩
  | true =>
    rw [if_neg (show ¬ b01_ true = 0 by decide)]
    rcases nat_ix f (n := 10) (by omega) with ⟨e, q | ⟨q, q2⟩⟩ | ⟨k, hk, rfl, e, q, -⟩
    · rw [if_pos q, e]; exact ⟨m, rfl, h⟩
    · have h9 : ¬ f ≤ 9 := by
        rw [Int32.le_iff_toInt_le, nI_toInt (by omega)] at q2
        rw [Int32.le_iff_toInt_le, show (9 : Int32).toInt = 9 from rfl]
        omega
      rw [if_neg q, if_neg h9, e]; exact ⟨m, rfl, h⟩
    · rw [if_neg q, if_pos (show nI k ≤ (9 : Int32) from nI_le (b := 9) (by omega) (by omega)), e, show (0 : Int32) = nI 0 from rfl, ad_m h (by omega) x _ k P.length 0 (by omega), List.drop_zero]
      simp only [if_neg hl]
      rw [if_neg (show ¬ (true = false) by decide)]
      cases hh : has_ (x &&& 281474976710655) P with
      | true => exact ⟨m, rfl, h⟩
      | false => exact ⟨_, rfl, pm_add h _ k⟩
