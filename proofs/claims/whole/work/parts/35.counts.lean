/-! ===== which facts count ===== -/
def cu_ (o : Option Nat) (k : Int32) : Bool := match o with
  | none => true
  | some t => !(decide (nI t ≤ k))
/-- whether a fact counts as known at k -/
def cn_ (q : fa_) (k : Int32) : Bool := !(decide (k < nI q.2.1)) && cu_ q.2.2.1 k
theorem un_ne {t : Nat} (ht : t ≤ 100000) : ¬ un_ (some t) = -1 := fun e => by
  have e1 := congrArg Int32.toInt e
  rw [show un_ (some t) = nI t from rfl, nI_toInt (by omega)] at e1
  have e2 : Int32.toInt (-1) = -1 := by decide
  omega
theorem cnt_c {F : List fa_} {T : Nat} {m : fm_} (hw : fw_ F T) (h : fc_ F T m) {j : Nat} {q : fa_} (hq : F[j]? = some q) (k : Int32) : f_X1_counts (nI j) k m = some (b01_ (cn_ q k), m) := by
  obtain ⟨h1, h2, h3⟩ := h
  have hl := hw.1
  have hj : j < F.length := (List.getElem?_eq_some_iff.mp hq).1
  have hx : ix_ (nI j) 200 = true := ix_i (vp_in_nI (by omega) (by omega))
  have hr := h3 j q hq
  have hwf := hw.2.2 q (List.mem_of_getElem? hq)
  unfold f_X1_counts cn_
  rw [h1, und_]
  simp only [Option.bind]
  rw [if_neg (bu_ne (nat_nI hj (by omega))), gd_t hx, gd_t hx, gd_t hx, nI_clamp (show j < 2 ^ 31 by omega), hr.2.1, hr.2.2.1]
  by_cases c1 : k < nI q.2.1
  · rw [if_pos c1, decide_eq_true c1]; rfl
  · rw [if_neg c1, decide_eq_false c1]
    cases hu : q.2.2.1 with
    | none => rw [if_pos (show un_ none = -1 from rfl)]; rfl
    | some t =>
      rw [if_neg (un_ne (hwf.2.2.1 t hu))]
      unfold cu_
      by_cases c2 : nI t ≤ k
      · rw [if_pos (show un_ (some t) ≤ k from c2)]
        simp only [decide_eq_true c2]; rfl
      · rw [if_neg (show ¬ un_ (some t) ≤ k from c2)]
        simp only [decide_eq_false c2]; rfl
theorem cnt_m {F : List fa_} {T : Nat} {m : fm_} (hw : fw_ F T) (h : fm1s_ F T m) {j : Nat} {q : fa_} (hq : F[j]? = some q) (k : Int32) : f_X12_counts (nI j) k m = some (b01_ (cn_ q k), m) := by
  obtain ⟨h1, h2, h3⟩ := h
  have hl := hw.1
  have hj : j < F.length := (List.getElem?_eq_some_iff.mp hq).1
  have hx : ix_ (nI j) 200 = true := ix_i (vp_in_nI (by omega) (by omega))
  have hr := h3 j q hq
  have hwf := hw.2.2 q (List.mem_of_getElem? hq)
  unfold f_X12_counts cn_
  rw [gd_t hx, gd_t hx, gd_t hx, nI_clamp (show j < 2 ^ 31 by omega), hr.2.1, hr.2.2.1]
  by_cases c1 : k < nI q.2.1
  · rw [if_pos c1, decide_eq_true c1]; rfl
  · rw [if_neg c1, decide_eq_false c1]
    cases hu : q.2.2.1 with
    | none => rw [if_pos (show un_ none < 0 by decide)]; rfl
    | some t =>
      have ht := hwf.2.2.1 t hu
      rw [if_neg (show ¬ un_ (some t) < 0 from nI_pos (by omega))]
      unfold cu_
      by_cases c2 : nI t ≤ k
      · rw [if_pos (show un_ (some t) ≤ k from c2)]
        simp only [decide_eq_true c2]; rfl
      · rw [if_neg (show ¬ un_ (some t) ≤ k from c2)]
        simp only [decide_eq_false c2]; rfl
