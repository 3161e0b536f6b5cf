/-! ===== appeals that count ===== -/
def ap1_ (a d : Nat) (k : Int32) (q : fa_) : Bool := decide (q.1 = 2) && (decide (q.2.2.2.1 = a) && (decide (q.2.2.2.2.1 = d) && cn_ q k))
def hap_ (F : List fa_) (a d : Nat) (k : Int32) : Bool := F.any (ap1_ a d k)
theorem hap_s {F : List fa_} {a d i : Nat} {k : Int32} (hi : i < F.length) : hap_ (F.drop i) a d k = (ap1_ a d k F[i] || hap_ (F.drop (i + 1)) a d k) := by
  rw [List.drop_eq_getElem_cons hi]
  rfl
theorem ha_c {F : List fa_} {T : Nat} {m : fm_} (hw : fw_ F T) (h : fc_ F T m) {a d : Nat} (ha : a < 10) (hd : d < 100) (k : Int32) : ∀ (n i : Nat), i + n = F.length → f_X1_hasAppeal_3 (nI a) (nI d) k (nI i) m = some (b01_ (hap_ (F.drop i) a d k), m) := by
  have hl := hw.1
  intro n
  induction n with
  | zero =>
    intro i e
    rw [e_X1_hasAppeal_3, h.1, if_pos (nI_le (by omega) (by omega)), List.drop_of_length_le (by omega)]
    rfl
  | succ n ih =>
    intro i e
    have hi : i < F.length := by omega
    have hq := List.getElem?_eq_getElem hi
    have hr := h.2.2 i F[i] hq
    have hwf := hw.2.2 F[i] (List.getElem_mem hi)
    have hx : ix_ (nI i) 200 = true := ix_i (vp_in_nI (by omega) (by omega))
    have ih := ih (i + 1) (by omega)
    rw [e_X1_hasAppeal_3, h.1, if_neg (nI_ge hi (by omega)), gd_t hx, gd_t hx, gd_t hx, nI_clamp (show i < 2 ^ 31 by omega), hr.1, hr.2.2.2.1, hr.2.2.2.2.1, cnt_c hw h hq k, nI_1, hap_s hi]
    simp only [Option.bind]
    rw [ih]
    generalize hap_ (F.drop (i + 1)) a d k = z
    generalize F[i] = q at hwf ⊢
    unfold ap1_
    obtain ⟨w1, w2, w3, w4, w5, w6⟩ := hwf
    by_cases c1 : q.1 = 2
    · rw [if_pos (show nI (q.1 + 1) = 3 by rw [c1]; rfl), decide_eq_true c1]
      by_cases c2 : q.2.2.2.1 = a
      · rw [if_pos (show nI q.2.2.2.1 = nI a by rw [c2]), decide_eq_true c2]
        by_cases c3 : q.2.2.2.2.1 = d
        · rw [if_pos (show nI q.2.2.2.2.1 = nI d by rw [c3]), decide_eq_true c3]
          cases cn_ q k with
          | true => rw [if_neg (by decide)]; rfl
          | false => rw [if_pos (by decide)]; rfl
        · rw [if_neg (show ¬ nI q.2.2.2.2.1 = nI d from fun e => c3 ((nI_eq (by omega) (by omega)).mp e)), decide_eq_false c3]; rfl
      · rw [if_neg (show ¬ nI q.2.2.2.1 = nI a from fun e => c2 ((nI_eq (by omega) (by omega)).mp e)), decide_eq_false c2]; rfl
    · rw [if_neg (show ¬ nI (q.1 + 1) = 3 from fun e => c1 (by have := (nI_eq (b := 3) (by omega) (by omega)).mp e; omega)), decide_eq_false c1]; rfl
theorem ha_m {F : List fa_} {T : Nat} {m : fm_} (hw : fw_ F T) (h : fm1s_ F T m) {a d : Nat} (ha : a < 10) (hd : d < 100) (k : Int32) : ∀ (n i : Nat) (b : Bool), i + n = F.length → f_X12_hasAppeal_6 (nI a) (nI d) k (b01_ b) (nI i) m = some (b01_ (b || hap_ (F.drop i) a d k), m) := by
  have hl := hw.1
  intro n
  induction n with
  | zero =>
    intro i b e
    rw [e_X12_hasAppeal_6, h.1, if_pos (nI_le (by omega) (by omega)), gd_t (by cases b <;> decide), List.drop_of_length_le (by omega)]
    cases b <;> rfl
  | succ n ih =>
    intro i b e
    have hi : i < F.length := by omega
    have hq := List.getElem?_eq_getElem hi
    have hr := h.2.2 i F[i] hq
    have hwf := hw.2.2 F[i] (List.getElem_mem hi)
    have hx : ix_ (nI i) 200 = true := ix_i (vp_in_nI (by omega) (by omega))
    have i0 := ih (i + 1) false (by omega)
    have i1 := ih (i + 1) true (by omega)
    rw [show b01_ false = 0 from rfl] at i0
    rw [show b01_ true = 1 from rfl] at i1
    rw [e_X12_hasAppeal_6, h.1, if_neg (nI_ge hi (by omega)), gd_t hx, gd_t hx, gd_t hx, nI_clamp (show i < 2 ^ 31 by omega), hr.1, hr.2.2.2.1, hr.2.2.2.2.1, cnt_m hw h hq k, nI_1, hap_s hi]
    simp only [Option.bind]
    rw [i0, i1]
    generalize hap_ (F.drop (i + 1)) a d k = z
    generalize F[i] = q at hwf ⊢
    unfold ap1_
    obtain ⟨w1, w2, w3, w4, w5, w6⟩ := hwf
    cases b with
    | true => rw [if_neg (by decide)]; rfl
    | false =>
      rw [if_pos (by decide)]
      by_cases c1 : q.1 = 2
      · rw [if_pos (show nI q.1 = 2 by rw [c1]; rfl), decide_eq_true c1]
        by_cases c2 : q.2.2.2.1 = a
        · rw [if_pos (show nI q.2.2.2.1 = nI a by rw [c2]), decide_eq_true c2]
          by_cases c3 : q.2.2.2.2.1 = d
          · rw [if_pos (show nI q.2.2.2.2.1 = nI d by rw [c3]), decide_eq_true c3]
            cases cn_ q k with
            | true => rw [if_neg (by decide)]; rfl
            | false => rw [if_pos (by decide)]; rfl
          · rw [if_neg (show ¬ nI q.2.2.2.2.1 = nI d from fun e => c3 ((nI_eq (by omega) (by omega)).mp e)), decide_eq_false c3]; rfl
        · rw [if_neg (show ¬ nI q.2.2.2.1 = nI a from fun e => c2 ((nI_eq (by omega) (by omega)).mp e)), decide_eq_false c2]; rfl
      · rw [if_neg (show ¬ nI q.1 = 2 from fun e => c1 ((nI_eq (b := 2) (by omega) (by omega)).mp e)), decide_eq_false c1]; rfl
