/-! ===== the papers of a day ===== -/
def pk1_ (a d : Nat) (k : Int32) (q : fa_) : Bool := decide (q.1 = 0) && (decide (q.2.2.2.1 = a) && (!(decide (d < q.2.2.2.2.1)) && cn_ q k))
def dy_ (F : List fa_) (i : Nat) : Nat := match F[i]? with
  | none => 0
  | some q => q.2.2.2.2.1
def de_ (F : List fa_) (i : Nat) : Nat := match F[i]? with
  | none => 0
  | some q => q.2.2.2.2.2.1
def pkn_ (F : List fa_) (i : Nat) (b : Option Nat) : Option Nat := match b with
  | none => some i
  | some j => if dy_ F i < dy_ F j then b else some i
/-- the best of n from i on, b being the best before -/
def pb_ (F : List fa_) (a d : Nat) (k : Int32) : Nat → Nat → Option Nat → Option Nat
  | 0, _, b => b
  | n + 1, i, b => pb_ F a d k n (i + 1) (match F[i]? with
    | none => b
    | some q => if pk1_ a d k q = true then pkn_ F i b else b)
def pres_ (F : List fa_) (b : Option Nat) : Int32 := match b with
  | none => 0
  | some j => nI (de_ F j)
theorem po_c {F : List fa_} {T : Nat} {m : fm_} (hw : fw_ F T) (h : fc_ F T m) {a d : Nat} (ha : a < 10) (hd : d < 100) (k : Int32) : ∀ (n i : Nat) (b : Option Nat), i + n = F.length → (∀ j, b = some j → j < F.length) → f_X1_papersOn_6 (nI a) (nI d) k (en1_ b) (nI i) m = some (pres_ F (pb_ F a d k n i b), m) := by
  have hl := hw.1
  have gd : ∀ j, j < F.length → gi_ m 77 j = nI (dy_ F j) ∧ dy_ F j < 100 := fun j hj => by
    have hq := List.getElem?_eq_getElem hj
    unfold dy_
    rw [hq]
    exact ⟨(h.2.2 j F[j] hq).2.2.2.2.1, (hw.2.2 F[j] (List.getElem_mem hj)).2.2.2.2.1⟩
  intro n
  induction n with
  | zero =>
    intro i b e hb
    rw [e_X1_papersOn_6, h.1, if_pos (nI_le (by omega) (by omega))]
    cases b with
    | none => rw [if_pos (show en1_ none = -1 from rfl)]; rfl
    | some j =>
      have hj := hb j rfl
      have hq := List.getElem?_eq_getElem hj
      rw [if_neg (show ¬ en1_ (some j) = -1 from un_ne (t := j) (by omega)), gd_t (show ix_ (en1_ (some j)) 200 = true from ix_i (vp_in_nI (by omega) (by omega))), show (en1_ (some j)).toNatClampNeg = j from nI_clamp (by omega), (h.2.2 j F[j] hq).2.2.2.2.2.1]
      show _ = some (nI (de_ F j), m)
      unfold de_
      rw [hq]
  | succ n ih =>
    intro i b e hb
    have hi : i < F.length := by omega
    have hq := List.getElem?_eq_getElem hi
    have hr := h.2.2 i F[i] hq
    have hwf := hw.2.2 F[i] (List.getElem_mem hi)
    have hx : ix_ (nI i) 200 = true := ix_i (vp_in_nI (by omega) (by omega))
    have i0 := ih (i + 1) b (by omega) hb
    have i1 := ih (i + 1) (some i) (by omega) (fun j e => by cases e; exact hi)
    rw [e_X1_papersOn_6, h.1, if_neg (nI_ge hi (by omega)), gd_t hx, gd_t hx, gd_t hx, nI_clamp (show i < 2 ^ 31 by omega), hr.1, hr.2.2.2.1, hr.2.2.2.2.1, cnt_c hw h hq k, nI_1]
    simp only [Option.bind]
    rw [i0]
    show _ = some (pres_ F (pb_ F a d k n (i + 1) (match F[i]? with
      | none => b
      | some q => if pk1_ a d k q = true then pkn_ F i b else b)), m)
    rw [hq]
    simp only
    have hdy : dy_ F i = F[i].2.2.2.2.1 := by unfold dy_; rw [hq]
    unfold pk1_
    obtain ⟨w1, w2, w3, w4, w5, w6⟩ := hwf
    by_cases c1 : F[i].1 = 0
    · rw [if_pos (show nI (F[i].1 + 1) = 1 by rw [c1]; rfl), decide_eq_true c1]
      by_cases c2 : F[i].2.2.2.1 = a
      · rw [if_pos (show nI F[i].2.2.2.1 = nI a by rw [c2]), decide_eq_true c2]
        by_cases c3 : d < F[i].2.2.2.2.1
        · rw [if_pos (show nI d < nI F[i].2.2.2.2.1 from nI_lt c3 (by omega)), decide_eq_true c3]; rfl
        · rw [if_neg (show ¬ nI d < nI F[i].2.2.2.2.1 from nI_nlt (by omega) (by omega)), decide_eq_false c3]
          cases cn_ F[i] k with
          | false => rw [if_pos (by decide)]; rfl
          | true =>
            rw [if_neg (show ¬ b01_ true = 0 by decide), if_pos (show (true && (true && (!false && true))) = true from rfl)]
            unfold pkn_
            cases b with
            | none =>
              rw [if_pos (show en1_ none = -1 from rfl)]
              exact i1
            | some j =>
              have hj := hb j rfl
              rw [if_neg (show ¬ en1_ (some j) = -1 from un_ne (t := j) (by omega)), gd_t hx, gd_t (show ix_ (en1_ (some j)) 200 = true from ix_i (vp_in_nI (by omega) (by omega))), show (en1_ (some j)).toNatClampNeg = j from nI_clamp (by omega), (gd i hi).1, (gd j hj).1]
              have g1 := (gd i hi).2
              have g2 := (gd j hj).2
              simp only
              by_cases c5 : dy_ F i < dy_ F j
              · rw [if_pos (nI_lt c5 (by omega)), if_pos c5]
              · rw [if_neg (nI_nlt (by omega) (by omega)), if_neg c5]
                exact i1
      · rw [if_neg (show ¬ nI F[i].2.2.2.1 = nI a from fun e => c2 ((nI_eq (by omega) (by omega)).mp e)), decide_eq_false c2]; rfl
    · rw [if_neg (show ¬ nI (F[i].1 + 1) = 1 from fun e => c1 (by have := (nI_eq (b := 1) (by omega) (by omega)).mp e; omega)), decide_eq_false c1]; rfl
