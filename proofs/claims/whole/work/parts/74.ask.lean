/-! ===== papers asked for ===== -/
/-- the digits of the papers of a plate on a day -/
def pdg_ (F : List fa_) (a d : Nat) (k : Int32) : Nat := match pb_ F a d k F.length 0 none with
  | none => 0
  | some j => de_ F j
theorem pb_k {F : List fa_} {a d : Nat} {k : Int32} : ∀ (n i : Nat) (b : Option Nat), (∀ j, b = some j → ∃ q, F[j]? = some q ∧ q.1 = 0) → ∀ j, pb_ F a d k n i b = some j → ∃ q, F[j]? = some q ∧ q.1 = 0
  | 0, _, _, hb, j, h => hb j h
  | n + 1, i, b, hb, j, h => by
    refine pb_k n (i + 1) _ (fun l hl => ?_) j h
    cases e : F[i]? with
    | none => rw [e] at hl; exact hb l hl
    | some q =>
      rw [e] at hl
      simp only at hl
      by_cases c : pk1_ a d k q = true
      · rw [if_pos c] at hl
        have h0 : q.1 = 0 := by
          unfold pk1_ at c
          exact of_decide_eq_true ((Bool.and_eq_true _ _).mp c).1
        unfold pkn_ at hl
        cases b with
        | none =>
          have hl : some i = some l := hl
          cases hl
          exact ⟨q, e, h0⟩
        | some u =>
          simp only at hl
          by_cases c2 : dy_ F i < dy_ F u
          · rw [if_pos c2] at hl
            exact hb l hl
          · rw [if_neg c2] at hl
            cases hl
            exact ⟨q, e, h0⟩
      · rw [if_neg c] at hl
        exact hb l hl
theorem de_s {F : List fa_} {j : Nat} {q : fa_} (h : F[j]? = some q) : de_ F j = q.2.2.2.2.2.1 := by unfold de_; rw [h]
theorem pdg_b {F : List fa_} {T : Nat} (hw : fw_ F T) (a d : Nat) (k : Int32) : pdg_ F a d k < 10000 := by
  unfold pdg_
  cases e : pb_ F a d k F.length 0 none with
  | none => show 0 < 10000; omega
  | some j =>
    obtain ⟨q, hq, _⟩ := pb_k _ _ _ (fun j h => by cases h) j e
    show de_ F j < 10000
    rw [de_s hq]
    exact (hw.2.2 q (List.mem_of_getElem? hq)).2.2.2.2.2
/-- what is asked, but for minute, entries and class -/
def uwp_ (D d : Nat) (w : Nat) : Int32 := if w = 1 then nI (D / 1000) else if w = 2 then nI (D / 100 % 10) else if w = 3 then nI (D / 10 % 10) else if w = 4 then nI (D % 10) else nI d
theorem ask_c {F : List fa_} {T : Nat} {m : fm_} (hw : fw_ F T) (h : fc_ F T m) {a d : Nat} (ha : a < 10) (hd : d < 100) (k : Int32) : ∃ m1, f_X2_ask (nI a) (nI d) k m = some (0, m1) ∧ ∀ w, 1 ≤ w → w ≤ 5 → gi_ m1 93 (w - 1) = uwp_ (pdg_ F a d k) d w := by
  have hp : f_X1_papersOn (nI a) (nI d) k m = some (nI (pdg_ F a d k), m) := by
    have := po_c hw h ha hd k F.length 0 none (by omega) (fun j h => by cases h)
    show f_X1_papersOn_6 (nI a) (nI d) k (-1) 0 m = _
    rw [show f_X1_papersOn_6 (nI a) (nI d) k (-1) 0 m = _ from this]
    unfold pres_ pdg_
    cases pb_ F a d k F.length 0 none with
    | none => rfl
    | some j => rfl
  have hb := pdg_b hw a d k
  generalize pdg_ F a d k = D at hp hb
  have e1 : D / 100 - D / 100 / 10 * 10 = D / 100 % 10 := by omega
  have e2 : D / 10 - D / 10 / 10 * 10 = D / 10 % 10 := by omega
  have e3 : D - D / 10 * 10 = D % 10 := by omega
  unfold f_X2_ask
  simp (disch := omega) only [↓reduceIte, ↓ns_m1, ns_let, ns_lef, ns_ltt, ns_ltf, ns_eqt, ns_eqf, ns_gd, nI_clamp, nI_add, pk_sub, pk_mul, ns_m1a, ns_m1b, ns_m1c, ns_m1d, ns_m1e, ns_m1f, ns_m1g, ns_un1, ns_un0, ns_day1, Option.bind_some, gi_si_self, gi_si_ne, gl_si, gi_sl, gl_sl_self, gl_sl_ne, if_true, if_false, ns_i0, ns_i1, ns_i2, ns_i3, ns_i4, ns_i5, ns_i6, ns_i7, ns_i8, ns_i9, ns_i10, ns_i11, ns_i12, ns_i13, ns_i20, ns_i23, ns_i24, ns_i31, ns_i50, ns_i60, ns_i99, ns_i100, ns_i144, ns_i200, ns_i255, ns_i700, ns_i880, ns_i899, ns_i900, ns_i901, ns_i999, ns_i1000, ns_i1440, ns_i4095, ns_i1000000, hp, pk_div, e1, e2, e3]
  refine ⟨_, rfl, fun w h1 h5 => ?_⟩
  have key : w = 1 ∨ w = 2 ∨ w = 3 ∨ w = 4 ∨ w = 5 := by omega
  unfold uwp_
  rcases key with rfl | rfl | rfl | rfl | rfl <;> simp (disch := omega) only [↓reduceIte, ↓ns_m1, ns_let, ns_lef, ns_ltt, ns_ltf, ns_eqt, ns_eqf, ns_gd, nI_clamp, nI_add, pk_sub, pk_mul, ns_m1a, ns_m1b, ns_m1c, ns_m1d, ns_m1e, ns_m1f, ns_m1g, ns_un1, ns_un0, ns_day1, Option.bind_some, gi_si_self, gi_si_ne, gl_si, gi_sl, gl_sl_self, gl_sl_ne, if_true, if_false, ns_i0, ns_i1, ns_i2, ns_i3, ns_i4, ns_i5, ns_i6, ns_i7, ns_i8, ns_i9, ns_i10, ns_i11, ns_i12, ns_i13, ns_i20, ns_i23, ns_i24, ns_i31, ns_i50, ns_i60, ns_i99, ns_i100, ns_i144, ns_i200, ns_i255, ns_i700, ns_i880, ns_i899, ns_i900, ns_i901, ns_i999, ns_i1000, ns_i1440, ns_i4095, ns_i1000000] <;> rfl
theorem pap6_ {F : List fa_} {T : Nat} {m : fm_} (hw : fw_ F T) (h : fm1s_ F T m) {a d : Nat} (ha : a < 10) (hd : d < 100) (k : Int32) : ∀ (n i : Nat) (b : Option Nat), i + n = F.length → (∀ j, b = some j → j < F.length) → f_X12_paper_6 (nI a) (nI d) k (en1_ b) (nI i) m = f_X12_paper_6 (nI a) (nI d) k (en1_ (pb_ F a d k n i b)) (nI F.length) m := by
  have hl := hw.1
  have gd : ∀ j, j < F.length → gi_ m 143 j = nI (dy_ F j) ∧ dy_ F j < 100 := fun j hj => by
    have hq := List.getElem?_eq_getElem hj
    unfold dy_
    rw [hq]
    exact ⟨(h.2.2 j F[j] hq).2.2.2.2.1, (hw.2.2 F[j] (List.getElem_mem hj)).2.2.2.2.1⟩
  intro n
  induction n with
  | zero =>
    intro i b e hb
    rw [show i = F.length by omega]
    rfl
  | succ n ih =>
    intro i b e hb
    have hi : i < F.length := by omega
    have hq := List.getElem?_eq_getElem hi
    have gdi := gd i hi
    generalize F[i] = q at hq
    have hwf := hw.2.2 q (List.mem_of_getElem? hq)
    have w1 := hwf.1
    have w4 := hwf.2.2.2.1
    have w5 := hwf.2.2.2.2.1
    obtain ⟨g1, g2, g3, g4, g5, g6, g7⟩ := h.2.2 i q hq
    have ct := cnt_m hw h hq k
    have i0 := ih (i + 1) b (by omega) hb
    have i1 := ih (i + 1) (some i) (by omega) (fun j e => by cases e; exact hi)
    have hpb : pb_ F a d k (n + 1) i b = pb_ F a d k n (i + 1) (if pk1_ a d k q = true then pkn_ F i b else b) := by
      show pb_ F a d k n (i + 1) (match F[i]? with
        | none => b
        | some q => if pk1_ a d k q = true then pkn_ F i b else b) = _
      rw [hq]
    rw [hpb]
    have skip : ¬ pk1_ a d k q = true → f_X12_paper_6 (nI a) (nI d) k (en1_ b) (nI i) m = f_X12_paper_6 (nI a) (nI d) k (en1_ b) (nI (i + 1)) m → f_X12_paper_6 (nI a) (nI d) k (en1_ b) (nI i) m = f_X12_paper_6 (nI a) (nI d) k (en1_ (pb_ F a d k n (i + 1) (if pk1_ a d k q = true then pkn_ F i b else b))) (nI F.length) m := fun hn hs => by
      rw [if_neg hn, hs, i0]
    have pk : pk1_ a d k q = true ↔ q.1 = 0 ∧ q.2.2.2.1 = a ∧ ¬ d < q.2.2.2.2.1 ∧ cn_ q k = true := by
      unfold pk1_
      rw [Bool.and_eq_true, Bool.and_eq_true, Bool.and_eq_true, decide_eq_true_eq, decide_eq_true_eq, Bool.not_eq_true', decide_eq_false_iff_not]
    by_cases c1 : q.1 = 0
    · by_cases c2 : q.2.2.2.1 = a
      · by_cases c3 : d < q.2.2.2.2.1
        · refine skip (fun x => (pk.mp x).2.2.1 c3) ?_
          rw [e_X12_paper_6]
          simp (disch := omega) only [↓reduceIte, ↓ns_m1, ns_let, ns_lef, ns_ltt, ns_ltf, ns_eqt, ns_eqf, ns_gd, nI_clamp, nI_add, pk_sub, pk_mul, ns_m1a, ns_m1b, ns_m1c, ns_m1d, ns_m1e, ns_m1f, ns_m1g, ns_un1, ns_un0, ns_day1, Option.bind_some, gi_si_self, gi_si_ne, gl_si, gi_sl, gl_sl_self, gl_sl_ne, if_true, if_false, ns_i0, ns_i1, ns_i2, ns_i3, ns_i4, ns_i5, ns_i6, ns_i7, ns_i8, ns_i9, ns_i10, ns_i11, ns_i12, ns_i13, ns_i20, ns_i23, ns_i24, ns_i31, ns_i50, ns_i60, ns_i99, ns_i100, ns_i144, ns_i200, ns_i255, ns_i700, ns_i880, ns_i899, ns_i900, ns_i901, ns_i999, ns_i1000, ns_i1440, ns_i4095, ns_i1000000, h.1, g1, g4, g5]
        · by_cases c4 : cn_ q k = true
          · have eb : b01_ (cn_ q k) = nI 1 := by rw [c4]; rfl
            rw [if_pos (pk.mpr ⟨c1, c2, c3, c4⟩)]
            cases b with
            | none =>
              have en : en1_ none = -1 := rfl
              rw [e_X12_paper_6]
              simp (disch := omega) only [↓reduceIte, ↓ns_m1, ns_let, ns_lef, ns_ltt, ns_ltf, ns_eqt, ns_eqf, ns_gd, nI_clamp, nI_add, pk_sub, pk_mul, ns_m1a, ns_m1b, ns_m1c, ns_m1d, ns_m1e, ns_m1f, ns_m1g, ns_un1, ns_un0, ns_day1, Option.bind_some, gi_si_self, gi_si_ne, gl_si, gi_sl, gl_sl_self, gl_sl_ne, if_true, if_false, ns_i0, ns_i1, ns_i2, ns_i3, ns_i4, ns_i5, ns_i6, ns_i7, ns_i8, ns_i9, ns_i10, ns_i11, ns_i12, ns_i13, ns_i20, ns_i23, ns_i24, ns_i31, ns_i50, ns_i60, ns_i99, ns_i100, ns_i144, ns_i200, ns_i255, ns_i700, ns_i880, ns_i899, ns_i900, ns_i901, ns_i999, ns_i1000, ns_i1440, ns_i4095, ns_i1000000, h.1, g1, g4, g5, ct, eb, en]
              exact i1
            | some j =>
              have hj := hb j rfl
              have gdj := gd j hj
              have dyi : dy_ F i = q.2.2.2.2.1 := by unfold dy_; rw [hq]
              have en : en1_ (some j) = nI j := rfl
              unfold pkn_
              simp only
              by_cases c5 : dy_ F i < dy_ F j
              · rw [if_pos c5, ← i0, e_X12_paper_6]
                simp (disch := omega) only [↓reduceIte, ↓ns_m1, ns_let, ns_lef, ns_ltt, ns_ltf, ns_eqt, ns_eqf, ns_gd, nI_clamp, nI_add, pk_sub, pk_mul, ns_m1a, ns_m1b, ns_m1c, ns_m1d, ns_m1e, ns_m1f, ns_m1g, ns_un1, ns_un0, ns_day1, Option.bind_some, gi_si_self, gi_si_ne, gl_si, gi_sl, gl_sl_self, gl_sl_ne, if_true, if_false, ns_i0, ns_i1, ns_i2, ns_i3, ns_i4, ns_i5, ns_i6, ns_i7, ns_i8, ns_i9, ns_i10, ns_i11, ns_i12, ns_i13, ns_i20, ns_i23, ns_i24, ns_i31, ns_i50, ns_i60, ns_i99, ns_i100, ns_i144, ns_i200, ns_i255, ns_i700, ns_i880, ns_i899, ns_i900, ns_i901, ns_i999, ns_i1000, ns_i1440, ns_i4095, ns_i1000000, h.1, g1, g4, gdi.1, ct, eb, en, gdj.1]
              · rw [if_neg c5, ← i1, e_X12_paper_6]
                simp (disch := omega) only [↓reduceIte, ↓ns_m1, ns_let, ns_lef, ns_ltt, ns_ltf, ns_eqt, ns_eqf, ns_gd, nI_clamp, nI_add, pk_sub, pk_mul, ns_m1a, ns_m1b, ns_m1c, ns_m1d, ns_m1e, ns_m1f, ns_m1g, ns_un1, ns_un0, ns_day1, Option.bind_some, gi_si_self, gi_si_ne, gl_si, gi_sl, gl_sl_self, gl_sl_ne, if_true, if_false, ns_i0, ns_i1, ns_i2, ns_i3, ns_i4, ns_i5, ns_i6, ns_i7, ns_i8, ns_i9, ns_i10, ns_i11, ns_i12, ns_i13, ns_i20, ns_i23, ns_i24, ns_i31, ns_i50, ns_i60, ns_i99, ns_i100, ns_i144, ns_i200, ns_i255, ns_i700, ns_i880, ns_i899, ns_i900, ns_i901, ns_i999, ns_i1000, ns_i1440, ns_i4095, ns_i1000000, h.1, g1, g4, gdi.1, ct, eb, en, gdj.1]
                rfl
          · have eb : b01_ (cn_ q k) = nI 0 := by rw [Bool.eq_false_iff.mpr c4]; rfl
            refine skip (fun x => c4 (pk.mp x).2.2.2) ?_
            rw [e_X12_paper_6]
            simp (disch := omega) only [↓reduceIte, ↓ns_m1, ns_let, ns_lef, ns_ltt, ns_ltf, ns_eqt, ns_eqf, ns_gd, nI_clamp, nI_add, pk_sub, pk_mul, ns_m1a, ns_m1b, ns_m1c, ns_m1d, ns_m1e, ns_m1f, ns_m1g, ns_un1, ns_un0, ns_day1, Option.bind_some, gi_si_self, gi_si_ne, gl_si, gi_sl, gl_sl_self, gl_sl_ne, if_true, if_false, ns_i0, ns_i1, ns_i2, ns_i3, ns_i4, ns_i5, ns_i6, ns_i7, ns_i8, ns_i9, ns_i10, ns_i11, ns_i12, ns_i13, ns_i20, ns_i23, ns_i24, ns_i31, ns_i50, ns_i60, ns_i99, ns_i100, ns_i144, ns_i200, ns_i255, ns_i700, ns_i880, ns_i899, ns_i900, ns_i901, ns_i999, ns_i1000, ns_i1440, ns_i4095, ns_i1000000, h.1, g1, g4, g5, ct, eb]
      · refine skip (fun x => c2 (pk.mp x).2.1) ?_
        rw [e_X12_paper_6]
        simp (disch := omega) only [↓reduceIte, ↓ns_m1, ns_let, ns_lef, ns_ltt, ns_ltf, ns_eqt, ns_eqf, ns_gd, nI_clamp, nI_add, pk_sub, pk_mul, ns_m1a, ns_m1b, ns_m1c, ns_m1d, ns_m1e, ns_m1f, ns_m1g, ns_un1, ns_un0, ns_day1, Option.bind_some, gi_si_self, gi_si_ne, gl_si, gi_sl, gl_sl_self, gl_sl_ne, if_true, if_false, ns_i0, ns_i1, ns_i2, ns_i3, ns_i4, ns_i5, ns_i6, ns_i7, ns_i8, ns_i9, ns_i10, ns_i11, ns_i12, ns_i13, ns_i20, ns_i23, ns_i24, ns_i31, ns_i50, ns_i60, ns_i99, ns_i100, ns_i144, ns_i200, ns_i255, ns_i700, ns_i880, ns_i899, ns_i900, ns_i901, ns_i999, ns_i1000, ns_i1440, ns_i4095, ns_i1000000, h.1, g1, g4]
    · refine skip (fun x => c1 (pk.mp x).1) ?_
      rw [e_X12_paper_6]
      simp (disch := omega) only [↓reduceIte, ↓ns_m1, ns_let, ns_lef, ns_ltt, ns_ltf, ns_eqt, ns_eqf, ns_gd, nI_clamp, nI_add, pk_sub, pk_mul, ns_m1a, ns_m1b, ns_m1c, ns_m1d, ns_m1e, ns_m1f, ns_m1g, ns_un1, ns_un0, ns_day1, Option.bind_some, gi_si_self, gi_si_ne, gl_si, gi_sl, gl_sl_self, gl_sl_ne, if_true, if_false, ns_i0, ns_i1, ns_i2, ns_i3, ns_i4, ns_i5, ns_i6, ns_i7, ns_i8, ns_i9, ns_i10, ns_i11, ns_i12, ns_i13, ns_i20, ns_i23, ns_i24, ns_i31, ns_i50, ns_i60, ns_i99, ns_i100, ns_i144, ns_i200, ns_i255, ns_i700, ns_i880, ns_i899, ns_i900, ns_i901, ns_i999, ns_i1000, ns_i1440, ns_i4095, ns_i1000000, h.1, g1]
theorem ask_m {F : List fa_} {T : Nat} {m : fm_} (hw : fw_ F T) (h : fm1s_ F T m) {a d : Nat} (ha : a < 10) (hd : d < 100) (k : Int32) : ∃ m1, f_X12_paper (nI a) (nI d) k m = some (0, m1) ∧ ∀ w, 1 ≤ w → w ≤ 5 → gi_ m1 136 w = uwp_ (pdg_ F a d k) d w := by
  have hl := hw.1
  have hp : f_X12_paper (nI a) (nI d) k m = f_X12_paper_6 (nI a) (nI d) k (en1_ (pb_ F a d k F.length 0 none)) (nI F.length) m := pap6_ hw h ha hd k F.length 0 none (by omega) (fun j h => by cases h)
  rw [hp, e_X12_paper_6]
  unfold pdg_
  have fin : ∀ (x1 x2 x3 x4 x5 : Int32) (D : Nat), x1 = nI (D / 1000) → x2 = nI (D / 100 % 10) → x3 = nI (D / 10 % 10) → x4 = nI (D % 10) → x5 = nI d → ∀ w, 1 ≤ w → w ≤ 5 → gi_ (si_ (si_ (si_ (si_ (si_ m 136 1 x1) 136 2 x2) 136 3 x3) 136 4 x4) 136 5 x5) 136 w = uwp_ D d w := fun x1 x2 x3 x4 x5 D h1 h2 h3 h4 h5 w w1 w5 => by
    have key : w = 1 ∨ w = 2 ∨ w = 3 ∨ w = 4 ∨ w = 5 := by omega
    unfold uwp_
    rcases key with rfl | rfl | rfl | rfl | rfl
    · simp (disch := omega) only [↓reduceIte, ↓ns_m1, ns_let, ns_lef, ns_ltt, ns_ltf, ns_eqt, ns_eqf, ns_gd, nI_clamp, nI_add, pk_sub, pk_mul, ns_m1a, ns_m1b, ns_m1c, ns_m1d, ns_m1e, ns_m1f, ns_m1g, ns_un1, ns_un0, ns_day1, Option.bind_some, gi_si_self, gi_si_ne, gl_si, gi_sl, gl_sl_self, gl_sl_ne, if_true, if_false, ns_i0, ns_i1, ns_i2, ns_i3, ns_i4, ns_i5, ns_i6, ns_i7, ns_i8, ns_i9, ns_i10, ns_i11, ns_i12, ns_i13, ns_i20, ns_i23, ns_i24, ns_i31, ns_i50, ns_i60, ns_i99, ns_i100, ns_i144, ns_i200, ns_i255, ns_i700, ns_i880, ns_i899, ns_i900, ns_i901, ns_i999, ns_i1000, ns_i1440, ns_i4095, ns_i1000000]
      exact h1
    · simp (disch := omega) only [↓reduceIte, ↓ns_m1, ns_let, ns_lef, ns_ltt, ns_ltf, ns_eqt, ns_eqf, ns_gd, nI_clamp, nI_add, pk_sub, pk_mul, ns_m1a, ns_m1b, ns_m1c, ns_m1d, ns_m1e, ns_m1f, ns_m1g, ns_un1, ns_un0, ns_day1, Option.bind_some, gi_si_self, gi_si_ne, gl_si, gi_sl, gl_sl_self, gl_sl_ne, if_true, if_false, ns_i0, ns_i1, ns_i2, ns_i3, ns_i4, ns_i5, ns_i6, ns_i7, ns_i8, ns_i9, ns_i10, ns_i11, ns_i12, ns_i13, ns_i20, ns_i23, ns_i24, ns_i31, ns_i50, ns_i60, ns_i99, ns_i100, ns_i144, ns_i200, ns_i255, ns_i700, ns_i880, ns_i899, ns_i900, ns_i901, ns_i999, ns_i1000, ns_i1440, ns_i4095, ns_i1000000]
      exact h2
    · simp (disch := omega) only [↓reduceIte, ↓ns_m1, ns_let, ns_lef, ns_ltt, ns_ltf, ns_eqt, ns_eqf, ns_gd, nI_clamp, nI_add, pk_sub, pk_mul, ns_m1a, ns_m1b, ns_m1c, ns_m1d, ns_m1e, ns_m1f, ns_m1g, ns_un1, ns_un0, ns_day1, Option.bind_some, gi_si_self, gi_si_ne, gl_si, gi_sl, gl_sl_self, gl_sl_ne, if_true, if_false, ns_i0, ns_i1, ns_i2, ns_i3, ns_i4, ns_i5, ns_i6, ns_i7, ns_i8, ns_i9, ns_i10, ns_i11, ns_i12, ns_i13, ns_i20, ns_i23, ns_i24, ns_i31, ns_i50, ns_i60, ns_i99, ns_i100, ns_i144, ns_i200, ns_i255, ns_i700, ns_i880, ns_i899, ns_i900, ns_i901, ns_i999, ns_i1000, ns_i1440, ns_i4095, ns_i1000000]
      exact h3
    · simp (disch := omega) only [↓reduceIte, ↓ns_m1, ns_let, ns_lef, ns_ltt, ns_ltf, ns_eqt, ns_eqf, ns_gd, nI_clamp, nI_add, pk_sub, pk_mul, ns_m1a, ns_m1b, ns_m1c, ns_m1d, ns_m1e, ns_m1f, ns_m1g, ns_un1, ns_un0, ns_day1, Option.bind_some, gi_si_self, gi_si_ne, gl_si, gi_sl, gl_sl_self, gl_sl_ne, if_true, if_false, ns_i0, ns_i1, ns_i2, ns_i3, ns_i4, ns_i5, ns_i6, ns_i7, ns_i8, ns_i9, ns_i10, ns_i11, ns_i12, ns_i13, ns_i20, ns_i23, ns_i24, ns_i31, ns_i50, ns_i60, ns_i99, ns_i100, ns_i144, ns_i200, ns_i255, ns_i700, ns_i880, ns_i899, ns_i900, ns_i901, ns_i999, ns_i1000, ns_i1440, ns_i4095, ns_i1000000]
      exact h4
    · simp (disch := omega) only [↓reduceIte, ↓ns_m1, ns_let, ns_lef, ns_ltt, ns_ltf, ns_eqt, ns_eqf, ns_gd, nI_clamp, nI_add, pk_sub, pk_mul, ns_m1a, ns_m1b, ns_m1c, ns_m1d, ns_m1e, ns_m1f, ns_m1g, ns_un1, ns_un0, ns_day1, Option.bind_some, gi_si_self, gi_si_ne, gl_si, gi_sl, gl_sl_self, gl_sl_ne, if_true, if_false, ns_i0, ns_i1, ns_i2, ns_i3, ns_i4, ns_i5, ns_i6, ns_i7, ns_i8, ns_i9, ns_i10, ns_i11, ns_i12, ns_i13, ns_i20, ns_i23, ns_i24, ns_i31, ns_i50, ns_i60, ns_i99, ns_i100, ns_i144, ns_i200, ns_i255, ns_i700, ns_i880, ns_i899, ns_i900, ns_i901, ns_i999, ns_i1000, ns_i1440, ns_i4095, ns_i1000000]
      exact h5
  cases e : pb_ F a d k F.length 0 none with
  | none =>
    have en : en1_ none = -1 := rfl
    simp (disch := omega) only [↓reduceIte, ↓ns_m1, ns_let, ns_lef, ns_ltt, ns_ltf, ns_eqt, ns_eqf, ns_gd, nI_clamp, nI_add, pk_sub, pk_mul, ns_m1a, ns_m1b, ns_m1c, ns_m1d, ns_m1e, ns_m1f, ns_m1g, ns_un1, ns_un0, ns_day1, Option.bind_some, gi_si_self, gi_si_ne, gl_si, gi_sl, gl_sl_self, gl_sl_ne, if_true, if_false, ns_i0, ns_i1, ns_i2, ns_i3, ns_i4, ns_i5, ns_i6, ns_i7, ns_i8, ns_i9, ns_i10, ns_i11, ns_i12, ns_i13, ns_i20, ns_i23, ns_i24, ns_i31, ns_i50, ns_i60, ns_i99, ns_i100, ns_i144, ns_i200, ns_i255, ns_i700, ns_i880, ns_i899, ns_i900, ns_i901, ns_i999, ns_i1000, ns_i1440, ns_i4095, ns_i1000000, h.1, en]
    exact ⟨_, rfl, fin _ _ _ _ _ 0 rfl rfl rfl rfl rfl⟩
  | some j =>
    obtain ⟨q, hq, h0⟩ := pb_k _ _ _ (fun j h => by cases h) j e
    have hj := (List.getElem?_eq_some_iff.mp hq).1
    have g := (h.2.2 j q hq).2.2.2.2.2.2 h0
    have en : en1_ (some j) = nI j := rfl
    simp (disch := omega) only [↓reduceIte, ↓ns_m1, ns_let, ns_lef, ns_ltt, ns_ltf, ns_eqt, ns_eqf, ns_gd, nI_clamp, nI_add, pk_sub, pk_mul, ns_m1a, ns_m1b, ns_m1c, ns_m1d, ns_m1e, ns_m1f, ns_m1g, ns_un1, ns_un0, ns_day1, Option.bind_some, gi_si_self, gi_si_ne, gl_si, gi_sl, gl_sl_self, gl_sl_ne, if_true, if_false, ns_i0, ns_i1, ns_i2, ns_i3, ns_i4, ns_i5, ns_i6, ns_i7, ns_i8, ns_i9, ns_i10, ns_i11, ns_i12, ns_i13, ns_i20, ns_i23, ns_i24, ns_i31, ns_i50, ns_i60, ns_i99, ns_i100, ns_i144, ns_i200, ns_i255, ns_i700, ns_i880, ns_i899, ns_i900, ns_i901, ns_i999, ns_i1000, ns_i1440, ns_i4095, ns_i1000000, h.1, en]
    refine ⟨_, rfl, fin _ _ _ _ _ (de_ F j) ?_ ?_ ?_ ?_ rfl⟩
    · rw [de_s hq]; exact g.1
    · rw [de_s hq]; exact g.2.1
    · rw [de_s hq]; exact g.2.2.1
    · rw [de_s hq]; exact g.2.2.2
