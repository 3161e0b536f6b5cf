/-! ===== words, tokens: the scanner on bytes ===== -/
def wds_ : List (List Nat) := [[119, 97, 121], [122, 111, 110, 101], [99, 97, 109, 101, 114, 97], [99, 108, 97, 115, 115], [99, 104, 97, 114, 103, 101], [104, 111, 117, 114, 115], [102, 114, 101, 101], [103, 114, 97, 99, 101], [97, 112, 112, 101, 97, 108], [102, 114, 111, 109], [116, 111], [105, 115], [119, 104, 101, 110], [111, 114], [97, 110, 100], [110, 111, 116], [102, 117, 101, 108], [110, 111, 114, 109], [107, 105, 110, 100], [104, 111, 109, 101], [100, 97, 121], [109, 105, 110, 117, 116, 101], [101, 110, 116, 114, 105, 101, 115]]
def wdn_ (k : Nat) : List Nat := wds_.getD k []
def kds_ : List Nat := [100, 101, 102, 127, 105, 107, 108, 109, 110, 103, 104, 106, 111, 112, 113, 114, 120, 121, 122, 123, 124, 125, 126]
def kd_ (k : Nat) : Nat := kds_.getD k 4
def fwk_ (w : List Nat) : List Nat → Nat
  | [] => 4
  | k :: r => if w = wdn_ k then kd_ k else fwk_ w r
def wkd_ (w : List Nat) : Nat := fwk_ w [0, 1, 2, 3, 4, 5, 6, 7, 8, 9, 10, 11, 12, 13, 14, 15, 16, 17, 18, 19, 20, 21, 22]
theorem wdn_e : ∀ k, k < 23 → fx_wd k = (wdn_ k).map nI := by decide
theorem wdn_8 : ∀ k, k < 23 → (wdn_ k).length ≤ 8 ∧ ∀ b ∈ wdn_ k, b < 256 := by decide
theorem take_g {L : List Nat} {i n j : Nat} {w : List Nat} (hw : (L.drop i).take n = w) {b : Nat} (h : w[j]? = some b) : L[i + j]? = some b := by
  subst hw
  rw [List.getElem?_take] at h
  by_cases c : j < n
  · rw [if_pos c, List.getElem?_drop] at h; exact h
  · rw [if_neg c] at h; cases h
theorem spl1_c {L : List Nat} {m : fm_} (h : bc9_ L m) {k i n : Nat} (hk : k < 23) {w : List Nat} (hw : (L.drop i).take n = w) (hn : w.length = n) (hi : i + n ≤ 900) (hl : (wdn_ k).length = n) {x3 : Int32} : ∀ (d j : Nat), j + d = n → f_X8_spells_15 k (nI i) x3 (nI j) m = some (b01_ (decide (w.drop j = (wdn_ k).drop j)), m) := by
  have el := wdn_e k hk
  have hL : (fx_wd k).length = n := by rw [el, List.length_map]; exact hl
  intro d
  induction d with
  | zero =>
    intro j hj
    have : j = n := by omega
    subst this
    rw [e_X8_spells_15, hL, if_pos (nI_le (Nat.le_refl _) (by omega)), List.drop_of_length_le (by omega), List.drop_of_length_le (by omega)]
    rfl
  | succ d ih =>
    intro j hj
    have hj1 : j < w.length := by omega
    have hj2 : j < (wdn_ k).length := by omega
    have e1 := List.getElem?_eq_getElem hj1
    have e2 := List.getElem?_eq_getElem hj2
    have d1 := List.drop_eq_getElem_cons hj1
    have d2 := List.drop_eq_getElem_cons hj2
    have mb := (wdn_8 k hk).2 _ (List.getElem_mem hj2)
    generalize w[j] = b at e1 d1
    generalize (wdn_ k)[j] = c at e2 d2 mb
    have gb := take_g hw e1
    have bb := (h.2.2 _ _ gb).1
    have eb : f_X8_byteAt (nI (i + j)) m = some (nI b, m) := by
      rw [byt_c h (by omega)]; unfold byt_; rw [gb]
    have ec : (fx_wd k).getD j (nI 0) = nI c := by
      rw [el, List.getD_eq_getElem?_getD, List.getElem?_map, e2]
      rfl
    have := ih (j + 1) (by omega)
    rw [e_X8_spells_15, hL, d1, d2]
    by_cases q : b = c
    · subst q
      simp (disch := omega) only [↓reduceIte, ↓ns_m1, ns_let, ns_lef, ns_ltt, ns_ltf, ns_eqt, ns_eqf, ns_gd, nI_clamp, nI_add, pk_sub, pk_mul, ns_m1a, ns_m1b, ns_m1c, ns_m1d, ns_m1e, ns_m1f, ns_m1g, ns_un1, ns_un0, ns_day1, Option.bind_some, gi_si_self, gi_si_ne, gl_si, gi_sl, gl_sl_self, gl_sl_ne, if_true, if_false, ns_i0, ns_i1, ns_i2, ns_i3, ns_i4, ns_i5, ns_i6, ns_i7, ns_i8, ns_i9, ns_i10, ns_i11, ns_i12, ns_i13, ns_i20, ns_i23, ns_i24, ns_i31, ns_i50, ns_i60, ns_i99, ns_i100, ns_i144, ns_i200, ns_i255, ns_i700, ns_i880, ns_i899, ns_i900, ns_i901, ns_i999, ns_i1000, ns_i1440, ns_i4095, ns_i1000000, eb, ec, this]
      congr 3
      exact decide_eq_decide.mpr ⟨fun e => by rw [e], fun e => by injection e⟩
    · rw [decide_eq_false (by intro e; injection e with e _; exact q e)]
      simp (disch := omega) only [↓reduceIte, ↓ns_m1, ns_let, ns_lef, ns_ltt, ns_ltf, ns_eqt, ns_eqf, ns_gd, nI_clamp, nI_add, pk_sub, pk_mul, ns_m1a, ns_m1b, ns_m1c, ns_m1d, ns_m1e, ns_m1f, ns_m1g, ns_un1, ns_un0, ns_day1, Option.bind_some, gi_si_self, gi_si_ne, gl_si, gi_sl, gl_sl_self, gl_sl_ne, if_true, if_false, ns_i0, ns_i1, ns_i2, ns_i3, ns_i4, ns_i5, ns_i6, ns_i7, ns_i8, ns_i9, ns_i10, ns_i11, ns_i12, ns_i13, ns_i20, ns_i23, ns_i24, ns_i31, ns_i50, ns_i60, ns_i99, ns_i100, ns_i144, ns_i200, ns_i255, ns_i700, ns_i880, ns_i899, ns_i900, ns_i901, ns_i999, ns_i1000, ns_i1440, ns_i4095, ns_i1000000, eb, ec]
      rfl
theorem spl_c {L : List Nat} {m : fm_} (h : bc9_ L m) {k i n : Nat} (hk : k < 23) {w : List Nat} (hw : (L.drop i).take n = w) (hn : w.length = n) (hi : i + n ≤ 900) : f_X8_spells k (nI i) (nI (i + n)) m = some (b01_ (decide (w = wdn_ k)), m) := by
  have el := wdn_e k hk
  have hL : (fx_wd k).length = (wdn_ k).length := by rw [el, List.length_map]
  have h8 := (wdn_8 k hk).1
  unfold f_X8_spells
  rw [hL, pk_sub (by omega), show i + n - i = n by omega]
  by_cases c : (wdn_ k).length = n
  · rw [if_pos (by rw [c])]
    exact spl1_c h hk hw hn hi c n 0 (by omega)
  · rw [if_neg (fun e => c ((nI_eq (by omega) (by omega)).mp e)), decide_eq_false (by intro e; rw [e] at hn; exact c hn)]
    rfl
theorem fwk_l {w : List Nat} {k : Nat} {r : List Nat} : fwk_ w (k :: r) = if w = wdn_ k then kd_ k else fwk_ w r := rfl
theorem ite_w {p : Prop} [Decidable p] {x y : Option (Int32 × fm_)} {a b : Nat} {m : fm_} (h1 : x = some (nI a, m)) (h2 : y = some (nI b, m)) : (if p then x else y) = some (nI (if p then a else b), m) := by
  by_cases c : p
  · rw [if_pos c, if_pos c]; exact h1
  · rw [if_neg c, if_neg c]; exact h2
theorem lin_c {L : List Nat} {m : fm_} (h : bc9_ L m) {i n : Nat} {w : List Nat} (hw : (L.drop i).take n = w) (hn : w.length = n) (hi : i + n ≤ 900) : f_X8_lineWord (nI i) (nI (i + n)) m = some (nI (fwk_ w [0, 1, 2, 3, 4, 5, 6, 7, 8]), m) := by
  have s := fun k (hk : k < 23) => spl_c h hk hw hn hi
  unfold f_X8_lineWord
  simp only [s 0 (by omega), s 1 (by omega), s 2 (by omega), s 3 (by omega), s 4 (by omega), s 5 (by omega), s 6 (by omega), s 7 (by omega), s 8 (by omega), Option.bind_some, b01_0, decide_eq_false_iff_not, fwk_l, ite_not]
  exact ite_w rfl (ite_w rfl (ite_w rfl (ite_w rfl (ite_w rfl (ite_w rfl (ite_w rfl (ite_w rfl (ite_w rfl (rfl)))))))))
theorem inn_c {L : List Nat} {m : fm_} (h : bc9_ L m) {i n : Nat} {w : List Nat} (hw : (L.drop i).take n = w) (hn : w.length = n) (hi : i + n ≤ 900) : f_X8_innerWord (nI i) (nI (i + n)) m = some (nI (fwk_ w [9, 10, 11, 12, 13, 14, 15, 16, 17, 18, 19, 20, 21, 22]), m) := by
  have s := fun k (hk : k < 23) => spl_c h hk hw hn hi
  unfold f_X8_innerWord
  simp only [s 9 (by omega), s 10 (by omega), s 11 (by omega), s 12 (by omega), s 13 (by omega), s 14 (by omega), s 15 (by omega), s 16 (by omega), s 17 (by omega), s 18 (by omega), s 19 (by omega), s 20 (by omega), s 21 (by omega), s 22 (by omega), Option.bind_some, b01_0, decide_eq_false_iff_not, fwk_l, ite_not]
  exact ite_w rfl (ite_w rfl (ite_w rfl (ite_w rfl (ite_w rfl (ite_w rfl (ite_w rfl (ite_w rfl (ite_w rfl (ite_w rfl (ite_w rfl (ite_w rfl (ite_w rfl (ite_w rfl (rfl))))))))))))))
theorem fwk_a {w : List Nat} {s : List Nat} : ∀ {r : List Nat}, (∀ k ∈ r, ¬ kd_ k = 4) → fwk_ w (r ++ s) = if fwk_ w r = 4 then fwk_ w s else fwk_ w r
  | [], _ => by
    exact (if_pos (show fwk_ w [] = 4 from rfl)).symm
  | k :: r, h => by
    have hk := h k (List.mem_cons_self ..)
    have ih := fwk_a (w := w) (s := s) (r := r) fun x hx => h x (List.mem_cons_of_mem _ hx)
    rw [List.cons_append, fwk_l, fwk_l]
    by_cases c : w = wdn_ k
    · rw [if_pos c, if_pos c, if_neg hk]
    · rw [if_neg c, if_neg c, ih]
theorem wkd_a {w : List Nat} : wkd_ w = if fwk_ w [0, 1, 2, 3, 4, 5, 6, 7, 8] = 4 then fwk_ w [9, 10, 11, 12, 13, 14, 15, 16, 17, 18, 19, 20, 21, 22] else fwk_ w [0, 1, 2, 3, 4, 5, 6, 7, 8] := fwk_a (r := [0, 1, 2, 3, 4, 5, 6, 7, 8]) (by decide)
theorem fwk_b {w : List Nat} : ∀ r : List Nat, (∀ k ∈ r, k < 23) → fwk_ w r = 4 ∨ (100 ≤ fwk_ w r ∧ fwk_ w r < 128)
  | [], _ => Or.inl rfl
  | k :: r, h => by
    rw [fwk_l]
    by_cases c : w = wdn_ k
    · rw [if_pos c]
      have : ∀ k, k < 23 → 100 ≤ kd_ k ∧ kd_ k < 128 := by decide
      exact Or.inr (this k (h k (List.mem_cons_self ..)))
    · rw [if_neg c]
      exact fwk_b r fun x hx => h x (List.mem_cons_of_mem _ hx)
theorem wkd_b (w : List Nat) : wkd_ w = 4 ∨ (100 ≤ wkd_ w ∧ wkd_ w < 128) := fwk_b _ (by decide)
/-- which word it is -/
theorem fwk_k {w : List Nat} : ∀ r : List Nat, (∀ k ∈ r, k < 23) → fwk_ w r = 4 ∨ ∃ k ∈ r, fwk_ w r = kd_ k ∧ w = wdn_ k
  | [], _ => Or.inl rfl
  | k :: r, h => by
    rw [fwk_l]
    by_cases c : w = wdn_ k
    · rw [if_pos c]
      exact Or.inr ⟨k, List.mem_cons_self .., rfl, c⟩
    · rw [if_neg c]
      rcases fwk_k r (fun x hx => h x (List.mem_cons_of_mem _ hx)) with e | ⟨x, e1, e2⟩
      · exact Or.inl e
      · exact Or.inr ⟨x, List.mem_cons_of_mem _ e1, e2⟩
theorem wkd_k {w : List Nat} {k : Nat} (hk : k < 23) : wkd_ w = kd_ k ↔ w = wdn_ k := by
  constructor
  · intro e
    rcases fwk_k (w := w) [0, 1, 2, 3, 4, 5, 6, 7, 8, 9, 10, 11, 12, 13, 14, 15, 16, 17, 18, 19, 20, 21, 22] (by decide) with q | ⟨x, h1, h2, h3⟩
    · have q : wkd_ w = 4 := q
      rw [q] at e
      have : ∀ k, k < 23 → ¬ 4 = kd_ k := by decide
      exact absurd e (this k hk)
    · have h2 : wkd_ w = kd_ x := h2
      rw [h2] at e
      have hx : x < 23 := by
        have : ∀ x ∈ [0, 1, 2, 3, 4, 5, 6, 7, 8, 9, 10, 11, 12, 13, 14, 15, 16, 17, 18, 19, 20, 21, 22], x < 23 := by decide
        exact this x h1
      have : ∀ x, x < 23 → ∀ k, k < 23 → kd_ x = kd_ k → x = k := by decide
      rw [← this x hx k hk e]
      exact h3
  · intro e
    subst e
    have : ∀ k, k < 23 → wkd_ (wdn_ k) = kd_ k := by decide
    exact this k hk
