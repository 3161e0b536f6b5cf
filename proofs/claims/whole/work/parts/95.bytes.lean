/-! ===== bytes of the tape, as the scanners see them ===== -/
def byt_ (L : List Nat) (i : Nat) : Int32 := match L[i]? with
  | none => -1
  | some b => nI b
def bc9_ (L : List Nat) (m : fm_) : Prop := L.length ≤ 900 ∧ gi_ m 1 4 = nI L.length ∧ ∀ j b, L[j]? = some b → b < 256 ∧ gi_ m 2 j &&& 255 = nI b
def bm9_ (L : List Nat) (m : fm_) : Prop := L.length ≤ 900 ∧ gi_ m 106 5 = nI L.length ∧ ∀ j b, L[j]? = some b → b < 256 ∧ gi_ m 107 j = nI b
theorem byt_c {L : List Nat} {m : fm_} (h : bc9_ L m) {i : Nat} (hi : i < 2 ^ 20) : f_X8_byteAt (nI i) m = some (byt_ L i, m) := by
  obtain ⟨h1, h2, h3⟩ := h
  unfold f_X8_byteAt byt_
  by_cases c : i < L.length
  · have e := List.getElem?_eq_getElem c
    generalize L[i] = b at e
    obtain ⟨b1, g⟩ := h3 i b e
    rw [e, h2, if_neg (nI_pos (by omega)), if_neg (nI_ge c (by omega)), gd_t (ix_i (vp_in_nI (by omega) (by omega))), nI_clamp (by omega), g]
  · rw [List.getElem?_eq_none (by omega), h2, if_neg (nI_pos (by omega)), if_pos (nI_le (by omega) (by omega))]
theorem her_m {L : List Nat} {m : fm_} (h : bm9_ L m) {p i : Nat} (hp : gi_ m 106 4 = nI p) (hi : p + i < 2 ^ 20) : f_X12_here (nI i) m = some (byt_ L (p + i), m) := by
  obtain ⟨h1, h2, h3⟩ := h
  unfold f_X12_here byt_
  rw [hp, h2, nI_add]
  by_cases c : p + i < L.length
  · have e := List.getElem?_eq_getElem c
    generalize L[p + i] = b at e
    obtain ⟨b1, g⟩ := h3 (p + i) b e
    rw [e, if_neg (nI_ge c (by omega)), gd_t (ix_i (vp_in_nI (by omega) (by omega))), nI_clamp (by omega), g]
  · rw [List.getElem?_eq_none (by omega), if_pos (nI_le (by omega) (by omega))]
