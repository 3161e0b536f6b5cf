/-! ===== the number that a row of digits spells ===== -/
theorem nmi_c {L : List Nat} {m : fm_} (h : bc9_ L m) {x1 : Int32} : ∀ (l : List Nat) (i a n : Nat), (L.drop i).take n = l → l.length = n → n ≤ 4 → i ≤ 1000 → (∀ b ∈ l, isd_ b = true) → a < 10 ^ (4 - n) → f_X8_numberIn_5 x1 (nI (i + n)) (nI a) (nI i) m = some (nI (nmv_ l a), m) := by
  intro l
  induction l with
  | nil =>
    intro i a n hl hn h4 hi hd ha
    have : n = 0 := by rw [← hn]; rfl
    subst this
    rw [e_X8_numberIn_5]
    simp (disch := omega) only [↓reduceIte, ↓ns_m1, ns_let, ns_lef, ns_ltt, ns_ltf, ns_eqt, ns_eqf, ns_gd, nI_clamp, nI_add, pk_sub, pk_mul, ns_m1a, ns_m1b, ns_m1c, ns_m1d, ns_m1e, ns_m1f, ns_m1g, ns_un1, ns_un0, ns_day1, Option.bind_some, gi_si_self, gi_si_ne, gl_si, gi_sl, gl_sl_self, gl_sl_ne, if_true, if_false, ns_i0, ns_i1, ns_i2, ns_i3, ns_i4, ns_i5, ns_i6, ns_i7, ns_i8, ns_i9, ns_i10, ns_i11, ns_i12, ns_i13, ns_i20, ns_i23, ns_i24, ns_i31, ns_i50, ns_i60, ns_i99, ns_i100, ns_i144, ns_i200, ns_i255, ns_i700, ns_i880, ns_i899, ns_i900, ns_i901, ns_i999, ns_i1000, ns_i1440, ns_i4095, ns_i1000000]
    rfl
  | cons b l ih =>
    intro i a n hl hn h4 hi hd ha
    cases n with
    | zero => cases hn
    | succ n =>
      have hn2 : l.length = n := by rw [List.length_cons] at hn; omega
      have h900 := h.1
      cases hdr : L.drop i with
      | nil => rw [hdr] at hl; cases hl
      | cons c r =>
        rw [hdr, List.take_succ_cons] at hl
        injection hl with e1 e2
        subst e1
        obtain ⟨k1, k2, k3⟩ := drop_p hdr
        obtain ⟨hb, _⟩ := h.2.2 i c k1
        have hc := of_decide_eq_true (hd c (List.mem_cons_self ..))
        have eb : f_X8_byteAt (nI i) m = some (nI c, m) := by
          rw [byt_c h (i := i) (by omega)]; unfold byt_; rw [k1]
        have hp : 10 ^ (4 - n) = 10 ^ (4 - (n + 1)) * 10 := by
          rw [show 4 - n = (4 - (n + 1)) + 1 by omega, Nat.pow_succ]
        have hq : 10 ^ (4 - (n + 1)) ≤ 10 ^ 4 := Nat.pow_le_pow_right (by omega) (by omega)
        generalize 10 ^ (4 - (n + 1)) = P4 at hp hq ha
        have hq : P4 ≤ 10000 := hq
        have := ih (i + 1) (a * 10 + c - 48) n (by rw [k2]; exact e2) hn2 (by omega) (by omega) (fun b hb => hd b (List.mem_cons_of_mem _ hb)) (by omega)
        rw [show i + 1 + n = i + (n + 1) by omega] at this
        rw [e_X8_numberIn_5]
        simp (disch := omega) only [↓reduceIte, ↓ns_m1, ns_let, ns_lef, ns_ltt, ns_ltf, ns_eqt, ns_eqf, ns_gd, nI_clamp, nI_add, pk_sub, pk_mul, ns_m1a, ns_m1b, ns_m1c, ns_m1d, ns_m1e, ns_m1f, ns_m1g, ns_un1, ns_un0, ns_day1, Option.bind_some, gi_si_self, gi_si_ne, gl_si, gi_sl, gl_sl_self, gl_sl_ne, if_true, if_false, ns_i0, ns_i1, ns_i2, ns_i3, ns_i4, ns_i5, ns_i6, ns_i7, ns_i8, ns_i9, ns_i10, ns_i11, ns_i12, ns_i13, ns_i20, ns_i23, ns_i24, ns_i31, ns_i50, ns_i60, ns_i99, ns_i100, ns_i144, ns_i200, ns_i255, ns_i700, ns_i880, ns_i899, ns_i900, ns_i901, ns_i999, ns_i1000, ns_i1440, ns_i4095, ns_i1000000, eb, show (10 : Int32) = nI 10 from rfl, show (48 : Int32) = nI 48 from rfl, this]
        rfl
