/-! ===== the class's scanner ===== -/
abbrev tkn_ : Type := Nat × Nat × Nat
def blk_ (b : Nat) : Bool := decide (b = 32 ∨ b = 10)
def mrk_ (b : Nat) : Bool := decide (b = 59 ∨ b = 40 ∨ b = 41 ∨ b = 60 ∨ b = 62 ∨ b = 61 ∨ b = 43 ∨ b = 45)
def hdl_ (l : List Nat) : Bool := match l with
  | [] => false
  | b :: _ => isl_ b
def ptk_ (r : List Nat) : Bool := decide (1 ≤ run_ isd_ r ∧ run_ isd_ r ≤ 2 ∧ hdl_ (r.drop (run_ isd_ r)) = false ∧ nmv_ (r.take (run_ isd_ r)) 0 < 12)
def scn_ (l : List Nat) : Nat × Nat × Nat := match l with
  | [] => (0, 0, 0)
  | b :: r => if isd_ b = true then (if 4 < run_ isd_ (b :: r) ∨ hdl_ ((b :: r).drop (run_ isd_ (b :: r))) = true then (1, 0, 0) else (2, nmv_ ((b :: r).take (run_ isd_ (b :: r))) 0, run_ isd_ (b :: r)))
    else if isl_ b = true then (if b = 112 ∧ ptk_ r = true then (3, nmv_ (r.take (run_ isd_ r)) 0, run_ isd_ r + 1) else if 8 < run_ isl_ (b :: r) then (1, 0, 0) else (wkd_ ((b :: r).take (run_ isl_ (b :: r))), 0, run_ isl_ (b :: r)))
    else if mrk_ b = true then (b, 0, 1) else (1, 0, 0)
theorem run_all {p : Nat → Bool} : ∀ l, (∀ b ∈ l.take (run_ p l), p b = true) ∧ (l.take (run_ p l)).length = run_ p l
  | [] => ⟨fun b h => (by cases h), rfl⟩
  | b :: l => by
    have ih := run_all (p := p) l
    unfold run_
    by_cases c : p b = true
    · rw [if_pos c, List.take_succ_cons, List.length_cons, ih.2]
      refine ⟨fun x hx => ?_, rfl⟩
      rcases List.mem_cons.mp hx with e | e
      · rw [e]; exact c
      · exact ih.1 x e
    · rw [if_neg c]; exact ⟨fun b h => (by cases h), rfl⟩
theorem run_pos {p : Nat → Bool} {b : Nat} {r : List Nat} (h : p b = true) : 1 ≤ run_ p (b :: r) := by
  unfold run_
  rw [if_pos h]
  omega
theorem nmv_b : ∀ (l : List Nat) (a n : Nat), l.length = n → n ≤ 4 → (∀ b ∈ l, isd_ b = true) → a < 10 ^ (4 - n) → nmv_ l a < 10000
  | [], a, n, h, _, _, ha => by
    subst h
    exact ha
  | b :: l, a, n, h, h4, hd, ha => by
    cases n with
    | zero => cases h
    | succ n =>
      have hc := of_decide_eq_true (hd b (List.mem_cons_self ..))
      have hp : 10 ^ (4 - n) = 10 ^ (4 - (n + 1)) * 10 := by
        rw [show 4 - n = (4 - (n + 1)) + 1 by omega, Nat.pow_succ]
      exact nmv_b l (a * 10 + b - 48) n (by rw [List.length_cons] at h; omega) (by omega) (fun x hx => hd x (List.mem_cons_of_mem _ hx)) (by omega)
/-- of a place where something stands: what the scanner finds -/
theorem scn_p (b : Nat) (r : List Nat) (hb : b < 256) : ((scn_ (b :: r)).1 = 1 ∧ (scn_ (b :: r)).2.1 = 0 ∧ (scn_ (b :: r)).2.2 = 0) ∨ (2 ≤ (scn_ (b :: r)).1 ∧ (scn_ (b :: r)).1 < 128 ∧ (scn_ (b :: r)).2.1 < 10000 ∧ 1 ≤ (scn_ (b :: r)).2.2 ∧ (scn_ (b :: r)).2.2 ≤ r.length + 1 ∧ ((scn_ (b :: r)).1 = 3 → (scn_ (b :: r)).2.1 < 12)) := by
  unfold scn_
  by_cases c1 : isd_ b = true
  · simp only [if_pos c1]
    by_cases c2 : 4 < run_ isd_ (b :: r) ∨ hdl_ ((b :: r).drop (run_ isd_ (b :: r))) = true
    · rw [if_pos c2]; exact Or.inl ⟨rfl, rfl, rfl⟩
    · rw [if_neg c2]
      have h1 := run_le (p := isd_) (b :: r)
      have h2 := run_all (p := isd_) (b :: r)
      have h3 := run_pos (p := isd_) (r := r) c1
      rw [List.length_cons] at h1
      refine Or.inr ⟨Nat.le_refl _, by show 2 < 128; omega, ?_, h3, h1, fun e => absurd e (by show ¬ (2 : Nat) = 3; omega)⟩
      refine nmv_b _ 0 _ h2.2 (by omega) h2.1 (Nat.pow_pos (by omega))
  · simp only [if_neg c1]
    by_cases c2 : isl_ b = true
    · simp only [if_pos c2]
      by_cases c3 : b = 112 ∧ ptk_ r = true
      · rw [if_pos c3]
        have h4 := of_decide_eq_true c3.2
        have h1 := run_le (p := isd_) r
        exact Or.inr ⟨by show 2 ≤ 3; omega, by show 3 < 128; omega, by show nmv_ _ 0 < 10000; omega, by show 1 ≤ _ + 1; omega, by show _ + 1 ≤ _ + 1; omega, fun _ => h4.2.2.2⟩
      · rw [if_neg c3]
        by_cases c4 : 8 < run_ isl_ (b :: r)
        · rw [if_pos c4]; exact Or.inl ⟨rfl, rfl, rfl⟩
        · rw [if_neg c4]
          have h1 := run_le (p := isl_) (b :: r)
          have h3 := run_pos (p := isl_) (r := r) c2
          rw [List.length_cons] at h1
          have := wkd_b ((b :: r).take (run_ isl_ (b :: r)))
          exact Or.inr ⟨by show 2 ≤ wkd_ _; omega, by show wkd_ _ < 128; omega, by show 0 < 10000; omega, h3, h1, fun e => by have e : wkd_ _ = 3 := e; omega⟩
    · simp only [if_neg c2]
      by_cases c3 : mrk_ b = true
      · rw [if_pos c3]
        have := of_decide_eq_true c3
        exact Or.inr ⟨by show 2 ≤ b; omega, by show b < 128; omega, by show 0 < 10000; omega, by show 1 ≤ 1; omega, by show 1 ≤ _ + 1; omega, fun e => by have e : b = 3 := e; omega⟩
      · rw [if_neg c3]; exact Or.inl ⟨rfl, rfl, rfl⟩
/-- tokens in the class's rows -/
def tkr_ (T : List tkn_) (m : fm_) : Prop := gi_ m 1 5 = nI T.length ∧ ∀ j t, T[j]? = some t → gi_ m 3 j = nI t.1 ∧ gi_ m 4 j = nI t.2.1 ∧ gi_ m 5 j = nI t.2.2
def ptw_ : List (Nat × Nat × Nat) := [(3, 5, 0), (1, 1, 6)]
theorem bc9_fr {w : List (Nat × Nat × Nat)} {L : List Nat} {m m1 : fm_} (h : bc9_ L m) (hs : sa_ w m m1) (hd : dj_ [(1, 1, 5), (2, 2, 0)] w = true) : bc9_ L m1 := by
  obtain ⟨h1, h2, h3⟩ := h
  have hg := sa_ag hd hs
  refine ⟨h1, (hg 1 4 (by rfl)).1.trans h2, fun j b hj => ⟨(h3 j b hj).1, ?_⟩⟩
  rw [(hg 2 j (by rfl)).1]
  exact (h3 j b hj).2
theorem put_c {T : List tkn_} {m : fm_} (h : tkr_ T m) (hT : T.length ≤ 900) (k v p : Nat) : ∃ m1, f_X8_put (nI k) (nI v) (nI p) m = some (0, m1) ∧ tkr_ (T ++ [(k, v, p)]) m1 ∧ sa_ ptw_ m m1 := by
  obtain ⟨h1, h2⟩ := h
  refine ⟨si_ (si_ (si_ (si_ m 3 T.length (nI k)) 4 T.length (nI v)) 5 T.length (nI p)) 1 5 (nI (T.length + 1)), ?_, ⟨?_, fun j t hj => ?_⟩, sa_si (by rfl) (sa_si (by rfl) (sa_si (by rfl) (sa_si (by rfl) sa_rf)))⟩
  · unfold f_X8_put
    rw [show Int32.ofNat 901 = nI 901 from rfl]
    simp (disch := omega) only [↓reduceIte, ↓ns_m1, ns_let, ns_lef, ns_ltt, ns_ltf, ns_eqt, ns_eqf, ns_gd, nI_clamp, nI_add, pk_sub, pk_mul, ns_m1a, ns_m1b, ns_m1c, ns_m1d, ns_m1e, ns_m1f, ns_m1g, ns_un1, ns_un0, ns_day1, Option.bind_some, gi_si_self, gi_si_ne, gl_si, gi_sl, gl_sl_self, gl_sl_ne, if_true, if_false, ns_i0, ns_i1, ns_i2, ns_i3, ns_i4, ns_i5, ns_i6, ns_i7, ns_i8, ns_i9, ns_i10, ns_i11, ns_i12, ns_i13, ns_i20, ns_i23, ns_i24, ns_i31, ns_i50, ns_i60, ns_i99, ns_i100, ns_i144, ns_i200, ns_i255, ns_i700, ns_i880, ns_i899, ns_i900, ns_i901, ns_i999, ns_i1000, ns_i1440, ns_i4095, ns_i1000000, h1]
  · rw [gi_si_self, List.length_append]; rfl
  · by_cases c : j < T.length
    · rw [List.getElem?_append_left c] at hj
      obtain ⟨g1, g2, g3⟩ := h2 j t hj
      simp only [gi_si]
      refine ⟨?_, ?_, ?_⟩
      · rw [if_neg (by omega), if_neg (by omega), if_neg (by omega), if_neg (by omega)]; exact g1
      · rw [if_neg (by omega), if_neg (by omega), if_neg (by omega), if_neg (by omega)]; exact g2
      · rw [if_neg (by omega), if_neg (by omega), if_neg (by omega), if_neg (by omega)]; exact g3
    · rw [List.getElem?_append_right (by omega)] at hj
      have e0 : j - T.length = 0 := by
        have := (List.getElem?_eq_some_iff.mp hj).1
        rw [List.length_singleton] at this
        omega
      have e : j = T.length := by omega
      subst e
      rw [e0] at hj
      injection hj with hj
      subst hj
      refine ⟨?_, ?_, ?_⟩
      · rw [gi_si_ne (by omega), gi_si_ne (by omega), gi_si_ne (by omega), gi_si_self]
      · rw [gi_si_ne (by omega), gi_si_ne (by omega), gi_si_self]
      · rw [gi_si_ne (by omega), gi_si_self]
theorem blk_c {b : Nat} (hb : b < 256) (m : fm_) : f_X8_isBlank (nI b) m = some (b01_ (blk_ b), m) := by
  unfold f_X8_isBlank blk_
  by_cases c1 : b = 32
  · subst c1; rfl
  · by_cases c2 : b = 10
    · subst c2; rfl
    · rw [decide_eq_false (by omega)]
      show _ = some (nI 0, m)
      simp (disch := omega) only [↓reduceIte, ↓ns_m1, ns_let, ns_lef, ns_ltt, ns_ltf, ns_eqt, ns_eqf, ns_gd, nI_clamp, nI_add, pk_sub, pk_mul, ns_m1a, ns_m1b, ns_m1c, ns_m1d, ns_m1e, ns_m1f, ns_m1g, ns_un1, ns_un0, ns_day1, Option.bind_some, gi_si_self, gi_si_ne, gl_si, gi_sl, gl_sl_self, gl_sl_ne, if_true, if_false, ns_i0, ns_i1, ns_i2, ns_i3, ns_i4, ns_i5, ns_i6, ns_i7, ns_i8, ns_i9, ns_i10, ns_i11, ns_i12, ns_i13, ns_i20, ns_i23, ns_i24, ns_i31, ns_i50, ns_i60, ns_i99, ns_i100, ns_i144, ns_i200, ns_i255, ns_i700, ns_i880, ns_i899, ns_i900, ns_i901, ns_i999, ns_i1000, ns_i1440, ns_i4095, ns_i1000000, show (32 : Int32) = nI 32 from rfl]
theorem mrk_c {b : Nat} (hb : b < 256) (m : fm_) : f_X8_isMark (nI b) m = some (b01_ (mrk_ b), m) := by
  have : ∀ b, b < 256 → (f_X8_isMark (nI b) m = some (1, m) ∧ mrk_ b = true) ∨ (f_X8_isMark (nI b) m = some (0, m) ∧ mrk_ b = false) := fun b hb => by
    by_cases c : mrk_ b = true
    · refine Or.inl ⟨?_, c⟩
      rcases of_decide_eq_true c with e | e | e | e | e | e | e | e <;> subst e <;> rfl
    · refine Or.inr ⟨?_, Bool.eq_false_iff.mpr c⟩
      have c := of_decide_eq_false (Bool.eq_false_iff.mpr c)
      unfold f_X8_isMark
      show _ = some (nI 0, m)
      simp (disch := omega) only [↓reduceIte, ↓ns_m1, ns_let, ns_lef, ns_ltt, ns_ltf, ns_eqt, ns_eqf, ns_gd, nI_clamp, nI_add, pk_sub, pk_mul, ns_m1a, ns_m1b, ns_m1c, ns_m1d, ns_m1e, ns_m1f, ns_m1g, ns_un1, ns_un0, ns_day1, Option.bind_some, gi_si_self, gi_si_ne, gl_si, gi_sl, gl_sl_self, gl_sl_ne, if_true, if_false, ns_i0, ns_i1, ns_i2, ns_i3, ns_i4, ns_i5, ns_i6, ns_i7, ns_i8, ns_i9, ns_i10, ns_i11, ns_i12, ns_i13, ns_i20, ns_i23, ns_i24, ns_i31, ns_i50, ns_i60, ns_i99, ns_i100, ns_i144, ns_i200, ns_i255, ns_i700, ns_i880, ns_i899, ns_i900, ns_i901, ns_i999, ns_i1000, ns_i1440, ns_i4095, ns_i1000000, show (59 : Int32) = nI 59 from rfl, show (40 : Int32) = nI 40 from rfl, show (41 : Int32) = nI 41 from rfl, show (62 : Int32) = nI 62 from rfl, show (61 : Int32) = nI 61 from rfl, show (43 : Int32) = nI 43 from rfl, show (45 : Int32) = nI 45 from rfl]
  rcases this b hb with ⟨e1, e2⟩ | ⟨e1, e2⟩
  · rw [e1, e2]; rfl
  · rw [e1, e2]; rfl
theorem lec_c {L : List Nat} {m : fm_} (h : bc9_ L m) {j : Nat} (hj : j ≤ 1000) : f_X8_isLetter (byt_ L j) m = some (b01_ (hdl_ (L.drop j)), m) := by
  unfold byt_ hdl_
  cases e : L.drop j with
  | nil =>
    have : L.length ≤ j := by
      have := congrArg List.length e
      rw [List.length_drop, List.length_nil] at this
      omega
    rw [List.getElem?_eq_none this]
    rfl
  | cons b r =>
    obtain ⟨k1, k2, k3⟩ := drop_p e
    rw [k1]
    exact isl_c (h.2.2 j b k1).1 m
