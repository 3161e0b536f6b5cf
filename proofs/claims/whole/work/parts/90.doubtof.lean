/-! ===== how sure an effect is: the reference ===== -/
def abi_ (x : Int32) : Int32 := if 0 ≤ x then x else -x
/-- is the t-th way as good -/
def dgd_ (G : List Int32) (t : Nat) : Bool := decide (abi_ (su_ 0 G) ≤ st_ (nI t) 0 0 G) || !(decide (-(st_ (nI t) 0 0 G) < abi_ (su_ 0 G)))
def cntf_ (f : Nat → Bool) : Nat → Nat
  | 0 => 0
  | n + 1 => cntf_ f n + (if f n = true then 1 else 0)
theorem cntf_b {f : Nat → Bool} : ∀ n, cntf_ f n ≤ n
  | 0 => Nat.le_refl _
  | n + 1 => by
    have := cntf_b (f := f) n
    unfold cntf_
    by_cases c : f n = true
    · rw [if_pos c]; omega
    · rw [if_neg c]; omega
def sdo2_ (A : air_) (x y : Int32) : Int32 := match nat_ x 100, nat_ y 2 with
  | some d, some b => if b = 0 then nI (cntf_ (dgd_ (gs_ A d)) (2 ^ (gs_ A d).length)) else nI (2 ^ (gs_ A d).length)
  | _, _ => -1
theorem shl_p {l : Nat} (h : l ≤ 12) : (1 : Int32) <<< (nI l &&& 31) = nI (2 ^ l) := by
  have : ∀ l, l < 13 → (1 : Int32) <<< (nI l &&& 31) = nI (2 ^ l) := by decide
  exact this l (by omega)
theorem pw12_ {l : Nat} (h : l ≤ 12) : 2 ^ l ≤ 4096 := by
  have : ∀ l, l < 13 → 2 ^ l ≤ 4096 := by decide
  exact this l (by omega)
theorem do52_ {G : List Int32} {m : fm_} (h : gm_ G m) {x1 x2 : Int32} : ∃ m1, f_X12_doubtOf_52 x1 x2 (abi_ (su_ 0 G)) (nI 0) (nI 0) m = some (if x2 = 0 then nI (cntf_ (dgd_ G) (2 ^ G.length)) else nI (2 ^ G.length), m1) ∧ m1 = m := by
  have h12 := h.1
  have hp := pw12_ h12
  have sp := shl_p h12
  obtain ⟨x, e, hx⟩ := lp0_ (n := 2 ^ G.length) (F := fun i x => f_X12_doubtOf_52 x1 x2 (abi_ (su_ 0 G)) x (nI i) m) (I := fun i x => x = nI (cntf_ (dgd_ G) i)) (fun i x hi hx => by
    have hx : x = nI (cntf_ (dgd_ G) i) := hx
    subst hx
    have hb := cntf_b (f := dgd_ G) i
    have sm := sm_all h (nI i)
    refine ⟨nI (cntf_ (dgd_ G) (i + 1)), ?_, rfl⟩
    show f_X12_doubtOf_52 x1 x2 (abi_ (su_ 0 G)) (nI (cntf_ (dgd_ G) i)) (nI i) m = f_X12_doubtOf_52 x1 x2 (abi_ (su_ 0 G)) (nI (cntf_ (dgd_ G) i + (if dgd_ G i = true then 1 else 0))) (nI (i + 1)) m
    rw [e_X12_doubtOf_52, h.2.1, sp, if_neg (nI_ge hi (by omega)), sm]
    simp only [Option.bind_some]
    by_cases c1 : abi_ (su_ 0 G) ≤ st_ (nI i) 0 0 G
    · rw [if_pos c1, if_pos (show dgd_ G i = true by unfold dgd_; rw [decide_eq_true c1]; rfl)]
      simp (disch := omega) only [↓reduceIte, ↓ns_m1, ns_let, ns_lef, ns_ltt, ns_ltf, ns_eqt, ns_eqf, ns_gd, nI_clamp, nI_add, pk_sub, pk_mul, ns_m1a, ns_m1b, ns_m1c, ns_m1d, ns_m1e, ns_m1f, ns_m1g, ns_un1, ns_un0, ns_day1, Option.bind_some, gi_si_self, gi_si_ne, gl_si, gi_sl, gl_sl_self, gl_sl_ne, if_true, if_false, ns_i0, ns_i1, ns_i2, ns_i3, ns_i4, ns_i5, ns_i6, ns_i7, ns_i8, ns_i9, ns_i10, ns_i11, ns_i12, ns_i13, ns_i20, ns_i23, ns_i24, ns_i31, ns_i50, ns_i60, ns_i99, ns_i100, ns_i144, ns_i200, ns_i255, ns_i700, ns_i880, ns_i899, ns_i900, ns_i901, ns_i999, ns_i1000, ns_i1440, ns_i4095, ns_i1000000]
    · rw [if_neg c1, sm]
      simp only [Option.bind_some]
      by_cases c2 : -(st_ (nI i) 0 0 G) < abi_ (su_ 0 G)
      · rw [if_pos c2, if_neg (show ¬ dgd_ G i = true by unfold dgd_; rw [decide_eq_false c1, decide_eq_true c2]; decide)]
        simp (disch := omega) only [↓reduceIte, ↓ns_m1, ns_let, ns_lef, ns_ltt, ns_ltf, ns_eqt, ns_eqf, ns_gd, nI_clamp, nI_add, pk_sub, pk_mul, ns_m1a, ns_m1b, ns_m1c, ns_m1d, ns_m1e, ns_m1f, ns_m1g, ns_un1, ns_un0, ns_day1, Option.bind_some, gi_si_self, gi_si_ne, gl_si, gi_sl, gl_sl_self, gl_sl_ne, if_true, if_false, ns_i0, ns_i1, ns_i2, ns_i3, ns_i4, ns_i5, ns_i6, ns_i7, ns_i8, ns_i9, ns_i10, ns_i11, ns_i12, ns_i13, ns_i20, ns_i23, ns_i24, ns_i31, ns_i50, ns_i60, ns_i99, ns_i100, ns_i144, ns_i200, ns_i255, ns_i700, ns_i880, ns_i899, ns_i900, ns_i901, ns_i999, ns_i1000, ns_i1440, ns_i4095, ns_i1000000]
      · rw [if_neg c2, if_pos (show dgd_ G i = true by unfold dgd_; rw [decide_eq_false c1, decide_eq_false c2]; rfl)]
        simp (disch := omega) only [↓reduceIte, ↓ns_m1, ns_let, ns_lef, ns_ltt, ns_ltf, ns_eqt, ns_eqf, ns_gd, nI_clamp, nI_add, pk_sub, pk_mul, ns_m1a, ns_m1b, ns_m1c, ns_m1d, ns_m1e, ns_m1f, ns_m1g, ns_un1, ns_un0, ns_day1, Option.bind_some, gi_si_self, gi_si_ne, gl_si, gi_sl, gl_sl_self, gl_sl_ne, if_true, if_false, ns_i0, ns_i1, ns_i2, ns_i3, ns_i4, ns_i5, ns_i6, ns_i7, ns_i8, ns_i9, ns_i10, ns_i11, ns_i12, ns_i13, ns_i20, ns_i23, ns_i24, ns_i31, ns_i50, ns_i60, ns_i99, ns_i100, ns_i144, ns_i200, ns_i255, ns_i700, ns_i880, ns_i899, ns_i900, ns_i901, ns_i999, ns_i1000, ns_i1440, ns_i4095, ns_i1000000]) (s := nI 0) rfl
  have hx : x = nI (cntf_ (dgd_ G) (2 ^ G.length)) := hx
  have e : f_X12_doubtOf_52 x1 x2 (abi_ (su_ 0 G)) (nI 0) (nI 0) m = f_X12_doubtOf_52 x1 x2 (abi_ (su_ 0 G)) x (nI (2 ^ G.length)) m := e
  refine ⟨m, ?_, rfl⟩
  rw [e, e_X12_doubtOf_52, h.2.1, sp, if_pos (nI_le (Nat.le_refl _) (by omega)), hx]
  by_cases c : x2 = 0
  · rw [if_pos c, if_pos c]
  · rw [if_neg c, if_neg c]
theorem doubtOf_m {A : air_} {n : Nat} {m : fm_} (hA : ∀ c q, A c = some q → q.1 < 4 ∧ q.2 < 1000) (h : rm_ A n m) (x y : Int32) : ∃ m1, f_X12_doubtOf x y m = some (sdo2_ A x y, m1) ∧ rm_ A n m1 := by
  unfold f_X12_doubtOf sdo2_
  rw [day_m]
  simp only [Option.bind_some]
  rcases nat_ix x (n := 100) (by omega) with ⟨e1, _⟩ | ⟨d, hd, rfl, e1, -⟩
  · rw [if_pos (bu_0 e1), e1]; exact ⟨m, rfl, h⟩
  rw [if_neg (bu_ne e1), e1]
  rcases nat_ix y (n := 2) (by omega) with ⟨e2, n2⟩ | ⟨b, hb, rfl, e2, n1, n2⟩
  · rw [e2]
    rcases n2 with n2 | ⟨n1, n2⟩
    · rw [if_pos n2]; exact ⟨m, rfl, h⟩
    · rw [if_neg n1, if_neg (fun q => absurd (Int32.le_trans n2 q) (by decide))]
      exact ⟨m, rfl, h⟩
  · obtain ⟨m1, q1, r1, g1⟩ := jn_all hd hA h
    have sm := sm_all g1 0
    rw [st_0 (gs_ A d) 0 0 (by have := g1.1; omega)] at sm
    rw [e2, if_neg n1, if_pos (show nI b ≤ (1 : Int32) from nI_le (b := 1) (by omega) (by omega)), q1]
    simp only [Option.bind_some]
    rw [sm]
    simp only [Option.bind_some]
    obtain ⟨m2, q2, rfl⟩ := do52_ g1 (x1 := nI d) (x2 := nI b)
    have eb : (if nI b = 0 then nI (cntf_ (dgd_ (gs_ A d)) (2 ^ (gs_ A d).length)) else nI (2 ^ (gs_ A d).length)) = (if b = 0 then nI (cntf_ (dgd_ (gs_ A d)) (2 ^ (gs_ A d).length)) else nI (2 ^ (gs_ A d).length)) := by
      by_cases c : b = 0
      · subst c; rfl
      · have : b = 1 := by omega
        subst this; rfl
    rw [eb] at q2
    refine ⟨m2, ?_, r1⟩
    by_cases c : 0 ≤ su_ 0 (gs_ A d)
    · have ea : abi_ (su_ 0 (gs_ A d)) = su_ 0 (gs_ A d) := if_pos c
      rw [ea] at q2
      rw [if_pos c, sm]
      exact q2
    · have ea : abi_ (su_ 0 (gs_ A d)) = -(su_ 0 (gs_ A d)) := if_neg c
      rw [ea] at q2
      rw [if_neg c, sm]
      exact q2
