/-! ===== pairs of days ===== -/
def pr_ (A : air_) (w d : Nat) : Bool := match A d, A (100 + d) with
  | some a, some b => Nat.beq a.1 w && Nat.beq b.1 w
  | _, _ => false
/-- the first from s on, within k, that p holds of -/
def fst_ (p : Nat → Bool) : Nat → Nat → Option Nat
  | 0, _ => none
  | k + 1, s => if p s then some s else fst_ p k (s + 1)
theorem fst_s (p : Nat → Bool) (k s : Nat) : fst_ p (k + 1) s = if p s = true then some s else fst_ p k (s + 1) := rfl
theorem fst_u {p : Nat → Bool} : ∀ (k s d : Nat), fst_ p k s = some d → s ≤ d ∧ d < s + k ∧ p d = true
  | 0, _, _, h => by cases h
  | k + 1, s, d, h => by
    unfold fst_ at h
    by_cases hp : p s = true
    · rw [if_pos hp] at h
      cases h
      exact ⟨Nat.le_refl _, by omega, hp⟩
    · rw [if_neg hp] at h
      have := fst_u k (s + 1) d h
      exact ⟨by omega, by omega, this.2.2⟩
theorem w96 {A : air_} {n : Nat} {m : fm_} (h : rc_ A n m) {c w : Nat} (hc : c < 200) (hw : w < 4) : gi_ m 96 c = nI w ↔ ∃ v, A c = some (w, v) := by
  have := h.2.2 c hc
  unfold rc1_ at this
  cases hA : A c with
  | none =>
    rw [hA] at this
    simp only at this
    constructor
    · intro e
      rw [this] at e
      have e1 := congrArg Int32.toInt e
      rw [nI_toInt (by omega)] at e1
      have e2 : Int32.toInt (-1) = -1 := by decide
      omega
    · rintro ⟨v, e⟩; cases e
  | some q =>
    rw [hA] at this
    simp only at this
    rw [this.2.2.1]
    constructor
    · intro e
      have := (nI_eq (by omega) (by omega)).mp e
      exact ⟨q.2, by rw [← this]⟩
    · rintro ⟨v, e⟩
      cases e
      rfl
theorem pr_u {A : air_} {w d : Nat} : pr_ A w d = true ↔ (∃ v, A d = some (w, v)) ∧ ∃ v, A (100 + d) = some (w, v) := by
  unfold pr_
  cases h1 : A d with
  | none => simp
  | some a =>
    cases h2 : A (100 + d) with
    | none => simp
    | some b =>
      simp only [Bool.and_eq_true]
      constructor
      · rintro ⟨e1, e2⟩
        exact ⟨⟨a.2, by rw [← Nat.eq_of_beq_eq_true e1]⟩, ⟨b.2, by rw [← Nat.eq_of_beq_eq_true e2]⟩⟩
      · rintro ⟨⟨v, e1⟩, ⟨v2, e2⟩⟩
        cases e1
        cases e2
        exact ⟨Nat.beq_refl _, Nat.beq_refl _⟩
/-- a day found, or the bound -/
def eb_ (o : Option Nat) (b : Nat) : Int32 := match o with
  | none => nI b
  | some d => nI d
def en1_ (o : Option Nat) : Int32 := match o with
  | none => -1
  | some d => nI d
theorem dw_c {A : air_} {n : Nat} {m : fm_} (h : rc_ A n m) {w b : Nat} (hw : w < 4) (hb : b ≤ 100) (y : Int32) : ∀ (k s : Nat), s + k = b → f_X0_dayWith_3 (nI w) y (nI b) (nI s) m = some (eb_ (fst_ (pr_ A w) k s) b, m)
  | 0, s, e => by
    rw [e_X0_dayWith_3, if_pos (nI_le (by omega) (by omega))]
    rfl
  | k + 1, s, e => by
    have x1 : ix_ (nI s) 200 = true := ix_i (vp_in_nI (by omega) (by omega))
    have x2 : ix_ (100 + nI s) 200 = true := by rw [show (100 : Int32) = nI 100 from rfl, nI_add]; exact ix_i (vp_in_nI (by omega) (by omega))
    have c2 : (100 + nI s).toNatClampNeg = 100 + s := by rw [show (100 : Int32) = nI 100 from rfl, nI_add]; exact nI_clamp (by omega)
    rw [e_X0_dayWith_3, if_neg (nI_ge (a := s) (b := b) (by omega) (by omega)), if_neg (show ¬ (100 : Int32) ≤ nI s from nI_ge (a := s) (b := 100) (by omega) (by omega)), gd_t x1, gd_t x2, c2, nI_clamp (show s < 2 ^ 31 by omega), nI_1, dw_c h hw hb y k (s + 1) (by omega)]
    have a1 := w96 h (c := s) (w := w) (by omega) hw
    have a2 := w96 h (c := 100 + s) (w := w) (by omega) hw
    rw [fst_s]
    by_cases hp : pr_ A w s = true
    · have := pr_u.mp hp
      rw [if_pos (a1.mpr this.1), if_pos (a2.mpr this.2), if_pos hp]
      rfl
    · rw [if_neg hp]
      by_cases q1 : gi_ m 96 s = nI w
      · rw [if_pos q1, if_neg fun q2 => hp (pr_u.mpr ⟨a1.mp q1, a2.mp q2⟩)]
      · rw [if_neg q1]
theorem dw1_c {A : air_} {n : Nat} {m : fm_} (h : rc_ A n m) {w b s : Nat} (hw : w < 4) (hb : b ≤ 100) (hs : s ≤ b) : f_X0_dayWith (nI w) (nI s) (nI b) m = some (eb_ (fst_ (pr_ A w) (b - s) s) b, m) := dw_c h hw hb _ (b - s) s (by omega)
theorem ip_m {A : air_} {n : Nat} {m : fm_} (h : rm_ A n m) (hA : ∀ c q, A c = some q → q.1 < 4 ∧ q.2 < 1000) {w d : Nat} (hw : w < 4) (hd : d < 100) : f_X12_isPair (nI d) (nI w) m = some (if pr_ A w d = true then 1 else 0, m) := by
  have x1 : ix_ (nI d) 200 = true := ix_i (vp_in_nI (by omega) (by omega))
  have x2 : ix_ (100 + nI d) 200 = true := by rw [show (100 : Int32) = nI 100 from rfl, nI_add]; exact ix_i (vp_in_nI (by omega) (by omega))
  have c2 : (100 + nI d).toNatClampNeg = 100 + d := by rw [show (100 : Int32) = nI 100 from rfl, nI_add]; exact nI_clamp (by omega)
  unfold f_X12_isPair
  simp only [gd_t x1, gd_t x2, c2, nI_clamp (show d < 2 ^ 31 by omega)]
  have r1 := h.2 d (by omega)
  have r2 := h.2 (100 + d) (by omega)
  unfold rm1_ at r1 r2
  unfold pr_
  cases h1 : A d with
  | none =>
    rw [h1] at r1
    simp only at r1
    rw [if_pos r1]
    simp
  | some a =>
    rw [h1] at r1
    simp only at r1
    rw [if_neg (by rw [r1.1]; decide)]
    cases h2 : A (100 + d) with
    | none =>
      rw [h2] at r2
      simp only at r2
      rw [if_pos r2]
      simp
    | some b =>
      rw [h2] at r2
      simp only at r2
      have ha := (hA _ _ h1).1
      have hb := (hA _ _ h2).1
      rw [if_neg (by rw [r2.1]; decide), r1.2.1, r2.2.1]
      simp only [Bool.and_eq_true]
      by_cases q1 : a.1 = w
      · rw [if_pos (by rw [q1])]
        by_cases q2 : b.1 = w
        · rw [if_pos (by rw [q2]), if_pos ⟨by rw [q1]; exact Nat.beq_refl _, by rw [q2]; exact Nat.beq_refl _⟩]
        · rw [if_neg fun e => q2 ((nI_eq (by omega) (by omega)).mp e), if_neg fun e => q2 (Nat.eq_of_beq_eq_true e.2)]
      · rw [if_neg fun e => q1 ((nI_eq (by omega) (by omega)).mp e), if_neg fun e => q1 (Nat.eq_of_beq_eq_true e.1)]
theorem np_m {A : air_} {n : Nat} {m : fm_} (h : rm_ A n m) (hA : ∀ c q, A c = some q → q.1 < 4 ∧ q.2 < 1000) {w b : Nat} (hw : w < 4) (hb : b ≤ 100) (y : Int32) : ∀ (k s : Nat), s + k = b → f_X12_nextPair_3 y (nI b) (nI w) (nI s) m = some (en1_ (fst_ (pr_ A w) k s), m)
  | 0, s, e => by
    rw [e_X12_nextPair_3, if_pos (nI_le (by omega) (by omega))]
    rfl
  | k + 1, s, e => by
    rw [e_X12_nextPair_3, if_neg (nI_ge (a := s) (b := b) (by omega) (by omega)), ip_m h hA hw (show s < 100 by omega), nI_1]
    simp only [Option.bind]
    by_cases hp : pr_ A w s = true
    · rw [fst_s, if_pos hp, if_pos hp, if_neg (by decide)]
      rfl
    · rw [fst_s, if_neg hp, if_neg hp, if_pos rfl]
      exact np_m h hA hw hb y k (s + 1) (by omega)
theorem np1_m {A : air_} {n : Nat} {m : fm_} (h : rm_ A n m) (hA : ∀ c q, A c = some q → q.1 < 4 ∧ q.2 < 1000) {w b s : Nat} (hw : w < 4) (hb : b ≤ 100) (hs : s ≤ b) : f_X12_nextPair (nI s) (nI b) (nI w) m = some (en1_ (fst_ (pr_ A w) (b - s) s), m) := np_m h hA hw hb _ (b - s) s (by omega)
