/-! ===== whether an e holds: two machines with a stack ===== -/
def enc_ (q : Nat × Nat) : Int32 := if q.1 = 0 then nI q.2 else if q.1 ≤ 8 then -(nI q.1) else if q.1 = 20 then -114 else if q.1 = 21 then -112 else if q.1 = 22 then -113 else if q.1 = 23 then -61 else if q.1 = 24 then -60 else if q.1 = 25 then -62 else if q.1 = 26 then -43 else -45
def bin_ (w : Nat) (x y : Int32) : Int32 := if w = 21 then x ||| y else if w = 22 then x &&& y else if w = 23 then (if x = y then 1 else 0) else if w = 24 then (if x < y then 1 else 0) else if w = 25 then (if y < x then 1 else 0) else if w = 26 then x + y else x - y
def es_ (uw : Nat → Int32) (q : Nat × Nat) (S : List Int32) : List Int32 := if q.1 = 0 then nI q.2 :: S else if q.1 ≤ 8 then uw q.1 :: S else if q.1 = 20 then (match S with
  | [] => []
  | y :: R => (1 - y) :: R) else match S with
  | y :: x :: R => bin_ q.1 x y :: R
  | R => R
def ev_ (uw : Nat → Int32) : cd_ → List Int32 → List Int32
  | [], S => S
  | q :: c, S => ev_ uw c (es_ uw q S)
/-- kinds of what lies on the stack: true for what holds or not -/
def tys_ (al : Nat → Bool) (q : Nat × Nat) (t : List Bool) : Option (List Bool) := if q.1 = 0 then (if q.2 ≤ 9999 then some (false :: t) else none) else if q.1 ≤ 8 then (if al q.1 = true then some (false :: t) else none) else if q.1 = 20 then (match t with
  | true :: r => some (true :: r)
  | _ => none) else if q.1 = 21 ∨ q.1 = 22 then (match t with
  | true :: true :: r => some (true :: r)
  | _ => none) else if q.1 = 23 ∨ q.1 = 24 ∨ q.1 = 25 then (match t with
  | false :: false :: r => some (true :: r)
  | _ => none) else if q.1 = 26 ∨ q.1 = 27 then (match t with
  | false :: false :: r => some (false :: r)
  | _ => none) else none
def tyc_ (al : Nat → Bool) : cd_ → List Bool → Option (List Bool)
  | [], t => some t
  | q :: c, t => match tys_ al q t with
    | none => none
    | some t' => if t'.length ≤ 50 then tyc_ al c t' else none
/-- kinds and values go together -/
def vt_ : List Bool → List Int32 → Prop
  | [], [] => True
  | b :: t, x :: S => (b = true → x = 0 ∨ x = 1) ∧ vt_ t S
  | _, _ => False
theorem vt_len : ∀ {t : List Bool} {S : List Int32}, vt_ t S → t.length = S.length
  | [], [], _ => rfl
  | b :: t, x :: S, h => by rw [List.length_cons, List.length_cons, vt_len h.2]
  | [], _ :: _, h => h.elim
  | _ :: _, [], h => h.elim
theorem tyc_s {al : Nat → Bool} {q : Nat × Nat} {c : cd_} {t r : List Bool} (h : tyc_ al (q :: c) t = some r) : ∃ t', tys_ al q t = some t' ∧ t'.length ≤ 50 ∧ tyc_ al c t' = some r := by
  have h : (match tys_ al q t with
    | none => none
    | some t' => if t'.length ≤ 50 then tyc_ al c t' else none) = some r := h
  cases e : tys_ al q t with
  | none => rw [e] at h; cases h
  | some t' =>
    rw [e] at h
    simp only at h
    by_cases c1 : t'.length ≤ 50
    · rw [if_pos c1] at h; exact ⟨t', rfl, c1, h⟩
    · rw [if_neg c1] at h; cases h
theorem b01_and {x y : Int32} (hx : x = 0 ∨ x = 1) (hy : y = 0 ∨ y = 1) : (x &&& y = 0 ∨ x &&& y = 1) ∧ (x ||| y = 0 ∨ x ||| y = 1) ∧ (1 - x = 0 ∨ 1 - x = 1) ∧ (x + y ≤ 0 ↔ x ||| y = 0) ∧ (x + y ≤ 1 ↔ x &&& y = 0) := by
  rcases hx with rfl | rfl <;> rcases hy with rfl | rfl <;> decide
/-- what a step needs, and what it leaves -/
theorem tys_v {al : Nat → Bool} {uw : Nat → Int32} {q : Nat × Nat} {t t' : List Bool} {S : List Int32} (h : tys_ al q t = some t') (hv : vt_ t S) : vt_ t' (es_ uw q S) ∧ ((q.1 = 0 ∧ q.2 ≤ 9999 ∧ es_ uw q S = nI q.2 :: S) ∨ (1 ≤ q.1 ∧ q.1 ≤ 8 ∧ al q.1 = true ∧ es_ uw q S = uw q.1 :: S) ∨ (q.1 = 20 ∧ ∃ y R, S = y :: R ∧ (y = 0 ∨ y = 1) ∧ es_ uw q S = (1 - y) :: R) ∨ ((21 ≤ q.1 ∧ q.1 ≤ 27) ∧ ∃ x y R, S = y :: x :: R ∧ ((q.1 = 21 ∨ q.1 = 22) → (x = 0 ∨ x = 1) ∧ (y = 0 ∨ y = 1)) ∧ es_ uw q S = bin_ q.1 x y :: R)) := by
  unfold tys_ at h
  by_cases c0 : q.1 = 0
  · rw [if_pos c0] at h
    by_cases c9 : q.2 ≤ 9999
    · rw [if_pos c9] at h
      cases h
      have e : es_ uw q S = nI q.2 :: S := by unfold es_; rw [if_pos c0]
      rw [e]
      exact ⟨⟨fun x => (by cases x), hv⟩, Or.inl ⟨c0, c9, rfl⟩⟩
    · rw [if_neg c9] at h; cases h
  rw [if_neg c0] at h
  by_cases c8 : q.1 ≤ 8
  · rw [if_pos c8] at h
    by_cases ca : al q.1 = true
    · rw [if_pos ca] at h
      cases h
      have e : es_ uw q S = uw q.1 :: S := by unfold es_; rw [if_neg c0, if_pos c8]
      rw [e]
      exact ⟨⟨fun x => (by cases x), hv⟩, Or.inr (Or.inl ⟨by omega, c8, ca, rfl⟩)⟩
    · rw [if_neg ca] at h; cases h
  rw [if_neg c8] at h
  by_cases c20 : q.1 = 20
  · rw [if_pos c20] at h
    match t, S, hv, h with
    | true :: r, y :: R, hv, h =>
      cases h
      have e : es_ uw q (y :: R) = (1 - y) :: R := by unfold es_; rw [if_neg c0, if_neg c8, if_pos c20]
      rw [e]
      have hy := hv.1 rfl
      exact ⟨⟨fun _ => (b01_and hy hy).2.2.1, hv.2⟩, Or.inr (Or.inr (Or.inl ⟨c20, y, R, rfl, hy, rfl⟩))⟩
  rw [if_neg c20] at h
  have eb : ∀ x y R, es_ uw q (y :: x :: R) = bin_ q.1 x y :: R := fun x y R => by unfold es_; rw [if_neg c0, if_neg c8, if_neg c20]
  by_cases c21 : q.1 = 21 ∨ q.1 = 22
  · rw [if_pos c21] at h
    match t, S, hv, h with
    | true :: true :: r, y :: x :: R, hv, h =>
      cases h
      have hy := hv.1 rfl
      have hx := hv.2.1 rfl
      rw [eb]
      refine ⟨⟨fun _ => ?_, hv.2.2⟩, Or.inr (Or.inr (Or.inr ⟨by omega, x, y, R, rfl, fun _ => ⟨hx, hy⟩, rfl⟩))⟩
      unfold bin_
      rcases c21 with c | c
      · rw [if_pos c]; exact (b01_and hx hy).2.1
      · rw [if_neg (by omega), if_pos c]; exact (b01_and hx hy).1
  rw [if_neg c21] at h
  by_cases c23 : q.1 = 23 ∨ q.1 = 24 ∨ q.1 = 25
  · rw [if_pos c23] at h
    match t, S, hv, h with
    | false :: false :: r, y :: x :: R, hv, h =>
      cases h
      rw [eb]
      refine ⟨⟨fun _ => ?_, hv.2.2⟩, Or.inr (Or.inr (Or.inr ⟨by omega, x, y, R, rfl, fun z => absurd z c21, rfl⟩))⟩
      unfold bin_
      rw [if_neg (by omega), if_neg (by omega)]
      rcases c23 with c | c | c
      · rw [if_pos c]; by_cases z : x = y
        · rw [if_pos z]; exact Or.inr rfl
        · rw [if_neg z]; exact Or.inl rfl
      · rw [if_neg (by omega), if_pos c]; by_cases z : x < y
        · rw [if_pos z]; exact Or.inr rfl
        · rw [if_neg z]; exact Or.inl rfl
      · rw [if_neg (by omega), if_neg (by omega), if_pos c]; by_cases z : y < x
        · rw [if_pos z]; exact Or.inr rfl
        · rw [if_neg z]; exact Or.inl rfl
  rw [if_neg c23] at h
  by_cases c26 : q.1 = 26 ∨ q.1 = 27
  · rw [if_pos c26] at h
    match t, S, hv, h with
    | false :: false :: r, y :: x :: R, hv, h =>
      cases h
      rw [eb]
      exact ⟨⟨fun z => (by cases z), hv.2.2⟩, Or.inr (Or.inr (Or.inr ⟨by omega, x, y, R, rfl, fun z => absurd z c21, rfl⟩))⟩
  rw [if_neg c26] at h
  cases h
/-- the stack in a row -/
def stk_ (a : Nat) (S : List Int32) (m : fm_) : Prop := ∀ j x, S.reverse[j]? = some x → gi_ m a j = x
theorem stk_push {a : Nat} {S : List Int32} {m : fm_} {x : Int32} (h : stk_ a S m) : stk_ a (x :: S) (si_ m a S.length x) := by
  intro j y hj
  rw [List.reverse_cons] at hj
  rcases ap_get hj with ⟨q1, q2⟩ | ⟨q1, q2⟩
  · rw [List.length_reverse] at q1
    rw [gi_si_ne (by omega)]
    exact h j y q2
  · rw [List.length_reverse] at q1
    rw [q1, q2, gi_si_self]
theorem stk_top {a : Nat} {S : List Int32} {m : fm_} {x : Int32} (h : stk_ a (x :: S) m) : gi_ m a S.length = x ∧ stk_ a S m := by
  refine ⟨h _ _ ?_, fun j y hj => h j y ?_⟩
  · rw [List.reverse_cons, List.getElem?_append_right (by rw [List.length_reverse]; exact Nat.le_refl _), List.length_reverse, Nat.sub_self]
    rfl
  · rw [List.reverse_cons]
    have := (List.getElem?_eq_some_iff.mp hj).1
    rw [List.getElem?_append_left this]
    exact hj
theorem uni_ {w : Nat} (h1 : 1 ≤ w) (h8 : w ≤ 8) : ¬ -(nI w) = -100 ∧ ¬ -(nI w) ≤ -9 ∧ ¬ (-1 - -(nI w)) < 0 ∧ ¬ Int32.ofNat 8 ≤ -1 - -(nI w) ∧ ix_ (-1 - -(nI w)) 8 = true ∧ (-1 - -(nI w)).toNatClampNeg = w - 1 := by
  have : ∀ w, w < 9 → 1 ≤ w → ¬ -(nI w) = -100 ∧ ¬ -(nI w) ≤ -9 ∧ ¬ (-1 - -(nI w)) < 0 ∧ ¬ Int32.ofNat 8 ≤ -1 - -(nI w) ∧ ix_ (-1 - -(nI w)) 8 = true ∧ (-1 - -(nI w)).toNatClampNeg = w - 1 := by decide +kernel
  exact this w (by omega) h1
theorem num_ {n : Nat} (h : n ≤ 9999) : ¬ nI n = -100 ∧ ¬ nI n ≤ -9 ∧ (-1 - nI n) < 0 := by
  have e1 : (nI n).toInt = n := nI_toInt (by omega)
  refine ⟨fun q => ?_, fun q => ?_, ?_⟩
  · have := congrArg Int32.toInt q
    rw [e1, show (-100 : Int32).toInt = -100 from rfl] at this
    omega
  · rw [Int32.le_iff_toInt_le, e1, show (-9 : Int32).toInt = -9 from rfl] at q
    omega
  · have : (-1 : Int32) - nI n = -(nI (n + 1)) := by
      rw [← nI_1, Int32.neg_add, Int32.sub_eq_add_neg (-1), Int32.sub_eq_add_neg (-(nI n)) 1, Int32.add_comm]
    rw [this, Int32.lt_iff_toInt_lt, show (0 : Int32).toInt = 0 from rfl]
    have e2 : -(nI (n + 1)) = Int32.ofInt (-((n + 1 : Nat) : Int)) := by
      rw [Int32.ofInt_neg]
      rfl
    rw [e2, Int32.toInt_ofInt_of_le (by omega) (by omega)]
    omega
/-- what the class asks -/
def askc_ (al : Nat → Bool) (uw : Nat → Int32) (m : fm_) : Prop := ∀ w, al w = true → gi_ m 93 (w - 1) = uw w
def hv_ (S : List Int32) : Bool := decide (S = [1])
