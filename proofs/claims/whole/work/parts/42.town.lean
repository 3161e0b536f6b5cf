/-! ===== the town: ways, hops, tables ===== -/
/-- ways (from, to, minutes), the zone, cameras (place, from, to), their places -/
abbrev tw_ : Type := List (Nat × Nat × Nat) × Nat × List (Nat × Nat × Nat) × Nat
def wok_ (W : List (Nat × Nat × Nat)) : Prop := W.length ≤ 24 ∧ ∀ q ∈ W, q.1 < 12 ∧ q.2.1 < 12 ∧ ¬ q.1 = q.2.1 ∧ 1 ≤ q.2.2 ∧ q.2.2 ≤ 99
/-- minutes of a way that is held -/
def mi_ (W : List (Nat × Nat × Nat)) (o : Option Nat) : Nat := match o with
  | none => 1000000
  | some i => match W[i]? with
    | none => 1000000
    | some q => q.2.2
/-- a way offered for a hop -/
def of_ (W : List (Nat × Nat × Nat)) (o : Option Nat) (i v : Nat) : Option Nat := if v < mi_ W o then some i else o
/-- the way held for a hop, by the first n ways -/
def hp_ (W : List (Nat × Nat × Nat)) : Nat → Nat → Nat → Option Nat
  | 0, _, _ => none
  | n + 1, a, b => match W[n]? with
    | none => hp_ W n a b
    | some q => if (a = q.1 ∧ b = q.2.1) ∨ (a = q.2.1 ∧ b = q.1) then of_ W (hp_ W n a b) n q.2.2 else hp_ W n a b
theorem hp_s {W : List (Nat × Nat × Nat)} {n : Nat} {q : Nat × Nat × Nat} (h : W[n]? = some q) (a b : Nat) : hp_ W (n + 1) a b = if (a = q.1 ∧ b = q.2.1) ∨ (a = q.2.1 ∧ b = q.1) then of_ W (hp_ W n a b) n q.2.2 else hp_ W n a b := by
  show (match W[n]? with
    | none => hp_ W n a b
    | some q => if (a = q.1 ∧ b = q.2.1) ∨ (a = q.2.1 ∧ b = q.1) then of_ W (hp_ W n a b) n q.2.2 else hp_ W n a b) = _
  rw [h]
theorem hp_n {W : List (Nat × Nat × Nat)} {n : Nat} (h : W[n]? = none) (a b : Nat) : hp_ W (n + 1) a b = hp_ W n a b := by
  show (match W[n]? with
    | none => hp_ W n a b
    | some q => if (a = q.1 ∧ b = q.2.1) ∨ (a = q.2.1 ∧ b = q.1) then of_ W (hp_ W n a b) n q.2.2 else hp_ W n a b) = _
  rw [h]
theorem hp_sym (W : List (Nat × Nat × Nat)) : ∀ n a b, hp_ W n a b = hp_ W n b a
  | 0, _, _ => rfl
  | n + 1, a, b => by
    cases h : W[n]? with
    | none => rw [hp_n h, hp_n h, hp_sym W n a b]
    | some q =>
      rw [hp_s h, hp_s h, hp_sym W n a b]
      by_cases c : (a = q.1 ∧ b = q.2.1) ∨ (a = q.2.1 ∧ b = q.1)
      · rw [if_pos c, if_pos (by omega)]
      · rw [if_neg c, if_neg (by omega)]
/-- a way that is held joins the two, and is told among the first n -/
theorem hp_u {W : List (Nat × Nat × Nat)} : ∀ n a b i, hp_ W n a b = some i → i < n ∧ ∃ q, W[i]? = some q ∧ ((a = q.1 ∧ b = q.2.1) ∨ (a = q.2.1 ∧ b = q.1))
  | 0, _, _, _, h => by cases h
  | n + 1, a, b, i, h => by
    cases hq : W[n]? with
    | none =>
      rw [hp_n hq] at h
      obtain ⟨h1, h2⟩ := hp_u n a b i h
      exact ⟨by omega, h2⟩
    | some q =>
      rw [hp_s hq] at h
      by_cases c : (a = q.1 ∧ b = q.2.1) ∨ (a = q.2.1 ∧ b = q.1)
      · rw [if_pos c] at h
        unfold of_ at h
        by_cases d : q.2.2 < mi_ W (hp_ W n a b)
        · rw [if_pos d] at h
          cases h
          exact ⟨by omega, q, hq, c⟩
        · rw [if_neg d] at h
          obtain ⟨h1, h2⟩ := hp_u n a b i h
          exact ⟨by omega, h2⟩
      · rw [if_neg c] at h
        obtain ⟨h1, h2⟩ := hp_u n a b i h
        exact ⟨by omega, h2⟩
theorem mi_some {W : List (Nat × Nat × Nat)} {i : Nat} {q : Nat × Nat × Nat} (h : W[i]? = some q) : mi_ W (some i) = q.2.2 := by
  unfold mi_
  simp only [h]
theorem mi_far {W : List (Nat × Nat × Nat)} (hW : wok_ W) (o : Option Nat) : mi_ W o ≤ 1000000 := by
  cases o with
  | none => exact Nat.le_refl _
  | some i =>
    cases h : W[i]? with
    | none => unfold mi_; simp only [h]; exact Nat.le_refl _
    | some q =>
      rw [mi_some h]
      have := (hW.2 q (List.mem_of_getElem? h)).2.2.2.2
      omega
/-- the minutes of a hop; FAR without one -/
def hm_ (W : List (Nat × Nat × Nat)) : t2_ := fun a b => mi_ W (hp_ W W.length a b)
theorem hm_pos {W : List (Nat × Nat × Nat)} (hW : wok_ W) (a b : Nat) : 1 ≤ hm_ W a b := by
  unfold hm_
  cases h : hp_ W W.length a b with
  | none => show 1 ≤ 1000000; omega
  | some i =>
    obtain ⟨h1, q, h2, _⟩ := hp_u _ _ _ _ h
    rw [mi_some h2]
    exact (hW.2 q (List.mem_of_getElem? h2)).2.2.2.1
theorem hm_99 {W : List (Nat × Nat × Nat)} (hW : wok_ W) {a b : Nat} (h : hm_ W a b < 1000000) : hm_ W a b ≤ 99 ∧ a < 12 ∧ b < 12 ∧ ¬ a = b := by
  unfold hm_ at h ⊢
  cases e : hp_ W W.length a b with
  | none => rw [e] at h; exact absurd h (by show ¬ 1000000 < 1000000; omega)
  | some i =>
    obtain ⟨h1, q, h2, h3⟩ := hp_u _ _ _ _ e
    rw [mi_some h2]
    have := hW.2 q (List.mem_of_getElem? h2)
    exact ⟨this.2.2.2.2, by omega, by omega, by omega⟩
theorem hm_sym (W : List (Nat × Nat × Nat)) (a b : Nat) : hm_ W a b = hm_ W b a := by
  unfold hm_
  rw [hp_sym]
theorem hm_some {W : List (Nat × Nat × Nat)} (hW : wok_ W) {a b : Nat} : hm_ W a b < 1000000 ↔ ∃ i, hp_ W W.length a b = some i := by
  constructor
  · intro h
    cases e : hp_ W W.length a b with
    | none => unfold hm_ at h; rw [e] at h; exact absurd h (by show ¬ 1000000 < 1000000; omega)
    | some i => exact ⟨i, rfl⟩
  · rintro ⟨i, e⟩
    obtain ⟨h1, q, h2, _⟩ := hp_u _ _ _ _ e
    unfold hm_
    rw [e, mi_some h2]
    have := hW.2 q (List.mem_of_getElem? h2)
    omega
/-- is p in the set z? -/
def zb_ (z p : Nat) : Bool := decide (bb_ z p = 1)
/-- the first table: by the points of a set alone -/
def st0_ (W : List (Nat × Nat × Nat)) (s : Nat → Bool) : t2_ := fun a b => if (s a && s b) = true then (if a = b then 0 else hm_ W a b) else 1000000
def ner_ (W : List (Nat × Nat × Nat)) : t2_ := fwd_ (st0_ W fun _ => true) 12
def bes_ (W : List (Nat × Nat × Nat)) (z : Nat) : t2_ := fwd_ (st0_ W fun p => !(zb_ z p)) 12
def byz_ (W : List (Nat × Nat × Nat)) (z : Nat) : t2_ := fun a b => jb_ (ner_ W) (zb_ z) a b 12
def byo_ (W : List (Nat × Nat × Nat)) (z : Nat) : t2_ := fun a b => jb_ (ner_ W) (fun p => !(zb_ z p)) a b 12
theorem st0_far {W : List (Nat × Nat × Nat)} (hW : wok_ W) (s : Nat → Bool) : far_ (st0_ W s) := fun a b => by
  unfold st0_
  by_cases h : (s a && s b) = true
  · rw [if_pos h]
    by_cases e : a = b
    · rw [if_pos e]; omega
    · rw [if_neg e]; exact mi_far hW _
  · rw [if_neg h]; exact Nat.le_refl _
