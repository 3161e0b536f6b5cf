/-! ===== specs: what must hold, what comes ===== -/
theorem am_ci {y : Option Value} {P K : Int32 → Prop} (h : ∃ z : Int32, y = some (.int z) ∧ P z) (k : ∀ z, P z → K z) : am_ri y K := by
  obtain ⟨z, rfl, hz⟩ := h
  exact k z hz
theorem am_cr {y : Option Value} {P : Nat → Prop} {N : Prop} {K : Value → Prop} (h : (∃ z : Nat, y = some (.ref z) ∧ P z) ∨ (y = some .null ∧ N)) (k : ∀ z, P z → K (.ref z)) (kn : N → K .null) : am_rr y K := by
  rcases h with ⟨z, rfl, hz⟩ | ⟨rfl, hz⟩
  · exact k z hz
  · exact kn hz
theorem am_ox {o : Option Nat} {P : Nat → Prop} {K : Value → Prop} (h : ∃ y : Nat, o = some y ∧ P y) (k : ∀ y, P y → K (.ref y)) : am_or o K := by
  obtain ⟨y, hy, h⟩ := h
  exact Or.inl ⟨y, hy, k y h⟩
theorem am_finr {w : am_W} (hf : am_fin w) {x k : Nat} {o : Option Nat} (h : am_fr x k = none) : am_fin (am_sr w x k o) := by
  refine ⟨hf.1, fun a b t ht => ?_⟩
  have hne : ¬ (a = x ∧ b = k) := fun q => by rw [q.1, q.2, h] at ht; cases ht
  exact (am_u_at hne).trans (hf.2 a b t ht)
/-- pre: what must hold of the arguments and the world; post: what comes -/
def am_sp (pre : List Value → am_W → Prop) (post : List Value → am_W → Option Value → am_W → Prop) : List Value → am_W → (Option Value → am_W → Prop) → Prop :=
  fun as w K => pre as w ∧ ∀ r w1, post as w r w1 → K r w1
theorem am_sp_mono {pre : List Value → am_W → Prop} {post : List Value → am_W → Option Value → am_W → Prop} {as : List Value} {w : am_W} {Y Z : Option Value → am_W → Prop} (h : ∀ r w1, Y r w1 → Z r w1) (k : am_sp pre post as w Y) : am_sp pre post as w Z := ⟨k.1, fun r w1 q => h r w1 (k.2 r w1 q)⟩
/-- no spec at all -/
def am_s0 : List Value → am_W → (Option Value → am_W → Prop) → Prop := fun _ _ _ => False
/-- the specs of a method's callees, by a list -/
def am_spf : Option (Nat × (List Value → am_W → Prop) × (List Value → am_W → Option Value → am_W → Prop)) → List Value → am_W → (Option Value → am_W → Prop) → Prop
  | some q => am_sp q.2.1 q.2.2
  | none => am_s0
def am_spl (l : List (Nat × (List Value → am_W → Prop) × (List Value → am_W → Option Value → am_W → Prop))) : am_S := fun i => am_spf (l.find? (fun q => q.1 == i))
theorem am_spl_mono (l : List (Nat × (List Value → am_W → Prop) × (List Value → am_W → Option Value → am_W → Prop))) : am_Smono (am_spl l) := by
  intro i as w Y Z h k
  have gen : ∀ o, am_spf o as w Y → am_spf o as w Z := by
    intro o
    cases o with
    | none => exact fun k => k
    | some q => exact fun k => am_sp_mono h k
  exact gen _ k
theorem am_gi_si {w : am_W} {a k : Nat} {x : Int32} {b j : Nat} : am_gi (am_si w a k x) b j = if b = a ∧ j = k then x else am_gi w b j := by
  unfold am_gi am_si am_u
  simp only
  by_cases h1 : b = a
  · by_cases h2 : j = k
    · simp [h1, h2]
    · simp [h1, h2]
  · simp [h1]
theorem am_gi_self {w : am_W} {a k : Nat} {x : Int32} : am_gi (am_si w a k x) a k = x := am_u_self
theorem am_gi_ne {w : am_W} {a k : Nat} {x : Int32} {b j : Nat} (h : ¬ (b = a ∧ j = k)) : am_gi (am_si w a k x) b j = am_gi w b j := am_u_at h
theorem am_gl_si {w : am_W} {a k : Nat} {x : Int32} {b j : Nat} : am_gl (am_si w a k x) b j = am_gl w b j := rfl
theorem am_gr_si {w : am_W} {a k : Nat} {x : Int32} {b j : Nat} : am_gr (am_si w a k x) b j = am_gr w b j := rfl
theorem am_gi_sl {w : am_W} {a k : Nat} {x : Int64} {b j : Nat} : am_gi (am_sl w a k x) b j = am_gi w b j := rfl
theorem am_gr_sl {w : am_W} {a k : Nat} {x : Int64} {b j : Nat} : am_gr (am_sl w a k x) b j = am_gr w b j := rfl
theorem am_fin_si {w : am_W} (h : am_fin w) {a k : Nat} {x : Int32} : am_fin (am_si w a k x) := h
theorem am_fin_sl {w : am_W} (h : am_fin w) {a k : Nat} {x : Int64} : am_fin (am_sl w a k x) := h
