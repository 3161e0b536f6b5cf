/-! ===== frames of contracts ===== -/
/-- whom a method calls -/
def am_cs (M : am_M) : List Nat := (M.1.filter fun q => q.2.2.1 == 55 || q.2.2.1 == 61).map fun q => q.2.2.2.1
theorem am_cs_in {M : am_M} {q : am_Row} (hq : q ∈ M.1) (hk : q.2.2.1 = 55 ∨ q.2.2.1 = 61) : q.2.2.2.1 ∈ am_cs M := by
  refine List.mem_map.mpr ⟨q, List.mem_filter.mpr ⟨hq, ?_⟩, rfl⟩
  rcases hk with h | h <;> simp [h]
theorem am_no61 {M : am_M} (h : (M.1.all fun q => !(q.2.2.1 == 61)) = true) (q : am_Row) (hq : q ∈ M.1) : ¬ q.2.2.1 = 61 := by
  have := List.all_eq_true.mp h q hq
  intro h1
  simp [h1] at this
/-- two worlds agree but for the ints at some places -/
def am_eqx (P : Nat → Nat → Prop) (w w1 : am_W) : Prop := w1.1 = w.1 ∧ (∀ a k, ¬ P a k → am_gi w1 a k = am_gi w a k) ∧ w1.2.2 = w.2.2
theorem am_eqx.rf {P : Nat → Nat → Prop} {w : am_W} : am_eqx P w w := ⟨rfl, fun _ _ _ => rfl, rfl⟩
theorem am_eqx.fin {P : Nat → Nat → Prop} {w w1 : am_W} (h : am_eqx P w w1) (hf : am_fin w) : am_fin w1 := by
  refine ⟨h.1.trans hf.1, fun x k t ht => ?_⟩
  have : am_gr w1 x k = am_gr w x k := by unfold am_gr; rw [h.2.2]
  rw [this]
  exact hf.2 x k t ht
theorem am_eqx.tr {P Q R : Nat → Nat → Prop} {w w1 w2 : am_W} (h1 : am_eqx P w w1) (h2 : am_eqx Q w1 w2) (hP : ∀ a k, P a k → R a k) (hQ : ∀ a k, Q a k → R a k) : am_eqx R w w2 :=
  ⟨h2.1.trans h1.1, fun a k hn => (h2.2.1 a k fun q => hn (hQ a k q)).trans (h1.2.1 a k fun q => hn (hP a k q)), h2.2.2.trans h1.2.2⟩
theorem am_eqx.mono {P R : Nat → Nat → Prop} {w w1 : am_W} (h1 : am_eqx P w w1) (hP : ∀ a k, P a k → R a k) : am_eqx R w w1 := ⟨h1.1, fun a k hn => h1.2.1 a k fun q => hn (hP a k q), h1.2.2⟩
theorem am_eqx.si {P : Nat → Nat → Prop} {w : am_W} {a k : Nat} {x : Int32} (h : P a k) : am_eqx P w (am_si w a k x) := by
  refine ⟨rfl, fun b j hn => ?_, rfl⟩
  exact am_gi_ne fun q => hn (by rw [q.1, q.2]; exact h)
theorem am_eqx.gl {P : Nat → Nat → Prop} {w w1 : am_W} (h : am_eqx P w w1) (a k : Nat) : am_gl w1 a k = am_gl w a k := by unfold am_gl; rw [h.2.2]
theorem am_eqx.gr {P : Nat → Nat → Prop} {w w1 : am_W} (h : am_eqx P w w1) (a k : Nat) : am_gr w1 a k = am_gr w a k := by unfold am_gr; rw [h.2.2]
