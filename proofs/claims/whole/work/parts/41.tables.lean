/-! ===== tables of twelve by twelve ===== -/
abbrev t2_ : Type := Nat → Nat → Nat
def tb_ (T : t2_) (c : Nat) (m : fm_) : Prop := ∀ a b, a < 12 → b < 12 → gi_ m c (a * 12 + b) = nI (T a b)
def u2_ (T : t2_) (a b v : Nat) : t2_ := fun x y => if x = a ∧ y = b then v else T x y
theorem u2_s (T : t2_) (a b v : Nat) : u2_ T a b v a b = v := if_pos ⟨rfl, rfl⟩
theorem u2_n (T : t2_) {a b v x y : Nat} (h : ¬ (x = a ∧ y = b)) : u2_ T a b v x y = T x y := if_neg h
theorem tb_si {T : t2_} {c : Nat} {m : fm_} {a b v : Nat} (h : tb_ T c m) (ha : a < 12) (hb : b < 12) : tb_ (u2_ T a b v) c (si_ m c (a * 12 + b) (nI v)) := by
  intro x y hx hy
  by_cases e : x = a ∧ y = b
  · rw [e.1, e.2, gi_si_self, u2_s]
  · rw [gi_si_ne (by omega), u2_n _ e]
    exact h x y hx hy
theorem tb_sa {T : t2_} {c : Nat} {m m1 : fm_} (h : tb_ T c m) {w : List (Nat × Nat × Nat)} (hs : sa_ w m m1) (hw : ∀ k, wi_ w c k = false) : tb_ T c m1 := fun a b ha hb => (sa_gi hs (hw _)).trans (h a b ha hb)
/-- every place, in the order of rows -/
def bf_ (a b x y : Nat) : Prop := x < a ∨ (x = a ∧ y < b)
/-! ===== least sums: one middle after another ===== -/
def fwp_ (T : t2_) (c : Nat) : t2_ := fun a b => min (T a b) (T a c + T c b)
def fwd_ (T : t2_) : Nat → t2_
  | 0 => T
  | n + 1 => fwp_ (fwd_ T n) n
/-- rows ahead of a, and of row a what is ahead of b, have been gone through -/
def fwq_ (T : t2_) (c a b : Nat) : t2_ := fun x y => if x < a ∨ (x = a ∧ y < b) then fwp_ T c x y else T x y
theorem fwq_col (T : t2_) (c a b x : Nat) : fwq_ T c a b x c = T x c := by
  unfold fwq_ fwp_
  by_cases h : x < a ∨ (x = a ∧ c < b)
  · rw [if_pos h]; omega
  · rw [if_neg h]
theorem fwq_row (T : t2_) (c a b y : Nat) : fwq_ T c a b c y = T c y := by
  unfold fwq_ fwp_
  by_cases h : c < a ∨ (c = a ∧ y < b)
  · rw [if_pos h]; omega
  · rw [if_neg h]
theorem fwq_at (T : t2_) (c a b : Nat) : fwq_ T c a b a b = T a b := if_neg (by omega)
theorem fwq_step (T : t2_) (c a b : Nat) : u2_ (fwq_ T c a b) a b (min (T a b) (T a c + T c b)) = fwq_ T c a (b + 1) := by
  funext x y
  unfold u2_ fwq_ fwp_
  by_cases h : x = a ∧ y = b
  · rw [if_pos h, if_pos (by omega), h.1, h.2]
  · rw [if_neg h]
    by_cases h2 : x < a ∨ (x = a ∧ y < b)
    · rw [if_pos h2, if_pos (by omega)]
    · rw [if_neg h2, if_neg (by omega)]
theorem fwq_0 (T : t2_) (c : Nat) : fwq_ T c 0 0 = T := by
  funext x y
  exact if_neg (by omega)
/-- two tables that are one where it counts -/
def te_ (T U : t2_) : Prop := ∀ a b, a < 12 → b < 12 → T a b = U a b
theorem te_rf (T : t2_) : te_ T T := fun _ _ _ _ => rfl
theorem te_tr {T U V : t2_} (h : te_ T U) (k : te_ U V) : te_ T V := fun a b ha hb => (h a b ha hb).trans (k a b ha hb)
theorem te_sy {T U : t2_} (h : te_ T U) : te_ U T := fun a b ha hb => (h a b ha hb).symm
theorem tb_te {T U : t2_} {c : Nat} {m : fm_} (h : tb_ T c m) (e : te_ T U) : tb_ U c m := fun a b ha hb => by rw [← e a b ha hb]; exact h a b ha hb
theorem fwq_r (T : t2_) (c a : Nat) : te_ (fwq_ T c a 12) (fwq_ T c (a + 1) 0) := fun x y hx hy => by
  unfold fwq_
  by_cases h : x < a ∨ (x = a ∧ y < 12)
  · rw [if_pos h, if_pos (by omega)]
  · rw [if_neg h, if_neg (by omega)]
theorem fwq_e (T : t2_) (c : Nat) : te_ (fwq_ T c 12 0) (fwp_ T c) := fun x y hx hy => if_pos (by omega)
theorem fwp_te {T U : t2_} {c : Nat} (hc : c < 12) (h : te_ T U) : te_ (fwp_ T c) (fwp_ U c) := fun a b ha hb => by
  unfold fwp_
  rw [h a b ha hb, h a c ha hc, h c b hc hb]
/-- no number above FAR -/
def far_ (T : t2_) : Prop := ∀ a b, T a b ≤ 1000000
theorem fwp_far {T : t2_} {c : Nat} (h : far_ T) : far_ (fwp_ T c) := fun a b => by
  have := h a b
  unfold fwp_
  omega
theorem fwd_far {T : t2_} (h : far_ T) : ∀ n, far_ (fwd_ T n)
  | 0 => h
  | n + 1 => fwp_far (fwd_far h n)
/-! what the least sums are -/
theorem fwd_cl (T : t2_) : ∀ n m, m < n → ∀ a b, fwd_ T n a b ≤ fwd_ T n a m + fwd_ T n m b
  | 0, m, h, _, _ => by omega
  | n + 1, m, h, a, b => by
    show fwp_ (fwd_ T n) n a b ≤ fwp_ (fwd_ T n) n a m + fwp_ (fwd_ T n) n m b
    unfold fwp_
    by_cases e : m = n
    · subst e
      omega
    · have h0 := fwd_cl T n m (by omega) a b
      have h1 := fwd_cl T n m (by omega) n b
      have h2 := fwd_cl T n m (by omega) a n
      omega
theorem fwd_le (T : t2_) : ∀ n a b, fwd_ T n a b ≤ T a b
  | 0, a, b => Nat.le_refl _
  | n + 1, a, b => Nat.le_trans (Nat.min_le_left _ _) (fwd_le T n a b)
/-- what is below FAR is reached by a first step of the table w -/
def att_ (w T : t2_) : Prop := ∀ a b, ¬ a = b → T a b < 1000000 → ∃ q, q < 12 ∧ w a q < 1000000 ∧ ¬ a = q ∧ w a q + T q b ≤ T a b
theorem fwp_att {w T : t2_} {c : Nat} (h : att_ w T) : att_ w (fwp_ T c) := by
  intro a b hab hl
  unfold fwp_ at hl
  by_cases hc : a = c
  · subst hc
    obtain ⟨q, h1, h2, h3, h4⟩ := h a b hab (by omega)
    refine ⟨q, h1, h2, h3, ?_⟩
    unfold fwp_
    omega
  · by_cases hm : T a b ≤ T a c + T c b
    · obtain ⟨q, h1, h2, h3, h4⟩ := h a b hab (by omega)
      refine ⟨q, h1, h2, h3, ?_⟩
      unfold fwp_
      omega
    · obtain ⟨q, h1, h2, h3, h4⟩ := h a c hc (by omega)
      refine ⟨q, h1, h2, h3, ?_⟩
      unfold fwp_
      omega
theorem fwd_att {w T : t2_} (h : att_ w T) : ∀ n, att_ w (fwd_ T n)
  | 0 => h
  | n + 1 => fwp_att (fwd_att h n)
/-- least by a middle of a set -/
def jb_ (T : t2_) (p : Nat → Bool) (a b : Nat) : Nat → Nat
  | 0 => 1000000
  | n + 1 => if p n = true then min (jb_ T p a b n) (T a n + T n b) else jb_ T p a b n
theorem jb_far (T : t2_) (p : Nat → Bool) (a b : Nat) : ∀ n, jb_ T p a b n ≤ 1000000
  | 0 => Nat.le_refl _
  | n + 1 => by
    have := jb_far T p a b n
    unfold jb_
    by_cases h : p n = true
    · rw [if_pos h]; omega
    · rw [if_neg h]; exact this
theorem jb_le (T : t2_) (p : Nat → Bool) (a b : Nat) : ∀ n k, k < n → p k = true → jb_ T p a b n ≤ T a k + T k b
  | 0, k, h, _ => by omega
  | n + 1, k, h, hp => by
    unfold jb_
    by_cases e : k = n
    · subst e
      rw [if_pos hp]; omega
    · have := jb_le T p a b n k (by omega) hp
      by_cases h : p n = true
      · rw [if_pos h]; omega
      · rw [if_neg h]; exact this
theorem jb_att (T : t2_) (p : Nat → Bool) (a b : Nat) : ∀ n, jb_ T p a b n < 1000000 → ∃ k, k < n ∧ p k = true ∧ jb_ T p a b n = T a k + T k b
  | 0, h => absurd h (by unfold jb_; omega)
  | n + 1, h => by
    unfold jb_ at h ⊢
    by_cases hp : p n = true
    · rw [if_pos hp] at h ⊢
      by_cases hm : jb_ T p a b n ≤ T a n + T n b
      · rw [Nat.min_eq_left hm] at h ⊢
        obtain ⟨k, h1, h2, h3⟩ := jb_att T p a b n h
        exact ⟨k, by omega, h2, h3⟩
      · exact ⟨n, by omega, hp, by omega⟩
    · rw [if_neg hp] at h ⊢
      obtain ⟨k, h1, h2, h3⟩ := jb_att T p a b n h
      exact ⟨k, by omega, h2, h3⟩
theorem jb_te {T U : t2_} (h : te_ T U) (p : Nat → Bool) {a b : Nat} (ha : a < 12) (hb : b < 12) : ∀ n, n ≤ 12 → jb_ T p a b n = jb_ U p a b n
  | 0, _ => rfl
  | n + 1, hn => by
    unfold jb_
    rw [jb_te h p ha hb n (by omega), h a n ha (by omega), h n b (by omega) hb]
