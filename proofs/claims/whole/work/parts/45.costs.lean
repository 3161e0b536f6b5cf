/-! ===== counting ===== -/
def cnt_ (p : Nat → Bool) : Nat → Nat
  | 0 => 0
  | n + 1 => (if p n = true then 1 else 0) + cnt_ p n
theorem cnt_mono {p q : Nat → Bool} : ∀ n, (∀ x, x < n → p x = true → q x = true) → cnt_ p n ≤ cnt_ q n
  | 0, _ => Nat.le_refl _
  | n + 1, h => by
    have ih := cnt_mono n fun x hx => h x (by omega)
    unfold cnt_
    by_cases c : p n = true
    · rw [if_pos c, if_pos (h n (by omega) c)]; omega
    · rw [if_neg c]; omega
theorem cnt_lt {p q : Nat → Bool} : ∀ n, (∀ x, x < n → p x = true → q x = true) → (∃ x, x < n ∧ q x = true ∧ ¬ p x = true) → cnt_ p n < cnt_ q n
  | 0, _, ⟨x, hx, _⟩ => by omega
  | n + 1, h, ⟨x, hx, h1, h2⟩ => by
    unfold cnt_
    by_cases e : x = n
    · subst e
      have ih := cnt_mono x fun y hy => h y (by omega)
      rw [if_pos h1, if_neg h2]
      omega
    · have ih := cnt_lt n (fun y hy => h y (by omega)) ⟨x, by omega, h1, h2⟩
      by_cases c : p n = true
      · rw [if_pos c, if_pos (h n (by omega) c)]; omega
      · rw [if_neg c]; omega
theorem cnt_all : ∀ n, cnt_ (fun _ => true) n = n
  | 0 => rfl
  | n + 1 => by
    unfold cnt_
    rw [if_pos rfl, cnt_all n]
    omega
theorem cnt_n {p : Nat → Bool} {n x : Nat} (hx : x < n) (h : ¬ p x = true) : cnt_ p n < n := by
  have := cnt_lt (p := p) (q := fun _ => true) n (fun _ _ _ => rfl) ⟨x, hx, rfl, h⟩
  rw [cnt_all] at this
  exact this
/-! ===== what the tables are ===== -/
theorem st0_in {W : List (Nat × Nat × Nat)} {S : Nat → Bool} {a b : Nat} (h : st0_ W S a b < 1000000) : S a = true ∧ S b = true ∧ (a = b ∨ (¬ a = b ∧ st0_ W S a b = hm_ W a b)) := by
  unfold st0_ at h ⊢
  by_cases c : (S a && S b) = true
  · rw [if_pos c] at h ⊢
    have c2 := (Bool.and_eq_true _ _).mp c
    refine ⟨c2.1, c2.2, ?_⟩
    by_cases e : a = b
    · exact Or.inl e
    · rw [if_neg e]; exact Or.inr ⟨e, rfl⟩
  · rw [if_neg c] at h; omega
theorem st0_aa {W : List (Nat × Nat × Nat)} {S : Nat → Bool} {a : Nat} (h : S a = true) : st0_ W S a a = 0 := by
  unfold st0_
  simp [h]
theorem st0_hm {W : List (Nat × Nat × Nat)} {S : Nat → Bool} {a b : Nat} (h1 : S a = true) (h2 : S b = true) (hab : ¬ a = b) : st0_ W S a b = hm_ W a b := by
  unfold st0_
  simp [h1, h2, hab]
theorem st0_att {W : List (Nat × Nat × Nat)} (hW : wok_ W) (S : Nat → Bool) : att_ (st0_ W S) (st0_ W S) := fun a b hab h => by
  obtain ⟨h1, h2, h3⟩ := st0_in h
  rcases h3 with h3 | ⟨_, h3⟩
  · exact absurd h3 hab
  · rw [h3] at h
    exact ⟨b, (hm_99 hW h).2.2.1, by rw [h3]; exact h, hab, by rw [st0_aa h2]; omega⟩
def ft_ (W : List (Nat × Nat × Nat)) (S : Nat → Bool) : t2_ := fwd_ (st0_ W S) 12
theorem ft_aa {W : List (Nat × Nat × Nat)} {S : Nat → Bool} {a : Nat} (h : S a = true) : ft_ W S a a = 0 := by
  have := fwd_le (st0_ W S) 12 a a
  rw [st0_aa h] at this
  show fwd_ (st0_ W S) 12 a a = 0
  omega
theorem ft_cl {W : List (Nat × Nat × Nat)} {S : Nat → Bool} {a b m : Nat} (hm : m < 12) : ft_ W S a b ≤ ft_ W S a m + ft_ W S m b := fwd_cl _ 12 m hm a b
theorem ft_hm {W : List (Nat × Nat × Nat)} {S : Nat → Bool} {a b : Nat} (h1 : S a = true) (h2 : S b = true) (hab : ¬ a = b) : ft_ W S a b ≤ hm_ W a b := by
  rw [← st0_hm h1 h2 hab]
  exact fwd_le _ 12 a b
theorem fwp_out {S : Nat → Bool} {T : t2_} {c : Nat} (hT : far_ T) (h : ∀ a b, ¬ (S a = true ∧ S b = true) → T a b = 1000000) : ∀ a b, ¬ (S a = true ∧ S b = true) → fwp_ T c a b = 1000000 := fun a b hn => by
  have h0 := h a b hn
  unfold fwp_
  by_cases ha : S a = true
  · have hb : ¬ S b = true := fun q => hn ⟨ha, q⟩
    have := h c b fun q => hb q.2
    omega
  · have := h a c fun q => ha q.1
    omega
theorem fwd_out {S : Nat → Bool} {T : t2_} (hT : far_ T) (h : ∀ a b, ¬ (S a = true ∧ S b = true) → T a b = 1000000) : ∀ n a b, ¬ (S a = true ∧ S b = true) → fwd_ T n a b = 1000000
  | 0, a, b, hn => h a b hn
  | n + 1, a, b, hn => fwp_out (fwd_far hT n) (fwd_out hT h n) a b hn
theorem ft_in {W : List (Nat × Nat × Nat)} (hW : wok_ W) {S : Nat → Bool} {a b : Nat} (h : ft_ W S a b < 1000000) : S a = true ∧ S b = true := by
  by_cases c : S a = true ∧ S b = true
  · exact c
  · have := fwd_out (S := S) (st0_far hW S) (fun a b hn => by
      unfold st0_
      rw [if_neg]
      intro q
      exact hn ((Bool.and_eq_true _ _).mp q)) 12 a b c
    unfold ft_ at h
    omega
theorem ft_att {W : List (Nat × Nat × Nat)} (hW : wok_ W) {S : Nat → Bool} {a b : Nat} (hab : ¬ a = b) (h : ft_ W S a b < 1000000) : ∃ q, q < 12 ∧ S a = true ∧ S q = true ∧ ¬ a = q ∧ hm_ W a q ≤ 99 ∧ hm_ W a q + ft_ W S q b = ft_ W S a b ∧ ft_ W S q b < ft_ W S a b := by
  obtain ⟨q, h1, h2, h3, h4⟩ := fwd_att (st0_att hW S) 12 a b hab h
  obtain ⟨g1, g2, g3⟩ := st0_in h2
  rcases g3 with g3 | ⟨_, g3⟩
  · exact absurd g3 h3
  · have hp := hm_pos hW a q
    have l1 := ft_cl (W := W) (S := S) (a := a) (b := b) (m := q) h1
    have l2 := ft_hm (W := W) g1 g2 h3
    rw [g3] at h2 h4
    have h4 : hm_ W a q + ft_ W S q b ≤ ft_ W S a b := h4
    have := (hm_99 hW h2).1
    exact ⟨q, h1, g1, g2, h3, this, by omega, by omega⟩
theorem ft_1188 {W : List (Nat × Nat × Nat)} (hW : wok_ W) {S : Nat → Bool} {b : Nat} : ∀ (n a : Nat), ft_ W S a b ≤ n → ft_ W S a b < 1000000 → ft_ W S a b ≤ 99 * cnt_ (fun x => decide (ft_ W S x b < ft_ W S a b)) 12 := by
  intro n
  induction n with
  | zero => intro a h _; omega
  | succ n ih =>
    intro a h hf
    by_cases e : a = b
    · subst e
      rw [ft_aa (ft_in hW hf).1]
      omega
    · obtain ⟨q, h1, _, _, _, h5, h6, h7⟩ := ft_att hW e hf
      have := ih q (by omega) (by omega)
      have := cnt_lt (p := fun x => decide (ft_ W S x b < ft_ W S q b)) (q := fun x => decide (ft_ W S x b < ft_ W S a b)) 12 (fun x _ hx => by
        rw [decide_eq_true_eq] at hx ⊢
        omega) ⟨q, h1, by rw [decide_eq_true_eq]; exact h7, by rw [decide_eq_true_eq]; omega⟩
      omega
theorem ft_b {W : List (Nat × Nat × Nat)} (hW : wok_ W) {S : Nat → Bool} {a b : Nat} (h : ft_ W S a b < 1000000) : ft_ W S a b ≤ 1188 := by
  have h1 := ft_1188 hW _ a (Nat.le_refl _) h
  have h2 := cnt_mono (p := fun x => decide (ft_ W S x b < ft_ W S a b)) (q := fun _ => true) 12 fun _ _ _ => rfl
  rw [cnt_all] at h2
  omega
theorem ner_ft (W : List (Nat × Nat × Nat)) : ner_ W = ft_ W fun _ => true := rfl
theorem bes_ft (W : List (Nat × Nat × Nat)) (z : Nat) : bes_ W z = ft_ W fun p => !(zb_ z p) := rfl
theorem nz_b {z p : Nat} : (!(zb_ z p)) = true ↔ ¬ zb_ z p = true := by cases zb_ z p <;> decide
/-- a way is all outside the zone, or by a point of it -/
theorem ner_split {W : List (Nat × Nat × Nat)} (hW : wok_ W) (z : Nat) {g : Nat} (hg : g < 12) : ∀ (n a : Nat), a < 12 → ner_ W a g ≤ n → ner_ W a g < 1000000 → bes_ W z a g ≤ ner_ W a g ∨ byz_ W z a g ≤ ner_ W a g := by
  intro n
  induction n with
  | zero =>
    intro a ha h hf
    by_cases e : a = g
    · subst e
      by_cases c : zb_ z a = true
      · right
        have := jb_le (ner_ W) (zb_ z) a a 12 a ha c
        have h0 : ner_ W a a = 0 := ft_aa rfl
        show jb_ (ner_ W) (zb_ z) a a 12 ≤ _
        omega
      · left
        rw [bes_ft, ft_aa (nz_b.mpr c)]
        omega
    · obtain ⟨q, h1, _, _, h4, h5, h6, h7⟩ := ft_att hW (S := fun _ => true) e (by rw [← ner_ft]; exact hf)
      rw [← ner_ft] at h7
      omega
  | succ n ih =>
    intro a ha h hf
    by_cases c : zb_ z a = true
    · right
      have := jb_le (ner_ W) (zb_ z) a g 12 a ha c
      have h0 : ner_ W a a = 0 := ft_aa rfl
      show jb_ (ner_ W) (zb_ z) a g 12 ≤ _
      omega
    · by_cases e : a = g
      · subst e
        left
        rw [bes_ft, ft_aa (nz_b.mpr c)]
        omega
      · obtain ⟨q, h1, _, _, h4, h5, h6, h7⟩ := ft_att hW (S := fun _ => true) e (by rw [← ner_ft]; exact hf)
        rw [← ner_ft] at h6 h7
        rcases ih q h1 (by omega) (by omega) with i1 | i1
        · left
          have hq : bes_ W z q g < 1000000 := by omega
          have hq2 := ft_in hW (S := fun p => !(zb_ z p)) hq
          have l1 := ft_cl (W := W) (S := fun p => !(zb_ z p)) (a := a) (b := g) (m := q) h1
          have l2 := ft_hm (W := W) (S := fun p => !(zb_ z p)) (nz_b.mpr c) hq2.1 h4
          rw [← bes_ft] at l1 l2
          omega
        · right
          have hq : byz_ W z q g < 1000000 := by omega
          obtain ⟨k, k1, k2, k3⟩ := jb_att (ner_ W) (zb_ z) q g 12 hq
          have k3 : byz_ W z q g = ner_ W q k + ner_ W k g := k3
          have l1 : byz_ W z a g ≤ ner_ W a k + ner_ W k g := jb_le (ner_ W) (zb_ z) a g 12 k k1 k2
          have l2 : ner_ W a k ≤ ner_ W a q + ner_ W q k := ft_cl h1
          have l3 : ner_ W a q ≤ hm_ W a q := ft_hm (S := fun _ => true) rfl rfl h4
          omega
/-! ===== costs: t is 1 once the charge is paid ===== -/
/-- what is left to pay, the charge always counted as owed or paid (t = 1: paid) -/
def kk_ (W : List (Nat × Nat × Nat)) (z v c g p t : Nat) : Nat := if t = 0 then min (bes_ W z p g * v) (byz_ W z p g * v + c) else ner_ W p g * v + c
/-- t behind a step to q -/
def nt_ (z t q : Nat) : Nat := if t = 0 then (if zb_ z q = true then 1 else 0) else 1
/-- numbers of a trip that is driven -/
def tk_ (W : List (Nat × Nat × Nat)) (z v c g : Nat) : Prop := wok_ W ∧ z < 4096 ∧ 1 ≤ v ∧ v ≤ 99 ∧ c ≤ 999 ∧ g < 12
theorem kk_1 {W : List (Nat × Nat × Nat)} {z v c g p : Nat} : kk_ W z v c g p 1 = ner_ W p g * v + c := rfl
theorem kk_0 {W : List (Nat × Nat × Nat)} {z v c g p : Nat} : kk_ W z v c g p 0 = min (bes_ W z p g * v) (byz_ W z p g * v + c) := rfl
theorem mul_mono {a b v : Nat} (h : a ≤ b) : a * v ≤ b * v := Nat.mul_le_mul_right v h
theorem byz_ner {W : List (Nat × Nat × Nat)} {z a g : Nat} : byz_ W z a g < 1000000 → ner_ W a g ≤ byz_ W z a g := fun h => by
  obtain ⟨k, k1, k2, k3⟩ := jb_att (ner_ W) (zb_ z) a g 12 h
  have k3 : byz_ W z a g = ner_ W a k + ner_ W k g := k3
  rw [k3]
  exact ft_cl k1
theorem bes_ner {W : List (Nat × Nat × Nat)} (hW : wok_ W) {z g : Nat} : ∀ (n a : Nat), bes_ W z a g ≤ n → bes_ W z a g < 1000000 → ner_ W a g ≤ bes_ W z a g := by
  intro n
  induction n with
  | zero =>
    intro a h hf
    by_cases e : a = g
    · subst e
      have h0 : ner_ W a a = 0 := ft_aa rfl
      omega
    · obtain ⟨q, h1, _, _, h4, h5, h6, h7⟩ := ft_att hW (S := fun p => !(zb_ z p)) e hf
      rw [← bes_ft] at h7
      omega
  | succ n ih =>
    intro a h hf
    by_cases e : a = g
    · subst e
      have h0 : ner_ W a a = 0 := ft_aa rfl
      omega
    · obtain ⟨q, h1, _, _, h4, h5, h6, h7⟩ := ft_att hW (S := fun p => !(zb_ z p)) e hf
      rw [← bes_ft] at h6 h7
      have := ih q (by omega) (by omega)
      have l1 : ner_ W a g ≤ ner_ W a q + ner_ W q g := ft_cl h1
      have l3 : ner_ W a q ≤ hm_ W a q := ft_hm (S := fun _ => true) rfl rfl h4
      omega
theorem far_v {x v : Nat} (hx : 1000000 ≤ x) (hv : 1 ≤ v) : 1000000 ≤ x * v := Nat.le_trans hx (Nat.le_mul_of_pos_right x hv)
theorem small_v {x v : Nat} (hx : x ≤ 2376) (hv : v ≤ 99) : x * v ≤ 235224 := Nat.mul_le_mul hx hv
/-- K p 0 is no more than K p 1 -/
theorem kk_01 {W : List (Nat × Nat × Nat)} {z v c g p : Nat} (h : tk_ W z v c g) (hp : p < 12) : kk_ W z v c g p 0 ≤ kk_ W z v c g p 1 := by
  obtain ⟨hW, hz, hv1, hv2, hc, hg⟩ := h
  rw [kk_0, kk_1]
  by_cases hf : ner_ W p g < 1000000
  · rcases ner_split hW z hg _ p hp (Nat.le_refl _) hf with i | i
    · have := mul_mono (v := v) i; omega
    · have := mul_mono (v := v) i; omega
  · have := mul_mono (v := v) (bes_far hW z p g)
    have := mul_mono (v := v) (Nat.le_of_not_lt hf)
    omega
theorem nt_1 {z q : Nat} : nt_ z 1 q = 1 := rfl
theorem nt_0 {z q : Nat} : nt_ z 0 q = if zb_ z q = true then 1 else 0 := rfl
/-- no step makes it less -/
theorem kk_le {W : List (Nat × Nat × Nat)} {z v c g p q t : Nat} (h : tk_ W z v c g) (ht : t = 0 ∨ t = 1) (hz : t = 0 → ¬ zb_ z p = true) (hp : p < 12) (hq : q < 12) (hw : hm_ W p q < 1000000) : kk_ W z v c g p t ≤ hm_ W p q * v + kk_ W z v c g q (nt_ z t q) := by
  obtain ⟨hW, hz4, hv1, hv2, hc, hg⟩ := h
  have hpq := (hm_99 hW hw).2.2.2
  have a1 : ner_ W p g ≤ ner_ W p q + ner_ W q g := ft_cl hq
  have a2 : ner_ W p q ≤ hm_ W p q := ft_hm (S := fun _ => true) rfl rfl hpq
  have a3 : ner_ W p g * v ≤ (hm_ W p q + ner_ W q g) * v := mul_mono (by omega)
  rw [Nat.add_mul] at a3
  rcases ht with ht | ht
  · subst ht
    rw [nt_0, kk_0]
    by_cases c1 : zb_ z q = true
    · rw [if_pos c1, kk_1]
      have b1 : byz_ W z p g ≤ ner_ W p q + ner_ W q g := jb_le (ner_ W) (zb_ z) p g 12 q hq c1
      have b2 : byz_ W z p g * v ≤ (hm_ W p q + ner_ W q g) * v := mul_mono (by omega)
      rw [Nat.add_mul] at b2
      omega
    · rw [if_neg c1, kk_0]
      have b1 : bes_ W z p g ≤ hm_ W p q + bes_ W z q g := by
        have l1 := ft_cl (W := W) (S := fun p => !(zb_ z p)) (a := p) (b := g) (m := q) hq
        have l2 := ft_hm (W := W) (S := fun p => !(zb_ z p)) (nz_b.mpr (hz rfl)) (nz_b.mpr c1) hpq
        rw [← bes_ft] at l1 l2
        omega
      have b2 : bes_ W z p g * v ≤ (hm_ W p q + bes_ W z q g) * v := mul_mono b1
      have b3 : byz_ W z p g ≤ hm_ W p q + byz_ W z q g := by
        by_cases hf : byz_ W z q g < 1000000
        · obtain ⟨k, k1, k2, k3⟩ := jb_att (ner_ W) (zb_ z) q g 12 hf
          have k3 : byz_ W z q g = ner_ W q k + ner_ W k g := k3
          have l1 : byz_ W z p g ≤ ner_ W p k + ner_ W k g := jb_le (ner_ W) (zb_ z) p g 12 k k1 k2
          have l2 : ner_ W p k ≤ ner_ W p q + ner_ W q k := ft_cl hq
          omega
        · have : byz_ W z p g ≤ 1000000 := jb_far _ _ _ _ _
          omega
      have b4 : byz_ W z p g * v ≤ (hm_ W p q + byz_ W z q g) * v := mul_mono b3
      rw [Nat.add_mul] at b2 b4
      omega
  · subst ht
    rw [nt_1, kk_1, kk_1]
    omega
/-- below FAR a step reaches it -/
theorem kk_at {W : List (Nat × Nat × Nat)} {z v c g p t : Nat} (h : tk_ W z v c g) (ht : t = 0 ∨ t = 1) (hz : t = 0 → ¬ zb_ z p = true) (hp : p < 12) (hpg : ¬ p = g) (hf : kk_ W z v c g p t < 1000000) : ∃ q, q < 12 ∧ hm_ W p q ≤ 99 ∧ hm_ W p q * v + kk_ W z v c g q (nt_ z t q) = kk_ W z v c g p t := by
  have h0 := h
  obtain ⟨hW, hz4, hv1, hv2, hc, hg⟩ := h
  suffices hs : ∃ q, q < 12 ∧ hm_ W p q ≤ 99 ∧ hm_ W p q * v + kk_ W z v c g q (nt_ z t q) ≤ kk_ W z v c g p t by
    obtain ⟨q, h1, h2, h3⟩ := hs
    have := kk_le h0 ht hz hp h1 (show hm_ W p q < 1000000 by omega)
    exact ⟨q, h1, h2, by omega⟩
  rcases ht with ht | ht
  · subst ht
    have hz := hz rfl
    rw [kk_0] at hf ⊢
    by_cases c1 : bes_ W z p g * v ≤ byz_ W z p g * v + c
    · rw [Nat.min_eq_left c1] at hf ⊢
      have hb : bes_ W z p g < 1000000 := by
        by_cases q : bes_ W z p g < 1000000
        · exact q
        · have := far_v (Nat.le_of_not_lt q) hv1; omega
      obtain ⟨q, h1, _, h3, h4, h5, h6, h7⟩ := ft_att hW (S := fun p => !(zb_ z p)) hpg hb
      rw [← bes_ft] at h6
      refine ⟨q, h1, h5, ?_⟩
      rw [nt_0, if_neg (nz_b.mp h3), kk_0, ← h6, Nat.add_mul]
      omega
    · rw [Nat.min_eq_right (by omega)] at hf ⊢
      have hb : byz_ W z p g < 1000000 := by
        by_cases q : byz_ W z p g < 1000000
        · exact q
        · have := far_v (Nat.le_of_not_lt q) hv1; omega
      obtain ⟨k, k1, k2, k3⟩ := jb_att (ner_ W) (zb_ z) p g 12 hb
      have k3 : byz_ W z p g = ner_ W p k + ner_ W k g := k3
      have hpk : ¬ p = k := fun e => hz (by rw [e]; exact k2)
      obtain ⟨q, h1, _, _, h4, h5, h6, h7⟩ := ft_att hW (S := fun _ => true) hpk (by rw [← ner_ft]; omega)
      rw [← ner_ft] at h6
      refine ⟨q, h1, h5, ?_⟩
      rw [nt_0]
      by_cases c2 : zb_ z q = true
      · rw [if_pos c2, kk_1]
        have l1 : ner_ W q g ≤ ner_ W q k + ner_ W k g := ft_cl k1
        have l2 : (hm_ W p q + ner_ W q g) * v ≤ byz_ W z p g * v := mul_mono (by omega)
        rw [Nat.add_mul] at l2
        omega
      · rw [if_neg c2, kk_0]
        have l1 : byz_ W z q g ≤ ner_ W q k + ner_ W k g := jb_le (ner_ W) (zb_ z) q g 12 k k1 k2
        have l2 : (hm_ W p q + byz_ W z q g) * v ≤ byz_ W z p g * v := mul_mono (by omega)
        rw [Nat.add_mul] at l2
        omega
  · subst ht
    rw [kk_1] at hf ⊢
    have hb : ner_ W p g < 1000000 := by
      by_cases q : ner_ W p g < 1000000
      · exact q
      · have := far_v (Nat.le_of_not_lt q) hv1; omega
    obtain ⟨q, h1, _, _, h4, h5, h6, h7⟩ := ft_att hW (S := fun _ => true) hpg hb
    rw [← ner_ft] at h6
    refine ⟨q, h1, h5, ?_⟩
    rw [nt_1, kk_1, ← h6, Nat.add_mul]
    omega
/-- no more than so much where it is reached -/
theorem kk_b {W : List (Nat × Nat × Nat)} {z v c g p t : Nat} (h : tk_ W z v c g) (ht : t = 0 ∨ t = 1) (hf : kk_ W z v c g p t < 1000000) : kk_ W z v c g p t ≤ 236223 := by
  obtain ⟨hW, hz4, hv1, hv2, hc, hg⟩ := h
  rcases ht with ht | ht
  · subst ht
    rw [kk_0] at hf ⊢
    by_cases c1 : bes_ W z p g * v ≤ byz_ W z p g * v + c
    · rw [Nat.min_eq_left c1] at hf ⊢
      have hb : bes_ W z p g < 1000000 := by
        by_cases q : bes_ W z p g < 1000000
        · exact q
        · have := far_v (Nat.le_of_not_lt q) hv1; omega
      have := ft_b hW (S := fun p => !(zb_ z p)) hb
      rw [← bes_ft] at this
      have := small_v (x := bes_ W z p g) (by omega) hv2
      omega
    · rw [Nat.min_eq_right (by omega)] at hf ⊢
      have hb : byz_ W z p g < 1000000 := by
        by_cases q : byz_ W z p g < 1000000
        · exact q
        · have := far_v (Nat.le_of_not_lt q) hv1; omega
      obtain ⟨k, k1, k2, k3⟩ := jb_att (ner_ W) (zb_ z) p g 12 hb
      have k3 : byz_ W z p g = ner_ W p k + ner_ W k g := k3
      have b1 : ner_ W p k ≤ 1188 := ft_b hW (S := fun _ => true) (by rw [← ner_ft]; omega)
      have b2 : ner_ W k g ≤ 1188 := ft_b hW (S := fun _ => true) (by rw [← ner_ft]; omega)
      have := small_v (x := byz_ W z p g) (by omega) hv2
      omega
  · subst ht
    rw [kk_1] at hf ⊢
    have hb : ner_ W p g < 1000000 := by
      by_cases q : ner_ W p g < 1000000
      · exact q
      · have := far_v (Nat.le_of_not_lt q) hv1; omega
    have b1 : ner_ W p g ≤ 1188 := ft_b hW (S := fun _ => true) hb
    have := small_v (x := ner_ W p g) (by omega) hv2
    omega
