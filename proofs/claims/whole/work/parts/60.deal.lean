/-! ===== sets of readings dealt to plates: what the least worth is ===== -/
abbrev tB_ (s i : Nat) : Prop := s.testBit i = true
theorem tB_lt {s n i : Nat} (hs : s < 2 ^ n) (hi : n ≤ i) : ¬ tB_ s i := by
  show ¬ s.testBit i = true
  rw [Nat.testBit_lt_two_pow (Nat.lt_of_lt_of_le hs (Nat.pow_le_pow_right (by omega) hi))]
  decide
theorem tB_ext {s t : Nat} (h : ∀ i, tB_ s i ↔ tB_ t i) : s = t := Nat.eq_of_testBit_eq fun i => Bool.eq_iff_iff.mpr (h i)
theorem tB_mk (f : Nat → Prop) : ∀ n, ∃ x, x < 2 ^ n ∧ ∀ i, tB_ x i ↔ i < n ∧ f i
  | 0 => ⟨0, by decide, fun i => ⟨fun h => (by have h : Nat.testBit 0 i = true := h; rw [Nat.zero_testBit] at h; cases h), fun h => absurd h.1 (Nat.not_lt_zero _)⟩⟩
  | n + 1 => by
    obtain ⟨x, h1, h2⟩ := tB_mk f n
    by_cases c : f n
    · refine ⟨x ||| 2 ^ n, Nat.or_lt_two_pow (Nat.lt_of_lt_of_le h1 (Nat.pow_le_pow_right (by omega) (by omega))) (Nat.pow_lt_pow_right (by omega) (by omega)), fun i => ?_⟩
      show (x ||| 2 ^ n).testBit i = true ↔ _
      rw [Nat.testBit_or, Bool.or_eq_true, Nat.testBit_two_pow, decide_eq_true_eq]
      constructor
      · rintro (h | h)
        · have := (h2 i).mp h
          exact ⟨by omega, this.2⟩
        · rw [← h]; exact ⟨by omega, c⟩
      · rintro ⟨h3, h4⟩
        by_cases e : n = i
        · exact Or.inr e
        · exact Or.inl ((h2 i).mpr ⟨by omega, h4⟩)
    · refine ⟨x, Nat.lt_of_lt_of_le h1 (Nat.pow_le_pow_right (by omega) (by omega)), fun i => ?_⟩
      rw [h2 i]
      constructor
      · rintro ⟨h3, h4⟩; exact ⟨by omega, h4⟩
      · rintro ⟨h3, h4⟩
        by_cases e : i = n
        · rw [e] at h4; exact absurd h4 c
        · exact ⟨by omega, h4⟩
/-- the sum over a set -/
def ss_ (f : Nat → Nat) (s : Nat) : Nat → Nat
  | 0 => 0
  | n + 1 => ss_ f s n + (if s.testBit n = true then f n else 0)
theorem ss_c {f g : Nat → Nat} {s t : Nat} : ∀ n, (∀ i, i < n → (tB_ s i ↔ tB_ t i)) → (∀ i, i < n → tB_ s i → f i = g i) → ss_ f s n = ss_ g t n
  | 0, _, _ => rfl
  | n + 1, h1, h2 => by
    unfold ss_
    rw [ss_c n (fun i hi => h1 i (by omega)) fun i hi => h2 i (by omega)]
    by_cases c : s.testBit n = true
    · rw [if_pos c, if_pos ((h1 n (by omega)).mp c), h2 n (by omega) c]
    · rw [if_neg c, if_neg fun q => c ((h1 n (by omega)).mpr q)]
/-- s is of x and t, that have nothing in common -/
theorem ss_two {f : Nat → Nat} {s x t : Nat} : ∀ n, (∀ i, i < n → (tB_ s i ↔ tB_ x i ∨ tB_ t i)) → (∀ i, i < n → ¬ (tB_ x i ∧ tB_ t i)) → ss_ f s n = ss_ f t n + ss_ f x n
  | 0, _, _ => rfl
  | n + 1, h1, h2 => by
    have ih := ss_two (f := f) (s := s) (x := x) (t := t) n (fun i hi => h1 i (by omega)) fun i hi => h2 i (by omega)
    have a := h1 n (by omega)
    have b := h2 n (by omega)
    unfold ss_
    by_cases cx : x.testBit n = true
    · have ct : ¬ t.testBit n = true := fun q => b ⟨cx, q⟩
      rw [if_pos (a.mpr (Or.inl cx)), if_pos cx, if_neg ct, ih]
      omega
    · by_cases ct : t.testBit n = true
      · rw [if_pos (a.mpr (Or.inr ct)), if_neg cx, if_pos ct, ih]
        omega
      · rw [if_neg fun q => (a.mp q).elim cx ct, if_neg cx, if_neg ct, ih]
        omega
def bop_ (tg : Nat → Nat → Bool) (N s : Nat) : Prop := ∀ i j, i < j → j < N → tB_ s i → tB_ s j → tg i j = true
def wp_ (np : Nat) (pr : Nat → Nat → Nat) (N i p : Nat) : Nat := co2_ np pr i p * 19487171 + dv_ np p * 11 ^ (N - 1 - i)
/-- a deals the readings of s to plates ahead of p, or to nobody -/
def vset_ (np : Nat) (pr : Nat → Nat → Nat) (tg : Nat → Nat → Bool) (N p s : Nat) (a : Nat → Nat) : Prop := (∀ i, i < N → tB_ s i → a i = np ∨ (a i < p ∧ ¬ pr i (a i) = 9)) ∧ ∀ i j, i < j → j < N → tB_ s i → tB_ s j → a i = a j → ¬ a i = np → tg i j = true
def wset_ (np : Nat) (pr : Nat → Nat → Nat) (N s : Nat) (a : Nat → Nat) : Nat := ss_ (fun i => wp_ np pr N i (a i)) s N
def dok_ (np : Nat) (pr : Nat → Nat → Nat) (tg : Nat → Nat → Bool) (N p : Nat) (Wt : Nat → Nat) : Prop := ∀ s, s < 2 ^ N → (∀ a, vset_ np pr tg N p s a → Wt s ≤ wset_ np pr N s a) ∧ ∃ a, vset_ np pr tg N p s a ∧ Wt s = wset_ np pr N s a
theorem dok_0 {np : Nat} {pr : Nat → Nat → Nat} {tg : Nat → Nat → Bool} {N : Nat} : dok_ np pr tg N 0 (fun s => ss_ (fun i => wp_ np pr N i np) s N) := fun s _ => by
  refine ⟨fun a ha => ?_, fun _ => np, ⟨fun i _ _ => Or.inl rfl, fun i j _ _ _ _ _ h => absurd rfl h⟩, rfl⟩
  refine Nat.le_of_eq (ss_c N (fun i _ => Iff.rfl) fun i hi hs => ?_)
  rcases ha.1 i hi hs with h | h
  · rw [h]
  · omega
theorem vset_sub {np : Nat} {pr : Nat → Nat → Nat} {tg : Nat → Nat → Bool} {N p s t : Nat} {a : Nat → Nat} (h : vset_ np pr tg N p s a) (ht : ∀ i, i < N → tB_ t i → tB_ s i) : vset_ np pr tg N p t a :=
  ⟨fun i hi hx => h.1 i hi (ht i hi hx), fun i j hij hj h1 h2 => h.2 i j hij hj (ht i (by omega) h1) (ht j hj h2)⟩
/-- one plate more -/
theorem dok_s {np : Nat} {pr : Nat → Nat → Nat} {tg : Nat → Nat → Bool} {N p : Nat} (hp : p < np) {Wt Wn : Nat → Nat} (h : dok_ np pr tg N p Wt)
    (h1 : ∀ s, s < 2 ^ N → Wn s ≤ Wt s) (h2 : ∀ s x, s < 2 ^ N → ¬ x = 0 → (∀ i, tB_ x i → tB_ s i ∧ i < N ∧ ¬ pr i p = 9) → bop_ tg N x → Wn s ≤ Wt (s ^^^ x) + ss_ (fun i => wp_ np pr N i p) x N)
    (h3 : ∀ s, s < 2 ^ N → Wn s = Wt s ∨ ∃ x, (∀ i, tB_ x i → tB_ s i ∧ i < N ∧ ¬ pr i p = 9) ∧ bop_ tg N x ∧ Wn s = Wt (s ^^^ x) + ss_ (fun i => wp_ np pr N i p) x N) : dok_ np pr tg N (p + 1) Wn := by
  have xr : ∀ s x, s < 2 ^ N → (∀ i, tB_ x i → tB_ s i ∧ i < N ∧ ¬ pr i p = 9) → (s ^^^ x) < 2 ^ N ∧ (∀ i, tB_ (s ^^^ x) i ↔ tB_ s i ∧ ¬ tB_ x i) := fun s x hs hx => by
    have hb : ∀ i, tB_ (s ^^^ x) i ↔ tB_ s i ∧ ¬ tB_ x i := fun i => by
      show (s ^^^ x).testBit i = true ↔ s.testBit i = true ∧ ¬ x.testBit i = true
      rw [Nat.testBit_xor]
      have this : x.testBit i = true → s.testBit i = true ∧ i < N ∧ ¬ pr i p = 9 := hx i
      cases e1 : s.testBit i <;> cases e2 : x.testBit i <;> simp_all
    refine ⟨?_, hb⟩
    refine Nat.lt_of_not_le fun q => ?_
    obtain ⟨i, hi1, hi2⟩ := Nat.exists_ge_and_testBit_of_ge_two_pow q
    exact tB_lt hs hi1 ((hb i).mp hi2).1
  intro s hs
  constructor
  · intro a ha
    obtain ⟨x, hx1, hx2⟩ := tB_mk (fun i => tB_ s i ∧ a i = p) N
    have hxs : ∀ i, tB_ x i → tB_ s i ∧ i < N ∧ ¬ pr i p = 9 := fun i hi => by
      obtain ⟨q1, q2, q3⟩ := (hx2 i).mp hi
      refine ⟨q2, q1, ?_⟩
      rcases ha.1 i q1 q2 with e | e
      · omega
      · rw [q3] at e; exact e.2
    obtain ⟨xl, xb⟩ := xr s x hs hxs
    have hv : vset_ np pr tg N p (s ^^^ x) a := by
      refine ⟨fun i hi hb => ?_, fun i j hij hj b1 b2 => ha.2 i j hij hj ((xb i).mp b1).1 ((xb j).mp b2).1⟩
      obtain ⟨q1, q2⟩ := (xb i).mp hb
      rcases ha.1 i hi q1 with e | e
      · exact Or.inl e
      · refine Or.inr ⟨?_, e.2⟩
        have : ¬ a i = p := fun q => q2 ((hx2 i).mpr ⟨hi, q1, q⟩)
        omega
    have lo := (h (s ^^^ x) xl).1 a hv
    have hsum : wset_ np pr N s a = wset_ np pr N (s ^^^ x) a + ss_ (fun i => wp_ np pr N i p) x N := by
      unfold wset_
      rw [ss_two (f := fun i => wp_ np pr N i (a i)) (s := s) (x := x) (t := s ^^^ x) N (fun i hi => by
        constructor
        · intro q
          by_cases qx : tB_ x i
          · exact Or.inl qx
          · exact Or.inr ((xb i).mpr ⟨q, qx⟩)
        · rintro (q | q)
          · exact (hxs i q).1
          · exact ((xb i).mp q).1) (fun i hi q => ((xb i).mp q.2).2 q.1)]
      rw [ss_c (f := fun i => wp_ np pr N i (a i)) (g := fun i => wp_ np pr N i p) (s := x) (t := x) N (fun i _ => Iff.rfl) (fun i hi q => by show wp_ np pr N i (a i) = wp_ np pr N i p; rw [((hx2 i).mp q).2.2])]
    by_cases x0 : x = 0
    · rw [x0, Nat.xor_zero] at lo
      exact Nat.le_trans (h1 s hs) lo
    · have bo : bop_ tg N x := fun i j hij hj b1 b2 => by
        have c1 := (hx2 i).mp b1
        have c2 := (hx2 j).mp b2
        exact ha.2 i j hij hj c1.2.1 c2.2.1 (c1.2.2.trans c2.2.2.symm) (by rw [c1.2.2]; omega)
      have := h2 s x hs x0 hxs bo
      omega
  · rcases h3 s hs with e | ⟨x, hxs, bo, e⟩
    · obtain ⟨a, ha, hw⟩ := (h s hs).2
      exact ⟨a, ⟨fun i hi hb => by
        rcases ha.1 i hi hb with q | q
        · exact Or.inl q
        · exact Or.inr ⟨by omega, q.2⟩, ha.2⟩, by rw [e]; exact hw⟩
    · obtain ⟨xl, xb⟩ := xr s x hs hxs
      obtain ⟨a, ha, hw⟩ := (h (s ^^^ x) xl).2
      refine ⟨fun i => if x.testBit i = true then p else a i, ⟨fun i hi hb => ?_, fun i j hij hj b1 b2 he hne => ?_⟩, ?_⟩
      · show (if x.testBit i = true then p else a i) = np ∨ (if x.testBit i = true then p else a i) < p + 1 ∧ ¬ pr i (if x.testBit i = true then p else a i) = 9
        by_cases c : x.testBit i = true
        · rw [if_pos c]
          exact Or.inr ⟨by omega, (hxs i c).2.2⟩
        · rw [if_neg c]
          rcases ha.1 i hi ((xb i).mpr ⟨hb, c⟩) with q | q
          · exact Or.inl q
          · exact Or.inr ⟨by omega, q.2⟩
      · have he : (if x.testBit i = true then p else a i) = (if x.testBit j = true then p else a j) := he
        have hne : ¬ (if x.testBit i = true then p else a i) = np := hne
        by_cases ci : x.testBit i = true
        · by_cases cj : x.testBit j = true
          · exact bo i j hij hj ci cj
          · rw [if_pos ci, if_neg cj] at he
            rcases ha.1 j hj ((xb j).mpr ⟨b2, cj⟩) with q | q
            · omega
            · omega
        · by_cases cj : x.testBit j = true
          · rw [if_neg ci, if_pos cj] at he
            rcases ha.1 i (by omega) ((xb i).mpr ⟨b1, ci⟩) with q | q
            · omega
            · omega
          · rw [if_neg ci, if_neg cj] at he
            rw [if_neg ci] at hne
            exact ha.2 i j hij hj ((xb i).mpr ⟨b1, ci⟩) ((xb j).mpr ⟨b2, cj⟩) he hne
      · rw [e, hw]
        unfold wset_
        rw [ss_two (f := fun i => wp_ np pr N i (if x.testBit i = true then p else a i)) (s := s) (x := x) (t := s ^^^ x) N (fun i hi => by
          constructor
          · intro q
            by_cases qx : tB_ x i
            · exact Or.inl qx
            · exact Or.inr ((xb i).mpr ⟨q, qx⟩)
          · rintro (q | q)
            · exact (hxs i q).1
            · exact ((xb i).mp q).1) (fun i hi q => ((xb i).mp q.2).2 q.1)]
        rw [ss_c (f := fun i => wp_ np pr N i (if x.testBit i = true then p else a i)) (g := fun i => wp_ np pr N i (a i)) (s := s ^^^ x) (t := s ^^^ x) N (fun i _ => Iff.rfl) (fun i hi q => by show wp_ np pr N i (if x.testBit i = true then p else a i) = wp_ np pr N i (a i); rw [if_neg ((xb i).mp q).2]), ss_c (f := fun i => wp_ np pr N i (if x.testBit i = true then p else a i)) (g := fun i => wp_ np pr N i p) (s := x) (t := x) N (fun i _ => Iff.rfl) (fun i hi q => by show wp_ np pr N i (if x.testBit i = true then p else a i) = wp_ np pr N i p; rw [if_pos q])]
/-! the whole set -/
theorem full_ {N i : Nat} : tB_ (2 ^ N - 1) i ↔ i < N := by
  show (2 ^ N - 1).testBit i = true ↔ _
  rw [Nat.testBit_two_pow_sub_one, decide_eq_true_eq]
theorem nv_sum {np : Nat} {pr : Nat → Nat → Nat} {a : Nat → Nat} {N : Nat} : ∀ n, n ≤ N → ss_ (fun i => wp_ np pr N i (a i)) (2 ^ N - 1) n = cst_ np pr a n * 19487171 + nv_ np a n * 11 ^ (N - n)
  | 0, _ => by
    show 0 = 0 * 19487171 + 0 * _
    rw [Nat.zero_mul, Nat.zero_mul]
  | n + 1, hn => by
    have ih := nv_sum (np := np) (pr := pr) (a := a) (N := N) n (by omega)
    unfold ss_
    rw [if_pos (full_.mpr (by omega)), ih]
    show _ + (co2_ np pr n (a n) * 19487171 + dv_ np (a n) * 11 ^ (N - 1 - n)) = (cst_ np pr a n + co2_ np pr n (a n)) * 19487171 + (nv_ np a n * 11 + dv_ np (a n)) * 11 ^ (N - (n + 1))
    rw [Nat.add_mul, Nat.add_mul, show N - n = N - (n + 1) + 1 by omega, Nat.pow_succ, show N - 1 - n = N - (n + 1) by omega, Nat.mul_comm (11 ^ (N - (n + 1))) 11, ← Nat.mul_assoc]
    omega
theorem wset_full {np : Nat} {pr : Nat → Nat → Nat} {a : Nat → Nat} {N : Nat} : wset_ np pr N (2 ^ N - 1) a = wt_ np pr a N := by
  unfold wset_ wt_
  rw [nv_sum N (Nat.le_refl _), Nat.sub_self, Nat.pow_zero, Nat.mul_one]
theorem vset_val {np : Nat} {pr : Nat → Nat → Nat} {tg : Nat → Nat → Bool} {N : Nat} {a : Nat → Nat} : vset_ np pr tg N np (2 ^ N - 1) a ↔ val_ np pr tg a N := by
  constructor
  · intro h j hj
    rcases h.1 j hj (full_.mpr hj) with e | e
    · exact ⟨by omega, cbf_u.mpr (Or.inl e)⟩
    · refine ⟨by omega, cbf_u.mpr (Or.inr ⟨e.2, fun l hl el => ?_⟩)⟩
      exact h.2 l j hl hj (full_.mpr (by omega)) (full_.mpr hj) el (by omega)
  · intro h
    refine ⟨fun i hi _ => ?_, fun i j hij hj _ _ e hne => ?_⟩
    · have h1 := h i hi
      rcases cbf_u.mp h1.2 with e | e
      · exact Or.inl e
      · by_cases c : a i = np
        · exact Or.inl c
        · exact Or.inr ⟨by omega, e.1⟩
    · have h1 := h j hj
      rcases cbf_u.mp h1.2 with e2 | e2
      · omega
      · exact e2.2 i hij e
/-- the least worth of the whole set is that of what is known -/
theorem deal_ {np : Nat} {pr : Nat → Nat → Nat} {tg : Nat → Nat → Bool} (hnp : np ≤ 10) {N : Nat} (h7 : N ≤ 7) {Wt : Nat → Nat} (h : dok_ np pr tg N np Wt) : Wt (2 ^ N - 1) = wt_ np pr (kn_ np pr tg N).2 N := by
  have hlt : 2 ^ N - 1 < 2 ^ N := Nat.sub_lt (Nat.two_pow_pos N) (by omega)
  obtain ⟨h1, a, h2, h3⟩ := h _ hlt
  obtain ⟨k1, k2⟩ := kn_ok (pr := pr) (tg := tg) hnp h7
  have l1 := h1 (kn_ np pr tg N).2 (vset_val.mpr k1.2)
  have l2 := k2 a (vset_val.mp h2)
  rw [wset_full] at l1 h3
  omega
