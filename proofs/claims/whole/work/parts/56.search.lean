/-! ===== whose: the search through all choices ===== -/
abbrev bs_ : Type := Option (Nat × (Nat → Nat))
def co2_ (np : Nat) (pr : Nat → Nat → Nat) (i p : Nat) : Nat := if p = np then 4 else pr i p
def dv_ (np p : Nat) : Nat := if p = np then 10 else p
/-- none of the first j that is of p forbids i -/
def tgl_ (tg : Nat → Nat → Bool) (a : Nat → Nat) (p i : Nat) : Nat → Bool
  | 0 => true
  | j + 1 => tgl_ tg a p i j && (!(decide (a j = p)) || tg j i)
def cbf_ (np : Nat) (pr : Nat → Nat → Nat) (tg : Nat → Nat → Bool) (a : Nat → Nat) (i p : Nat) : Bool := decide (p = np) || (!(decide (pr i p = 9)) && tgl_ tg a p i i)
def cst_ (np : Nat) (pr : Nat → Nat → Nat) (a : Nat → Nat) : Nat → Nat
  | 0 => 0
  | i + 1 => cst_ np pr a i + co2_ np pr i (a i)
def nv_ (np : Nat) (a : Nat → Nat) : Nat → Nat
  | 0 => 0
  | i + 1 => nv_ np a i * 11 + dv_ np (a i)
def val_ (np : Nat) (pr : Nat → Nat → Nat) (tg : Nat → Nat → Bool) (a : Nat → Nat) (n : Nat) : Prop := ∀ j, j < n → a j ≤ np ∧ cbf_ np pr tg a j (a j) = true
def ag2_ (a b : Nat → Nat) (n : Nat) : Prop := ∀ j, j < n → a j = b j
def wt_ (np : Nat) (pr : Nat → Nat → Nat) (a : Nat → Nat) (n : Nat) : Nat := cst_ np pr a n * 19487171 + nv_ np a n
def btr_ (b : bs_) (x : Nat) : Bool := match b with
  | none => true
  | some q => decide (x < q.1)
def ip_ {B : Type} (f : Nat → B → B) : Nat → Nat → B → B
  | 0, _, b => b
  | c + 1, p, b => ip_ f c (p + 1) (f p b)
def stp_ (np : Nat) (pr : Nat → Nat → Nat) (tg : Nat → Nat → Bool) (k i : Nat) (a : Nat → Nat) (rec : Nat → (Nat → Nat) → bs_ → bs_) (p : Nat) (b : bs_) : bs_ := if (cbf_ np pr tg a i p && btr_ b (cst_ np pr a i + co2_ np pr i p)) = true then (if k = 0 then some (cst_ np pr a i + co2_ np pr i p, ur_ a i p) else rec (i + 1) (ur_ a i p) b) else b
def sr_ (np : Nat) (pr : Nat → Nat → Nat) (tg : Nat → Nat → Bool) : Nat → Nat → (Nat → Nat) → bs_ → bs_
  | 0, _, _, b => b
  | k + 1, i, a, b => ip_ (fun p b => stp_ np pr tg k i a (sr_ np pr tg k) p b) (np + 1) 0 b
theorem tgl_u {tg : Nat → Nat → Bool} {a : Nat → Nat} {p i : Nat} : ∀ n, tgl_ tg a p i n = true ↔ ∀ j, j < n → a j = p → tg j i = true
  | 0 => ⟨fun _ j hj => by omega, fun _ => rfl⟩
  | n + 1 => by
    have ih := tgl_u (tg := tg) (a := a) (p := p) (i := i) n
    show (tgl_ tg a p i n && (!(decide (a n = p)) || tg n i)) = true ↔ _
    rw [Bool.and_eq_true, ih, Bool.or_eq_true, Bool.not_eq_true', decide_eq_false_iff_not]
    constructor
    · rintro ⟨h1, h2⟩ j hj hp
      by_cases e : j = n
      · subst e
        rcases h2 with h2 | h2
        · exact absurd hp h2
        · exact h2
      · exact h1 j (by omega) hp
    · intro h
      refine ⟨fun j hj => h j (by omega), ?_⟩
      by_cases e : a n = p
      · exact Or.inr (h n (by omega) e)
      · exact Or.inl e
theorem cbf_u {np : Nat} {pr : Nat → Nat → Nat} {tg : Nat → Nat → Bool} {a : Nat → Nat} {i p : Nat} : cbf_ np pr tg a i p = true ↔ p = np ∨ (¬ pr i p = 9 ∧ ∀ j, j < i → a j = p → tg j i = true) := by
  unfold cbf_
  rw [Bool.or_eq_true, Bool.and_eq_true, tgl_u, decide_eq_true_eq, Bool.not_eq_true', decide_eq_false_iff_not]
theorem cst_c {np : Nat} {pr : Nat → Nat → Nat} {a b : Nat → Nat} : ∀ n, ag2_ a b n → cst_ np pr a n = cst_ np pr b n
  | 0, _ => rfl
  | n + 1, h => by
    show cst_ np pr a n + co2_ np pr n (a n) = cst_ np pr b n + co2_ np pr n (b n)
    rw [cst_c n fun j hj => h j (by omega), h n (by omega)]
theorem nv_c {np : Nat} {a b : Nat → Nat} : ∀ n, ag2_ a b n → nv_ np a n = nv_ np b n
  | 0, _ => rfl
  | n + 1, h => by
    show nv_ np a n * 11 + dv_ np (a n) = nv_ np b n * 11 + dv_ np (b n)
    rw [nv_c n fun j hj => h j (by omega), h n (by omega)]
theorem cbf_c {np : Nat} {pr : Nat → Nat → Nat} {tg : Nat → Nat → Bool} {a b : Nat → Nat} {i p : Nat} (h : ag2_ a b i) : cbf_ np pr tg a i p = true ↔ cbf_ np pr tg b i p = true := by
  rw [cbf_u, cbf_u]
  constructor
  · rintro (h1 | ⟨h1, h2⟩)
    · exact Or.inl h1
    · exact Or.inr ⟨h1, fun j hj e => h2 j hj (by rw [h j hj]; exact e)⟩
  · rintro (h1 | ⟨h1, h2⟩)
    · exact Or.inl h1
    · exact Or.inr ⟨h1, fun j hj e => h2 j hj (by rw [← h j hj]; exact e)⟩
theorem ag2_ur {a : Nat → Nat} {i p : Nat} : ag2_ (ur_ a i p) a i := fun j hj => if_neg (by omega)
theorem ur_s {a : Nat → Nat} {i p : Nat} : ur_ a i p i = p := if_pos rfl
theorem ag2_sy {a b : Nat → Nat} {n : Nat} (h : ag2_ a b n) : ag2_ b a n := fun j hj => (h j hj).symm
theorem cst_ur {np : Nat} {pr : Nat → Nat → Nat} {a : Nat → Nat} {i p : Nat} : cst_ np pr (ur_ a i p) (i + 1) = cst_ np pr a i + co2_ np pr i p := by
  show cst_ np pr (ur_ a i p) i + co2_ np pr i (ur_ a i p i) = _
  rw [cst_c i ag2_ur, ur_s]
theorem nv_ur {np : Nat} {a : Nat → Nat} {i p : Nat} : nv_ np (ur_ a i p) (i + 1) = nv_ np a i * 11 + dv_ np p := by
  show nv_ np (ur_ a i p) i * 11 + dv_ np (ur_ a i p i) = _
  rw [nv_c i ag2_ur, ur_s]
theorem val_ur {np : Nat} {pr : Nat → Nat → Nat} {tg : Nat → Nat → Bool} {a : Nat → Nat} {i p : Nat} (h : val_ np pr tg a i) (hp : p ≤ np) (hc : cbf_ np pr tg a i p = true) : val_ np pr tg (ur_ a i p) (i + 1) := fun j hj => by
  by_cases e : j = i
  · subst e
    rw [ur_s]
    exact ⟨hp, (cbf_c ag2_ur).mpr hc⟩
  · have ej : ur_ a i p j = a j := if_neg e
    rw [ej]
    have := h j (by omega)
    exact ⟨this.1, (cbf_c fun l hl => if_neg (by omega)).mpr this.2⟩
theorem dv_10 {np p : Nat} (hnp : np ≤ 10) (hp : p ≤ np) : dv_ np p ≤ 10 := by
  unfold dv_
  by_cases e : p = np
  · rw [if_pos e]; omega
  · rw [if_neg e]; omega
theorem nv_hi {np : Nat} (hnp : np ≤ 10) {o : Nat → Nat} {n : Nat} : ∀ k, (∀ j, j < n + k → o j ≤ np) → nv_ np o n * 11 ^ k ≤ nv_ np o (n + k) ∧ nv_ np o (n + k) < (nv_ np o n + 1) * 11 ^ k
  | 0, _ => by
    rw [Nat.pow_zero, Nat.mul_one, Nat.mul_one]
    exact ⟨Nat.le_refl _, Nat.lt_succ_self _⟩
  | k + 1, h => by
    obtain ⟨h1, h2⟩ := nv_hi hnp (o := o) (n := n) k fun j hj => h j (by omega)
    have d := dv_10 hnp (h (n + k) (by omega))
    show nv_ np o n * 11 ^ (k + 1) ≤ nv_ np o (n + k) * 11 + dv_ np (o (n + k)) ∧ nv_ np o (n + k) * 11 + dv_ np (o (n + k)) < (nv_ np o n + 1) * 11 ^ (k + 1)
    rw [Nat.pow_succ, ← Nat.mul_assoc, ← Nat.mul_assoc]
    omega
theorem nv_7 {np : Nat} (hnp : np ≤ 10) {o : Nat → Nat} {n : Nat} (hn : n ≤ 7) (h : ∀ j, j < n → o j ≤ np) : nv_ np o n < 19487171 := by
  have h1 := (nv_hi hnp (o := o) (n := 0) n fun j hj => h j (by omega)).2
  rw [Nat.zero_add] at h1
  have h2 : (nv_ np o 0 + 1) * 11 ^ n = 11 ^ n := Nat.one_mul _
  have h3 : 11 ^ n ≤ 11 ^ 7 := Nat.pow_le_pow_right (by omega) hn
  have h4 : 11 ^ 7 = 19487171 := rfl
  omega
theorem cst_mono {np : Nat} {pr : Nat → Nat → Nat} {a : Nat → Nat} {n : Nat} : ∀ k, cst_ np pr a n ≤ cst_ np pr a (n + k)
  | 0 => Nat.le_refl _
  | k + 1 => Nat.le_trans (cst_mono k) (Nat.le_add_right _ _)
/-- what is held is a choice that can be -/
def gq_ (np : Nat) (pr : Nat → Nat → Nat) (tg : Nat → Nat → Bool) (N : Nat) (q : Nat × (Nat → Nat)) : Prop := q.1 = cst_ np pr q.2 N ∧ val_ np pr tg q.2 N
def dvp_ (np p : Nat) : Nat := if p ≤ np then dv_ np p else 11
theorem dvp_s {np p : Nat} (hnp : np ≤ 10) (hp : p ≤ np) : dv_ np p + 1 ≤ dvp_ np (p + 1) ∧ dvp_ np p = dv_ np p := by
  unfold dvp_ dv_
  by_cases e : p = np
  · rw [if_pos e, if_neg (by omega), if_pos hp]; omega
  · rw [if_neg e, if_pos (show p + 1 ≤ np by omega), if_pos hp]
    by_cases e2 : p + 1 = np
    · rw [if_pos e2]; omega
    · rw [if_neg e2]; omega
def jq_ (np : Nat) (pr : Nat → Nat → Nat) (tg : Nat → Nat → Bool) (N k i : Nat) (a : Nat → Nat) (b0 : bs_) (p : Nat) (b : bs_) : Prop :=
  (∀ q, b = some q → gq_ np pr tg N q ∧ nv_ np q.2 N < (nv_ np a i * 11 + dvp_ np p) * 11 ^ k) ∧ (∀ o, val_ np pr tg o N → ag2_ o a i → o i < p → ∃ q, b = some q ∧ wt_ np pr q.2 N ≤ wt_ np pr o N) ∧ (∀ q0, b0 = some q0 → ∃ q, b = some q ∧ wt_ np pr q.2 N ≤ wt_ np pr q0.2 N)
theorem mul_r {x y X : Nat} (h : x ≤ y) : x * X ≤ y * X := Nat.mul_le_mul_right X h
theorem jq_step {np : Nat} {pr : Nat → Nat → Nat} {tg : Nat → Nat → Bool} (hnp : np ≤ 10) {N k i : Nat} (hN : i + (k + 1) = N) (h7 : N ≤ 7) {a : Nat → Nat} (ha : val_ np pr tg a i) {b0 : bs_} {rec : Nat → (Nat → Nat) → bs_ → bs_}
    (hrec : ¬ k = 0 → ∀ a1 b, val_ np pr tg a1 (i + 1) → (∀ q, b = some q → gq_ np pr tg N q ∧ nv_ np q.2 N < nv_ np a1 (i + 1) * 11 ^ k) → ∃ q, rec (i + 1) a1 b = some q ∧ gq_ np pr tg N q ∧ nv_ np q.2 N < (nv_ np a1 (i + 1) + 1) * 11 ^ k ∧ (∀ o, val_ np pr tg o N → ag2_ o a1 (i + 1) → wt_ np pr q.2 N ≤ wt_ np pr o N) ∧ (∀ q0, b = some q0 → wt_ np pr q.2 N ≤ wt_ np pr q0.2 N))
    {p : Nat} (hp : p ≤ np) {b : bs_} (h : jq_ np pr tg N k i a b0 p b) : jq_ np pr tg N k i a b0 (p + 1) (stp_ np pr tg k i a rec p b) := by
  obtain ⟨h1, h2, h3⟩ := h
  have hd := dvp_s hnp hp
  have up : (nv_ np a i * 11 + dv_ np p + 1) * 11 ^ k ≤ (nv_ np a i * 11 + dvp_ np (p + 1)) * 11 ^ k := mul_r (by omega)
  have up2 : (nv_ np a i * 11 + dv_ np p) * 11 ^ k ≤ (nv_ np a i * 11 + dv_ np p + 1) * 11 ^ k := mul_r (by omega)
  rw [hd.2] at h1
  -- an o that goes on by p
  have ext : ∀ o, val_ np pr tg o N → ag2_ o a i → o i = p → cbf_ np pr tg a i p = true ∧ cst_ np pr a i + co2_ np pr i p ≤ cst_ np pr o N ∧ (nv_ np a i * 11 + dv_ np p) * 11 ^ k ≤ nv_ np o N ∧ ag2_ o (ur_ a i p) (i + 1) := fun o ho hoa hop => by
    have c1 := (ho i (by omega)).2
    rw [hop] at c1
    have e1 : ag2_ o (ur_ a i p) (i + 1) := fun j hj => by
      by_cases e : j = i
      · rw [e, ur_s]; exact hop
      · rw [hoa j (by omega)]; exact (if_neg e).symm
    refine ⟨(cbf_c hoa).mp c1, ?_, ?_, e1⟩
    · have := cst_mono (np := np) (pr := pr) (a := o) (n := i + 1) k
      rw [cst_c (i + 1) e1, cst_ur, show i + 1 + k = N by omega] at this
      exact this
    · have := (nv_hi hnp (o := o) (n := i + 1) k fun j hj => (ho j (by omega)).1).1
      rw [nv_c (i + 1) e1, nv_ur, show i + 1 + k = N by omega] at this
      exact this
  unfold stp_
  by_cases hc : cbf_ np pr tg a i p = true
  · by_cases hb : btr_ b (cst_ np pr a i + co2_ np pr i p) = true
    · rw [hc, hb]
      simp only [Bool.and_self, if_true]
      by_cases hk : k = 0
      · subst hk
        rw [if_pos rfl]
        have hNi : N = i + 1 := by omega
        have gv := val_ur ha hp hc
        have n7 : nv_ np (ur_ a i p) N < 19487171 := nv_7 hnp h7 fun j hj => (gv j (by omega)).1
        have wl : ∀ q, b = some q → wt_ np pr (ur_ a i p) N ≤ wt_ np pr q.2 N := fun q hq => by
          rw [hq] at hb
          have hlt : cst_ np pr a i + co2_ np pr i p < q.1 := of_decide_eq_true hb
          have hq1 := (h1 q hq).1.1
          unfold wt_
          rw [hNi, cst_ur, ← hNi]
          omega
        refine ⟨fun q hq => ?_, fun o ho hoa hop => ?_, fun q0 hq0 => ?_⟩
        · cases hq
          refine ⟨⟨by rw [hNi, cst_ur], by rw [hNi]; exact gv⟩, ?_⟩
          show nv_ np (ur_ a i p) N < _
          rw [hNi, nv_ur]
          rw [Nat.pow_zero, Nat.mul_one] at up ⊢
          rw [Nat.mul_one] at up
          omega
        · refine ⟨_, rfl, ?_⟩
          by_cases e : o i = p
          · have := (ext o ho hoa e).2.2.2
            rw [← hNi] at this
            show wt_ np pr (ur_ a i p) N ≤ wt_ np pr o N
            unfold wt_
            rw [cst_c N this, nv_c N this]
            exact Nat.le_refl _
          · obtain ⟨q, hq, hw⟩ := h2 o ho hoa (by omega)
            exact Nat.le_trans (wl q hq) hw
        · obtain ⟨q, hq, hw⟩ := h3 q0 hq0
          exact ⟨_, rfl, Nat.le_trans (wl q hq) hw⟩
      · rw [if_neg hk]
        have gv := val_ur ha hp hc
        obtain ⟨q, r1, r2, r3, r4, r5⟩ := hrec hk (ur_ a i p) b gv (fun q hq => ⟨(h1 q hq).1, by rw [nv_ur]; exact (h1 q hq).2⟩)
        rw [nv_ur] at r3
        refine ⟨fun q' hq' => ?_, fun o ho hoa hop => ?_, fun q0 hq0 => ?_⟩
        · rw [r1] at hq'
          cases hq'
          exact ⟨r2, Nat.lt_of_lt_of_le r3 up⟩
        · refine ⟨q, r1, ?_⟩
          by_cases e : o i = p
          · exact r4 o ho (ext o ho hoa e).2.2.2
          · obtain ⟨q', hq', hw⟩ := h2 o ho hoa (by omega)
            exact Nat.le_trans (r5 q' hq') hw
        · obtain ⟨q', hq', hw⟩ := h3 q0 hq0
          exact ⟨q, r1, Nat.le_trans (r5 q' hq') hw⟩
    · have hn : ¬ (cbf_ np pr tg a i p && btr_ b (cst_ np pr a i + co2_ np pr i p)) = true := by
        rw [Bool.and_eq_true]
        exact fun x => hb x.2
      rw [if_neg hn]
      refine ⟨fun q hq => ⟨(h1 q hq).1, Nat.lt_of_lt_of_le (h1 q hq).2 (Nat.le_trans up2 up)⟩, fun o ho hoa hop => ?_, h3⟩
      by_cases e : o i = p
      · cases hbb : b with
        | none => rw [hbb] at hb; exact absurd rfl hb
        | some q =>
          rw [hbb] at hb
          have hlt : ¬ cst_ np pr a i + co2_ np pr i p < q.1 := fun x => hb (decide_eq_true x)
          obtain ⟨e1, e2, e3, e4⟩ := ext o ho hoa e
          have q1 := h1 q hbb
          have q2 := q1.1.1
          refine ⟨q, rfl, ?_⟩
          unfold wt_
          exact Nat.add_le_add (Nat.mul_le_mul_right 19487171 (show cst_ np pr q.2 N ≤ cst_ np pr o N by omega)) (Nat.le_of_lt (Nat.lt_of_lt_of_le q1.2 e3))
      · exact h2 o ho hoa (by omega)
  · have hn : ¬ (cbf_ np pr tg a i p && btr_ b (cst_ np pr a i + co2_ np pr i p)) = true := by
      rw [Bool.and_eq_true]
      exact fun x => hc x.1
    rw [if_neg hn]
    refine ⟨fun q hq => ⟨(h1 q hq).1, Nat.lt_of_lt_of_le (h1 q hq).2 (Nat.le_trans up2 up)⟩, fun o ho hoa hop => ?_, h3⟩
    by_cases e : o i = p
    · exact absurd (ext o ho hoa e).1 hc
    · exact h2 o ho hoa (by omega)
theorem jq_all {np : Nat} {pr : Nat → Nat → Nat} {tg : Nat → Nat → Bool} {N k i : Nat} {a : Nat → Nat} {b0 : bs_} {f : Nat → bs_ → bs_} (hf : ∀ p b, p ≤ np → jq_ np pr tg N k i a b0 p b → jq_ np pr tg N k i a b0 (p + 1) (f p b)) : ∀ c p b, p + c = np + 1 → jq_ np pr tg N k i a b0 p b → jq_ np pr tg N k i a b0 (np + 1) (ip_ f c p b)
  | 0, p, b, e, h => by rw [← show p = np + 1 by omega]; exact h
  | c + 1, p, b, e, h => jq_all hf c (p + 1) (f p b) (by omega) (hf p b (by omega) h)
theorem sr_min {np : Nat} {pr : Nat → Nat → Nat} {tg : Nat → Nat → Bool} (hnp : np ≤ 10) {N : Nat} (h7 : N ≤ 7) : ∀ (k i : Nat) (a : Nat → Nat) (b : bs_), i + (k + 1) = N → val_ np pr tg a i → (∀ q, b = some q → gq_ np pr tg N q ∧ nv_ np q.2 N < nv_ np a i * 11 ^ (k + 1)) → ∃ q, sr_ np pr tg (k + 1) i a b = some q ∧ gq_ np pr tg N q ∧ nv_ np q.2 N < (nv_ np a i + 1) * 11 ^ (k + 1) ∧ (∀ o, val_ np pr tg o N → ag2_ o a i → wt_ np pr q.2 N ≤ wt_ np pr o N) ∧ (∀ q0, b = some q0 → wt_ np pr q.2 N ≤ wt_ np pr q0.2 N) := by
  intro k
  induction k with
  | zero =>
    intro i a b hi ha hb
    have key := jq_all (np := np) (pr := pr) (tg := tg) (N := N) (k := 0) (i := i) (a := a) (b0 := b) (f := fun p b => stp_ np pr tg 0 i a (sr_ np pr tg 0) p b) (fun p b hp h => jq_step hnp hi h7 ha (fun e => absurd rfl e) hp h) (np + 1) 0 b (by omega) ⟨fun q hq => ⟨(hb q hq).1, by
      have := (hb q hq).2
      have d0 : dvp_ np 0 = dv_ np 0 := if_pos (Nat.zero_le _)
      rw [Nat.pow_succ, Nat.pow_zero, Nat.one_mul] at this
      rw [Nat.pow_zero, Nat.mul_one]
      omega⟩, fun o _ _ h => by omega, fun q0 h => ⟨q0, h, Nat.le_refl _⟩⟩
    have e : sr_ np pr tg (0 + 1) i a b = ip_ (fun p b => stp_ np pr tg 0 i a (sr_ np pr tg 0) p b) (np + 1) 0 b := rfl
    rw [e]
    obtain ⟨k1, k2, k3⟩ := key
    obtain ⟨q, hq, _⟩ := k2 (ur_ a i np) (by
      have := val_ur ha (Nat.le_refl np) (p := np) (cbf_u.mpr (Or.inl rfl))
      rw [show i + 1 = N by omega] at this
      exact this) ag2_ur (by rw [ur_s]; omega)
    refine ⟨q, hq, (k1 q hq).1, ?_, fun o ho hoa => ?_, fun q0 hq0 => ?_⟩
    · have := (k1 q hq).2
      have d11 : dvp_ np (np + 1) = 11 := if_neg (by omega)
      rw [d11, Nat.pow_zero, Nat.mul_one] at this
      rw [Nat.pow_succ, Nat.pow_zero, Nat.one_mul]
      omega
    · obtain ⟨q', hq', hw⟩ := k2 o ho hoa (by have := (ho i (by omega)).1; omega)
      rw [hq] at hq'
      cases hq'
      exact hw
    · obtain ⟨q', hq', hw⟩ := k3 q0 hq0
      rw [hq] at hq'
      cases hq'
      exact hw
  | succ k ih =>
    intro i a b hi ha hb
    have key := jq_all (np := np) (pr := pr) (tg := tg) (N := N) (k := k + 1) (i := i) (a := a) (b0 := b) (f := fun p b => stp_ np pr tg (k + 1) i a (sr_ np pr tg (k + 1)) p b) (fun p b hp h => jq_step hnp hi h7 ha (fun _ a1 b1 h1 h2 => ih (i + 1) a1 b1 (by omega) h1 h2) hp h) (np + 1) 0 b (by omega) ⟨fun q hq => ⟨(hb q hq).1, by
      have := (hb q hq).2
      have d0 : dvp_ np 0 = dv_ np 0 := if_pos (Nat.zero_le _)
      rw [Nat.pow_succ, Nat.mul_comm (11 ^ (k + 1)) 11, ← Nat.mul_assoc] at this
      exact Nat.lt_of_lt_of_le this (mul_r (by omega))⟩, fun o _ _ h => by omega, fun q0 h => ⟨q0, h, Nat.le_refl _⟩⟩
    have e : sr_ np pr tg (k + 1 + 1) i a b = ip_ (fun p b => stp_ np pr tg (k + 1) i a (sr_ np pr tg (k + 1)) p b) (np + 1) 0 b := rfl
    rw [e]
    obtain ⟨k1, k2, k3⟩ := key
    have nob : val_ np pr tg (fun j => if j < i then a j else np) N := fun j hj => by
      show (if j < i then a j else np) ≤ np ∧ cbf_ np pr tg (fun j => if j < i then a j else np) j (if j < i then a j else np) = true
      by_cases e : j < i
      · have := ha j e
        rw [if_pos e]
        exact ⟨this.1, (cbf_c fun l hl => if_pos (by omega)).mpr this.2⟩
      · rw [if_neg e]
        exact ⟨Nat.le_refl _, cbf_u.mpr (Or.inl rfl)⟩
    obtain ⟨q, hq, _⟩ := k2 _ nob (fun j hj => if_pos hj) (by
      show (if i < i then a i else np) < np + 1
      rw [if_neg (by omega)]
      omega)
    refine ⟨q, hq, (k1 q hq).1, ?_, fun o ho hoa => ?_, fun q0 hq0 => ?_⟩
    · have := (k1 q hq).2
      have d11 : dvp_ np (np + 1) = 11 := if_neg (by omega)
      rw [d11] at this
      rw [Nat.pow_succ, Nat.mul_comm (11 ^ (k + 1)) 11, ← Nat.mul_assoc]
      exact Nat.lt_of_lt_of_le this (mul_r (by omega))
    · obtain ⟨q', hq', hw⟩ := k2 o ho hoa (by have := (ho i (by omega)).1; omega)
      rw [hq] at hq'
      cases hq'
      exact hw
    · obtain ⟨q', hq', hw⟩ := k3 q0 hq0
      rw [hq] at hq'
      cases hq'
      exact hw
/-- what is known in the end -/
def kn_ (np : Nat) (pr : Nat → Nat → Nat) (tg : Nat → Nat → Bool) (N : Nat) : Nat × (Nat → Nat) := match sr_ np pr tg N 0 (fun _ => 0) none with
  | none => (0, fun _ => 0)
  | some q => q
theorem kn_ok {np : Nat} {pr : Nat → Nat → Nat} {tg : Nat → Nat → Bool} (hnp : np ≤ 10) {N : Nat} (h7 : N ≤ 7) : gq_ np pr tg N (kn_ np pr tg N) ∧ ∀ o, val_ np pr tg o N → wt_ np pr (kn_ np pr tg N).2 N ≤ wt_ np pr o N := by
  cases N with
  | zero => exact ⟨⟨rfl, fun j hj => absurd hj (Nat.not_lt_zero _)⟩, fun o _ => Nat.le_refl _⟩
  | succ n =>
    obtain ⟨q, r1, r2, r3, r4, r5⟩ := sr_min (pr := pr) (tg := tg) hnp h7 n 0 (fun _ => 0) none (by omega) (fun j hj => absurd hj (Nat.not_lt_zero _)) (fun q h => by cases h)
    have e : kn_ np pr tg (n + 1) = q := by
      unfold kn_
      rw [r1]
    rw [e]
    exact ⟨r2, fun o ho => r4 o ho fun j hj => absurd hj (Nat.not_lt_zero _)⟩
