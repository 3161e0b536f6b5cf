/-! ===== how like two rows of signs are ===== -/
def lo_ (c : Int32) : Int32 := if c = 111 then 48 else if c = 105 then 49 else if c = 108 then 49 else if c = 98 then 56 else if c = 115 then 53 else if c = 122 then 50 else if c = 118 then 117 else c
theorem lo_m (c : Int32) (m : fm_) : f_X12_looks c m = some (lo_ c, m) := by
  unfold f_X12_looks lo_
  by_cases h111 : c = 111
  · rw [if_pos h111, if_pos h111]
  rw [if_neg h111, if_neg h111]
  by_cases h105 : c = 105
  · rw [if_pos h105, if_pos h105]
  rw [if_neg h105, if_neg h105]
  by_cases h108 : c = 108
  · rw [if_pos h108, if_pos h108]
  rw [if_neg h108, if_neg h108]
  by_cases h98 : c = 98
  · rw [if_pos h98, if_pos h98]
  rw [if_neg h98, if_neg h98]
  by_cases h115 : c = 115
  · rw [if_pos h115, if_pos h115]
  rw [if_neg h115, if_neg h115]
  by_cases h122 : c = 122
  · rw [if_pos h122, if_pos h122]
  rw [if_neg h122, if_neg h122]
  by_cases h118 : c = 118
  · rw [if_pos h118, if_pos h118]
  rw [if_neg h118, if_neg h118]
set_option maxRecDepth 100000 in
theorem lo_c (c : Int32) (m : fm_) : f_X7_look c m = some (lo_ c, m) := by
  by_cases h98 : c = 98
  · subst h98; rfl
  by_cases h99 : c = 99
  · subst h99; rfl
  by_cases h100 : c = 100
  · subst h100; rfl
  by_cases h101 : c = 101
  · subst h101; rfl
  by_cases h102 : c = 102
  · subst h102; rfl
  by_cases h103 : c = 103
  · subst h103; rfl
  by_cases h104 : c = 104
  · subst h104; rfl
  by_cases h105 : c = 105
  · subst h105; rfl
  by_cases h106 : c = 106
  · subst h106; rfl
  by_cases h107 : c = 107
  · subst h107; rfl
  by_cases h108 : c = 108
  · subst h108; rfl
  by_cases h109 : c = 109
  · subst h109; rfl
  by_cases h110 : c = 110
  · subst h110; rfl
  by_cases h111 : c = 111
  · subst h111; rfl
  by_cases h112 : c = 112
  · subst h112; rfl
  by_cases h113 : c = 113
  · subst h113; rfl
  by_cases h114 : c = 114
  · subst h114; rfl
  by_cases h115 : c = 115
  · subst h115; rfl
  by_cases h116 : c = 116
  · subst h116; rfl
  by_cases h117 : c = 117
  · subst h117; rfl
  by_cases h118 : c = 118
  · subst h118; rfl
  by_cases h119 : c = 119
  · subst h119; rfl
  by_cases h120 : c = 120
  · subst h120; rfl
  by_cases h121 : c = 121
  · subst h121; rfl
  by_cases h122 : c = 122
  · subst h122; rfl
  unfold f_X7_look lo_
  rw [if_neg h98, if_neg h99, if_neg h100, if_neg h101, if_neg h102, if_neg h103, if_neg h104, if_neg h105, if_neg h106, if_neg h107, if_neg h108, if_neg h109, if_neg h110, if_neg h111, if_neg h112, if_neg h113, if_neg h114, if_neg h115, if_neg h116, if_neg h117, if_neg h118, if_neg h119, if_neg h120, if_neg h121, if_neg h122, if_neg h111, if_neg h105, if_neg h108, if_neg h98, if_neg h115, if_neg h122, if_neg h118]
def co_ (a b : Int32) : Nat := if a = b then 0 else if a = 63 then 1 else if lo_ a = lo_ b then 1 else 3
/-- the sum of k places from i on -/
def cs_ (c : Nat → Nat) : Nat → Nat → Nat
  | 0, _ => 0
  | k + 1, i => c i + cs_ c k (i + 1)
theorem cs_s (c : Nat → Nat) (k i : Nat) : cs_ c (k + 1) i = c i + cs_ c k (i + 1) := rfl
def fi_ (t : Nat) : Int32 := if t ≤ 2 then nI t else 9
theorem fi_9 {t : Nat} (h : 3 ≤ t) : fi_ t = 9 := if_neg (by omega)
theorem lk_c (x y : Int64) (m : fm_) : ∀ (k i p : Nat), i + k = 6 → p ≤ i → f_X7_likeness_6 x y (nI p) (nI i) m = some (fi_ (p + cs_ (fun j => co_ (sg_ x j) (sg_ y j)) k i), m) := by
  intro k
  induction k with
  | zero =>
    intro i p e hp
    rw [e_X7_likeness_6, if_pos (show (6 : Int32) ≤ nI i from nI_le (a := 6) (by omega) (by omega))]
    show _ = some (fi_ p, m)
    unfold fi_
    by_cases h2 : p ≤ 2
    · rw [if_pos h2, if_neg (show ¬ (2 : Int32) < nI p from nI_nlt (a := 2) h2 (by omega))]
    · rw [if_neg h2, if_pos (show (2 : Int32) < nI p from nI_lt (a := 2) (by omega) (by omega))]
  | succ k ih =>
    intro i p e hp
    have hs : ∀ z : Int64, f_X7_signAt z (nI i) m = some (sg_ z i, m) := fun _ => rfl
    rw [e_X7_likeness_6, if_neg (show ¬ (6 : Int32) ≤ nI i from nI_ge (b := 6) (by omega) (by omega)), hs, cs_s]
    simp only [Option.bind]
    rw [hs]
    simp only
    rw [lo_c]
    simp only
    rw [lo_c]
    simp only [nI_1]
    have i0 := ih (i + 1) p (by omega) (by omega)
    have i1 := ih (i + 1) (p + 1) (by omega) (by omega)
    generalize cs_ (fun j => co_ (sg_ x j) (sg_ y j)) k (i + 1) = z at *
    generalize sg_ x i = a
    generalize sg_ y i = b
    unfold co_
    by_cases h1 : a = b
    · rw [if_pos h1, if_pos h1, i0, Nat.zero_add]
    · rw [if_neg h1, if_neg h1]
      by_cases h2 : a = 63
      · rw [if_pos h2, if_pos h2, i1, Nat.add_assoc]
      · rw [if_neg h2, if_neg h2]
        by_cases h3 : lo_ a = lo_ b
        · rw [if_pos h3, if_pos h3, i1, Nat.add_assoc]
        · rw [if_neg h3, if_neg h3, fi_9 (by omega)]
/-- the price, or 9 -/
def lk_ (x y : Int64) : Int32 := fi_ (cs_ (fun j => co_ (sg_ x j) (sg_ y j)) 6 0)
theorem lk_all (x y : Int64) (m : fm_) : f_X7_likeness x y m = some (lk_ x y, m) := by
  have := lk_c x y m 6 0 0 rfl (Nat.le_refl _)
  rw [Nat.zero_add] at this
  exact this
theorem lk_m {m : fm_} {r p : Nat} (hr : r < 200) (hp : p < 10) {x y : Int64} (hx : gl_ m 139 r = x) (hy : gl_ m 138 p = y) : ∀ (k i v : Nat), i + k = 6 → v ≤ 3 * i → f_X12_price_5 (nI r) (nI p) (nI v) (nI i) m = some (fi_ (v + cs_ (fun j => co_ (sg_ x (5 - j)) (sg_ y (5 - j))) k i), m) := by
  intro k
  induction k with
  | zero =>
    intro i v e hv
    rw [e_X12_price_5, if_pos (show (6 : Int32) ≤ nI i from nI_le (a := 6) (by omega) (by omega))]
    show _ = some (fi_ v, m)
    unfold fi_
    by_cases h2 : v ≤ 2
    · rw [if_pos h2, if_pos (show nI v ≤ (2 : Int32) from nI_le (b := 2) h2 (by omega))]
    · rw [if_neg h2, if_neg (show ¬ nI v ≤ (2 : Int32) from nI_ge (a := 2) (by omega) (by omega))]
  | succ k ih =>
    intro i v e hv
    rw [e_X12_price_5, if_neg (show ¬ (6 : Int32) ≤ nI i from nI_ge (b := 6) (by omega) (by omega)), gd_t (ix_i (vp_in_nI hr (by omega))), nI_clamp (show r < 2 ^ 31 by omega), hx, sg_m x (by omega), cs_s]
    simp only [Option.bind]
    rw [gd_t (ix_i (vp_in_nI hp (by omega))), nI_clamp (show p < 2 ^ 31 by omega), hy, sg_m y (by omega)]
    simp only
    rw [lo_m]
    simp only
    rw [lo_m]
    have e3 : nI v + 3 = nI (v + 3) := by rw [show (3 : Int32) = nI 3 from rfl, nI_add]
    have e0 : nI v + 0 = nI v := Int32.add_zero _
    simp only [nI_1, e3, e0]
    have i0 := ih (i + 1) v (by omega) (by omega)
    have i1 := ih (i + 1) (v + 1) (by omega) (by omega)
    have i3 := ih (i + 1) (v + 3) (by omega) (by omega)
    generalize cs_ (fun j => co_ (sg_ x (5 - j)) (sg_ y (5 - j))) k (i + 1) = z at *
    generalize sg_ x (5 - i) = a
    generalize sg_ y (5 - i) = b
    unfold co_
    by_cases h1 : a = b
    · rw [if_pos h1, if_pos h1, i0, Nat.zero_add]
    · rw [if_neg h1, if_neg h1]
      by_cases h2 : a = 63
      · rw [if_pos h2, if_pos h2, i1, Nat.add_assoc]
      · rw [if_neg h2, if_neg h2]
        by_cases h3 : lo_ a = lo_ b
        · rw [if_pos h3, if_pos h3, i1, Nat.add_assoc]
        · rw [if_neg h3, if_neg h3, i3, Nat.add_assoc]
theorem cs_rev (c : Nat → Nat) : cs_ (fun j => c (5 - j)) 6 0 = cs_ c 6 0 := by
  show c 5 + (c 4 + (c 3 + (c 2 + (c 1 + (c 0 + 0))))) = c 0 + (c 1 + (c 2 + (c 3 + (c 4 + (c 5 + 0)))))
  omega
theorem lk_mall {m : fm_} {r p : Nat} (hr : r < 200) (hp : p < 10) {x y : Int64} (hx : gl_ m 139 r = x) (hy : gl_ m 138 p = y) : f_X12_price (nI r) (nI p) m = some (lk_ x y, m) := by
  have := lk_m hr hp hx hy 6 0 0 rfl (Nat.le_refl _)
  rw [Nat.zero_add, cs_rev (fun j => co_ (sg_ x j) (sg_ y j))] at this
  exact this
