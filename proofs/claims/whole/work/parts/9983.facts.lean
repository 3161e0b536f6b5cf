/-! ===== what is read: how long it is, and of which kind ===== -/
theorem tyc_app {al : Nat → Bool} : ∀ (X Y : cd_) (t t1 : List Bool), tyc_ al X t = some t1 → tyc_ al (X ++ Y) t = tyc_ al Y t1
  | [], Y, t, t1, h => by
    have h : some t = some t1 := h
    cases h
    rfl
  | q :: X, Y, t, t1, h => by
    obtain ⟨t', a, b, c⟩ := tyc_s h
    show (match tys_ al q t with
      | none => none
      | some t' => if t'.length ≤ 50 then tyc_ al (X ++ Y) t' else none) = _
    rw [a]
    show (if t'.length ≤ 50 then tyc_ al (X ++ Y) t' else none) = _
    rw [if_pos b]
    exact tyc_app X Y t' t1 c
theorem tyc_1 {al : Nat → Bool} {q : Nat × Nat} {t t' : List Bool} (h : tys_ al q t = some t') (hl : t'.length ≤ 50) : tyc_ al [q] t = some t' := by
  show (match tys_ al q t with
      | none => none
      | some t' => if t'.length ≤ 50 then tyc_ al [] t' else none) = _
  rw [h]
  show (if t'.length ≤ 50 then tyc_ al [] t' else none) = _
  rw [if_pos hl]
  rfl
theorem wts_n {ts : List tkn_} (h : wts_ ts) : ∃ t r, ts = t :: r := by
  cases ts with
  | nil => exact absurd h id
  | cons t r => exact ⟨t, r, rfl⟩
theorem runt_t {al : Nat → Bool} {u : Nat} {ts : List tkn_} {q : Nat × Nat} {r : List tkn_} (hw : wts_ ts) (h : runt_ al u ts = .inr (q, r)) : u < 50 ∧ wts_ r ∧ ∀ st : List Bool, st.length < 50 → tyc_ al [q] st = some (false :: st) := by
  cases ts with
  | nil => exact absurd hw id
  | cons t r1 =>
    have h1 := hw.1
    have h2 := hw.2.1
    rw [runt_l] at h
    by_cases c : (t.1 = 2 ∨ 120 ≤ t.1) ∧ u < 50
    · rw [if_pos c] at h
      by_cases c2 : t.1 = 2
      · rw [if_pos c2] at h
        injection h with h
        injection h with e1 e2
        subst e1
        subst e2
        refine ⟨c.2, wts_t hw (by omega), fun st hs => tyc_1 ?_ (by rw [List.length_cons]; omega)⟩
        unfold tys_
        rw [if_pos rfl, if_pos (show t.2.1 ≤ 9999 by omega)]
      · rw [if_neg c2] at h
        by_cases c3 : al (t.1 - 119) = true
        · rw [if_pos c3] at h
          injection h with h
          injection h with e1 e2
          subst e1
          subst e2
          refine ⟨c.2, wts_t hw (by omega), fun st hs => tyc_1 ?_ (by rw [List.length_cons]; omega)⟩
          unfold tys_
          rw [if_neg (show ¬ t.1 - 119 = 0 by omega), if_pos (show t.1 - 119 ≤ 8 by omega), if_pos c3]
        · rw [if_neg c3] at h
          cases h
    · rw [if_neg c] at h
      cases h
def jl_ (j : Nat) : List Bool := if j = 0 then [] else [false]
def j1_ (j : Nat) : Nat := if j = 0 then 0 else 1
theorem jl_0 : jl_ 0 = [] := rfl
theorem jl_n {j : Nat} (h : ¬ j = 0) : jl_ j = [false] := if_neg h
theorem j1_0 : j1_ 0 = 0 := rfl
theorem j1_n {j : Nat} (h : ¬ j = 0) : j1_ j = 1 := if_neg h
theorem jnc_k {j : Nat} : (jnc_ j).length = j1_ j := by
  unfold jnc_ j1_
  by_cases c : j = 0
  · rw [if_pos c, if_pos c]; rfl
  · rw [if_neg c, if_neg c]; rfl
theorem unit_t {al : Nat → Bool} {q : Nat × Nat} (hq : ∀ st : List Bool, st.length < 50 → tyc_ al [q] st = some (false :: st)) {jn : Nat} (hj : jn = 0 ∨ jn = 26 ∨ jn = 27) {R : List Bool} (hR : R.length + j1_ jn < 50) : tyc_ al ([q] ++ jnc_ jn) (jl_ jn ++ R) = some (false :: R) := by
  by_cases c : jn = 0
  · subst c
    rw [jl_0, List.nil_append]
    exact hq R (by unfold j1_ at hR; omega)
  · rw [j1_n c] at hR
    rw [jl_n c, tyc_app _ _ _ _ (hq ([false] ++ R) (by rw [List.length_append, List.length_singleton]; omega))]
    unfold jnc_
    rw [if_neg c]
    refine tyc_1 ?_ (by rw [List.length_cons]; omega)
    rcases hj with e | e | e
    · exact absurd e c
    · subst e; rfl
    · subst e; rfl
theorem cmo_v {k : Nat} : cmo_ k = 23 ∨ cmo_ k = 24 ∨ cmo_ k = 25 := by
  unfold cmo_
  by_cases c : k = 61
  · rw [if_pos c]; omega
  · rw [if_neg c]
    by_cases c2 : k = 60
    · rw [if_pos c2]; omega
    · rw [if_neg c2]; omega
theorem rcp_t {al : Nat → Bool} : ∀ (n cm jn u : Nat) (S : cd_) (ts : List tkn_) (S1 : cd_) (u1 : Nat) (r1 : List tkn_), wts_ ts → (cm = 0 ∨ cm = 23 ∨ cm = 24 ∨ cm = 25) → (jn = 0 ∨ jn = 26 ∨ jn = 27) → rcp_ al n cm jn u S ts = .inr (S1, u1, r1) → ∃ X, S1 = S ++ X ∧ u < u1 ∧ u1 ≤ 50 ∧ wts_ r1 ∧ X.length + 1 = 2 * (u1 - u) + j1_ cm + j1_ jn ∧ (cm = 0 → u + 2 ≤ u1) ∧ ∀ t0 : List Bool, t0.length + j1_ cm + j1_ jn ≤ u → tyc_ al X (jl_ jn ++ (jl_ cm ++ t0)) = some (true :: t0) := by
  intro n
  induction n with
  | zero => intro cm jn u S ts S1 u1 r1 hw h1 h2 h; cases h
  | succ n ih =>
    intro cm jn u S ts S1 u1 r1 hw hc hj h
    cases hr : runt_ al u ts with
    | inl f => rw [rcp_e hr] at h; cases h
    | inr p =>
      obtain ⟨q, r⟩ := p
      obtain ⟨g1, g2, g3⟩ := runt_t hw hr
      obtain ⟨t, r2, rfl⟩ := wts_n g2
      have ht := g2.1
      rw [rcp_s hr] at h
      have hjl : (jl_ jn).length = j1_ jn := by
        unfold jl_ j1_
        by_cases c : jn = 0
        · rw [if_pos c, if_pos c]; rfl
        · rw [if_neg c, if_neg c]; rfl
      have hcl : (jl_ cm).length = j1_ cm := by
        unfold jl_ j1_
        by_cases c : cm = 0
        · rw [if_pos c, if_pos c]; rfl
        · rw [if_neg c, if_neg c]; rfl
      by_cases c1 : t.1 = 43 ∨ t.1 = 45
      · rw [if_pos c1] at h
        have nj : ¬ (if t.1 = 43 then 26 else 27) = 0 ∧ ((if t.1 = 43 then 26 else 27) = 0 ∨ (if t.1 = 43 then 26 else 27) = 26 ∨ (if t.1 = 43 then 26 else 27) = 27) := by
          by_cases e : t.1 = 43
          · rw [if_pos e]; omega
          · rw [if_neg e]; omega
        obtain ⟨X, e1, e2, e3, e4, e5, e6, e7⟩ := ih cm _ (u + 1) _ r2 S1 u1 r1 (wts_t g2 (by omega)) hc nj.2 h
        refine ⟨[q] ++ jnc_ jn ++ X, ?_, by omega, e3, e4, ?_, fun z => ?_, fun t0 h0 => ?_⟩
        · rw [e1]
          simp only [List.append_assoc]
        · rw [j1_n nj.1] at e5
          rw [List.length_append, List.length_append, jnc_k, List.length_singleton]
          omega
        · have := e6 z
          omega
        · rw [tyc_app _ _ _ _ (unit_t g3 hj (R := jl_ cm ++ t0) (by rw [List.length_append, hcl]; omega))]
          have := e7 t0 (by rw [j1_n nj.1]; omega)
          rw [jl_n nj.1] at this
          exact this
      · rw [if_neg c1] at h
        by_cases c2 : cm = 0
        · subst c2
          rw [if_pos rfl] at h
          by_cases c3 : t.1 = 60 ∨ t.1 = 62 ∨ t.1 = 61
          · rw [if_pos c3] at h
            have nc : ¬ cmo_ t.1 = 0 := by
              have := cmo_v (k := t.1)
              omega
            obtain ⟨X, e1, e2, e3, e4, e5, e6, e7⟩ := ih (cmo_ t.1) 0 (u + 1) _ r2 S1 u1 r1 (wts_t g2 (by omega)) (Or.inr cmo_v) (Or.inl rfl) h
            rw [j1_n nc, j1_0] at e5
            refine ⟨[q] ++ jnc_ jn ++ X, ?_, by omega, e3, e4, ?_, fun z => by omega, fun t0 h0 => ?_⟩
            · rw [e1]
              simp only [List.append_assoc]
            · rw [List.length_append, List.length_append, jnc_k, List.length_singleton, j1_0]
              omega
            · rw [j1_0] at h0
              rw [tyc_app _ _ _ _ (unit_t g3 hj (R := jl_ 0 ++ t0) (by rw [jl_0, List.nil_append]; omega))]
              have := e7 t0 (by rw [j1_n nc, j1_0]; omega)
              rw [jl_n nc, jl_0] at this
              exact this
          · rw [if_neg c3] at h
            cases h
        · rw [if_neg c2] at h
          injection h with h
          injection h with e1 e2
          injection e2 with e2 e3
          subst e1
          subst e2
          subst e3
          rw [jl_n c2, j1_n c2]
          refine ⟨[q] ++ jnc_ jn ++ [(cm, 0)], ?_, by omega, by omega, g2, ?_, fun z => absurd z c2, fun t0 h0 => ?_⟩
          · simp only [List.append_assoc]
          · rw [List.length_append, List.length_append, jnc_k, List.length_singleton, List.length_singleton]
            omega
          · rw [tyc_app _ _ _ _ (unit_t g3 hj (R := [false] ++ t0) (by rw [List.length_append, List.length_singleton]; omega))]
            refine tyc_1 ?_ (by rw [List.length_cons]; omega)
            rcases hc with e | e | e | e
            · exact absurd e c2
            · subst e; rfl
            · subst e; rfl
            · subst e; rfl
/-- what a reader of ones or e keeps -/
def rok1_ (al : Nat → Bool) (c : Nat) (one : Nat → cd_ → List tkn_ → ers_) : Prop := ∀ (u : Nat) (S : cd_) (ts : List tkn_) (S1 : cd_) (u1 : Nat) (r : List tkn_), wts_ ts → one u S ts = .inr (S1, u1, r) → ∃ X, S1 = S ++ X ∧ u + 2 ≤ u1 ∧ u1 ≤ 50 ∧ wts_ r ∧ 2 * X.length + 2 ≤ c * (u1 - u) ∧ ∀ t0 : List Bool, t0.length ≤ u → tyc_ al X t0 = some (true :: t0)
def bl2_ (b : Bool) : List Bool := if b = true then [true] else []
def bn2_ (b : Bool) : Nat := if b = true then 1 else 0
theorem bn2_l (b : Bool) : (bl2_ b).length = bn2_ b := by cases b <;> rfl
theorem eit_t {al : Nat → Bool} {c : Nat} {one : Nat → cd_ → List tkn_ → ers_} (h1 : rok1_ al c one) : ∀ (n : Nat) (a b : Bool) (u : Nat) (S : cd_) (ts : List tkn_) (S1 : cd_) (u1 : Nat) (r : List tkn_), wts_ ts → eit_ one n a b u S ts = .inr (S1, u1, r) → ∃ X, S1 = S ++ X ∧ u + 2 ≤ u1 ∧ u1 ≤ 50 ∧ wts_ r ∧ 2 * X.length + 2 ≤ c * (u1 - u) + 2 * bn2_ a + 2 * bn2_ b ∧ ∀ t0 : List Bool, t0.length + bn2_ a + bn2_ b ≤ u → tyc_ al X (bl2_ a ++ (bl2_ b ++ t0)) = some (true :: t0) := by
  intro n
  induction n with
  | zero => intro a b u S ts S1 u1 r hw h; cases h
  | succ n ih =>
    intro a b u S ts S1 u1 r hw h
    cases hr : one u S ts with
    | inl f => rw [eit_e hr] at h; cases h
    | inr p =>
      obtain ⟨S2, u2, r2⟩ := p
      obtain ⟨X2, k1, k2, k3, k4, k5, k6⟩ := h1 u S ts S2 u2 r2 hw hr
      obtain ⟨t, r3, rfl⟩ := wts_n k4
      have ht := k4.1
      rw [eit_s hr] at h
      have ja : ∀ t0 : List Bool, t0.length + bn2_ a + bn2_ b ≤ u → tyc_ al (X2 ++ (if a = true then [(22, 0)] else [])) (bl2_ a ++ (bl2_ b ++ t0)) = some (true :: (bl2_ b ++ t0)) := by
        intro t0 h0
        have hl : (bl2_ a ++ (bl2_ b ++ t0)).length ≤ u := by rw [List.length_append, List.length_append, bn2_l, bn2_l]; omega
        rw [tyc_app _ _ _ _ (k6 _ hl)]
        cases a with
        | false => rfl
        | true =>
          rw [if_pos rfl]
          refine tyc_1 ?_ ?_
          · rfl
          · rw [List.length_append, List.length_append] at hl
            have : (bl2_ true).length = 1 := rfl
            rw [List.length_cons, List.length_append]
            omega
      have la : (X2 ++ (if a = true then [((22 : Nat), (0 : Nat))] else [])).length = X2.length + bn2_ a := by
        rw [List.length_append]
        cases a <;> rfl
      have jb : ∀ t0 : List Bool, t0.length + bn2_ a + bn2_ b ≤ u → tyc_ al (X2 ++ (if a = true then [(22, 0)] else []) ++ (if b = true then [(21, 0)] else [])) (bl2_ a ++ (bl2_ b ++ t0)) = some (true :: t0) := by
        intro t0 h0
        rw [tyc_app _ _ _ _ (ja t0 h0)]
        cases b with
        | false => rfl
        | true =>
          rw [if_pos rfl]
          refine tyc_1 ?_ ?_
          · rfl
          · rw [List.length_cons]
            omega
      have lb : (X2 ++ (if a = true then [((22 : Nat), (0 : Nat))] else []) ++ (if b = true then [((21 : Nat), (0 : Nat))] else [])).length = X2.length + bn2_ a + bn2_ b := by
        rw [List.length_append, la]
        cases b <;> rfl
      by_cases d1 : t.1 = 113
      · rw [if_pos d1] at h
        obtain ⟨X, e1, e2, e3, e4, e5, e6⟩ := ih true b u2 _ r3 S1 u1 r (wts_t k4 (by omega)) h
        have em : c * (u1 - u) = c * (u2 - u) + c * (u1 - u2) := by
          rw [← Nat.mul_add, show u2 - u + (u1 - u2) = u1 - u by omega]
        refine ⟨X2 ++ (if a = true then [(22, 0)] else []) ++ X, ?_, by omega, e3, e4, ?_, fun t0 h0 => ?_⟩
        · rw [e1, k1]
          simp only [List.append_assoc]
        · rw [List.length_append, la]
          have : bn2_ true = 1 := rfl
          omega
        · rw [tyc_app _ _ _ _ (ja t0 h0)]
          exact e6 t0 (by have : bn2_ true = 1 := rfl; omega)
      · rw [if_neg d1] at h
        by_cases d2 : t.1 = 112
        · rw [if_pos d2] at h
          obtain ⟨X, e1, e2, e3, e4, e5, e6⟩ := ih false true u2 _ r3 S1 u1 r (wts_t k4 (by omega)) h
          have em : c * (u1 - u) = c * (u2 - u) + c * (u1 - u2) := by
            rw [← Nat.mul_add, show u2 - u + (u1 - u2) = u1 - u by omega]
          have bt : bn2_ true = 1 := rfl
          have bf : bn2_ false = 0 := rfl
          refine ⟨X2 ++ (if a = true then [(22, 0)] else []) ++ (if b = true then [(21, 0)] else []) ++ X, ?_, by omega, e3, e4, ?_, fun t0 h0 => ?_⟩
          · rw [e1, k1]
            simp only [List.append_assoc]
          · rw [List.length_append, lb]
            omega
          · rw [tyc_app _ _ _ _ (jb t0 h0)]
            exact e6 t0 (by omega)
        · rw [if_neg d2] at h
          injection h with h
          injection h with e1 e2
          injection e2 with e2 e3
          subst e1
          subst e2
          subst e3
          refine ⟨X2 ++ (if a = true then [(22, 0)] else []) ++ (if b = true then [(21, 0)] else []), ?_, k2, k3, k4, ?_, fun t0 h0 => jb t0 h0⟩
          · rw [k1]
            simp only [List.append_assoc]
          · rw [lb]
            omega
theorem rne_c {al : Nat → Bool} {c u : Nat} (h4 : 4 ≤ c) {S : cd_} {ts : List tkn_} {S1 : cd_} {u1 : Nat} {r : List tkn_} (hw : wts_ ts) (h : rcp_ al 51 0 0 u S ts = .inr (S1, u1, r)) : ∃ X, S1 = S ++ X ∧ u + 2 ≤ u1 ∧ u1 ≤ 50 ∧ wts_ r ∧ 2 * X.length + 2 ≤ c * (u1 - u) ∧ ∀ t0 : List Bool, t0.length ≤ u → tyc_ al X t0 = some (true :: t0) := by
  obtain ⟨X, e1, e2, e3, e4, e5, e6, e7⟩ := rcp_t 51 0 0 u S ts S1 u1 r hw (Or.inl rfl) (Or.inl rfl) h
  rw [j1_0] at e5
  refine ⟨X, e1, e6 rfl, e3, e4, ?_, fun t0 h0 => e7 t0 (by rw [j1_0]; omega)⟩
  have := Nat.mul_le_mul_right (u1 - u) h4
  omega
theorem rne_t {al : Nat → Bool} : ∀ d, rok1_ al (4 + d) (rne_ al d) := by
  intro d
  induction d with
  | zero =>
    intro u S ts S1 u1 r hw h
    obtain ⟨t, r1, rfl⟩ := wts_n hw
    rw [rne_0] at h
    by_cases c : t.1 = 114 ∨ t.1 = 40
    · rw [if_pos c] at h; cases h
    · rw [if_neg c] at h
      exact rne_c (by omega) hw h
  | succ d ih =>
    intro u S ts S1 u1 r hw h
    obtain ⟨t, r1, rfl⟩ := wts_n hw
    rw [rne_s] at h
    have em : (4 + (d + 1)) * (u1 - u) = (4 + d) * (u1 - u) + (u1 - u) := by
      rw [← Nat.add_assoc, Nat.add_mul, Nat.one_mul]
    by_cases c1 : t.1 = 114
    · rw [if_pos c1] at h
      obtain ⟨⟨S2, u2, r2⟩, a1, a2⟩ := sbd_i h
      injection a2 with a2
      injection a2 with b1 b2
      injection b2 with b2 b3
      subst b1
      subst b2
      subst b3
      obtain ⟨X, e1, e2, e3, e4, e5, e6⟩ := ih u S r1 S2 u2 r2 (wts_t hw (by omega)) a1
      refine ⟨X ++ [(20, 0)], ?_, e2, e3, e4, ?_, fun t0 h0 => ?_⟩
      · rw [e1]
        simp only [List.append_assoc]
      · rw [List.length_append, List.length_singleton]
        omega
      · rw [tyc_app _ _ _ _ (e6 t0 h0)]
        exact tyc_1 rfl (by rw [List.length_cons]; omega)
    · rw [if_neg c1] at h
      by_cases c2 : t.1 = 40
      · rw [if_pos c2] at h
        obtain ⟨⟨S2, u2, r2⟩, a1, a2⟩ := sbd_i h
        obtain ⟨r3, a3, a4⟩ := sbd_i a2
        injection a4 with a4
        injection a4 with b1 b2
        injection b2 with b2 b3
        subst b1
        subst b2
        subst b3
        obtain ⟨X, e1, e2, e3, e4, e5, e6⟩ := eit_t ih 51 false false u S r1 S2 u2 r2 (wts_t hw (by omega)) a1
        have bf : bn2_ false = 0 := rfl
        obtain ⟨t3, r4, rfl⟩ := wts_n e4
        have w3 : wts_ r3 := by
          rw [tqk_l] at a3
          by_cases c3 : t3.1 = 41
          · rw [if_pos c3] at a3
            injection a3 with a3
            subst a3
            exact wts_t e4 (by omega)
          · rw [if_neg c3] at a3; cases a3
        have em : (4 + (d + 1)) * (u2 - u) = (4 + d) * (u2 - u) + (u2 - u) := em
        refine ⟨X, e1, e2, e3, w3, ?_, fun t0 h0 => e6 t0 (by omega)⟩
        show 2 * X.length + 2 ≤ (4 + (d + 1)) * (u2 - u)
        omega
      · rw [if_neg c2] at h
        exact rne_c (by omega) hw h
theorem whn_t {al : Nat → Bool} {u : Nat} {ts : List tkn_} {S1 : cd_} {u1 : Nat} {r : List tkn_} (hw : wts_ ts) (h : whn_ al u ts = .inr (S1, u1, r)) : u < u1 ∧ u1 ≤ 50 ∧ wts_ r ∧ 2 * S1.length + 2 ≤ 11 * (u1 - u) ∧ tyc_ al S1 [] = some [true] := by
  obtain ⟨r1, a1, a2⟩ := sbd_i h
  have bf : bn2_ false = 0 := rfl
  obtain ⟨t, r0, rfl⟩ := wts_n hw
  have w1 : wts_ r1 := by
    rw [tqk_l] at a1
    by_cases c3 : t.1 = 111
    · rw [if_pos c3] at a1
      injection a1 with a1
      subst a1
      exact wts_t hw (by omega)
    · rw [if_neg c3] at a1; cases a1
  obtain ⟨X, e1, e2, e3, e4, e5, e6⟩ := eit_t (rne_t 7) 51 false false u [] r1 S1 u1 r w1 a2
  rw [List.nil_append] at e1
  subst e1
  exact ⟨by omega, e3, e4, by omega, e6 [] (by rw [bf]; exact Nat.zero_le _)⟩
