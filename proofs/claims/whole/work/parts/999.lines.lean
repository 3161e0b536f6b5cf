/-! ===== lines of orders ===== -/
abbrev ors_ : Type := Sum (Nat × Nat) (od_ × Nat × List tkn_)
def lcl_ (d : od_) (u : Nat) (r : List tkn_) : ors_ := sbd_ (tqn_ 0 9 r) fun q => sbd_ (whn_ alc_ u q.2) fun w => sbd_ (tqk_ 59 w.2.2) fun r1 => .inr ((d.1, d.2.1, d.2.2.1, d.2.2.2.1, d.2.2.2.2.1 ++ [(q.1, w.1)], d.2.2.2.2.2.1, d.2.2.2.2.2.2), w.2.1, r1)
def chq_ (ch : Nat → Option Nat) : List tkn_ → Sum (Nat × Nat) (Nat × List tkn_)
  | [] => .inl (1, 0)
  | t :: r => if t.1 = 2 ∧ t.2.1 < 10 ∧ ¬ ch t.2.1 = none then .inl (flt_ 2 t) else tqn_ 0 9 (t :: r)
theorem chq_l {ch : Nat → Option Nat} {t : tkn_} {r : List tkn_} : chq_ ch (t :: r) = if t.1 = 2 ∧ t.2.1 < 10 ∧ ¬ ch t.2.1 = none then .inl (flt_ 2 t) else tqn_ 0 9 (t :: r) := rfl
def lch_ (d : od_) (u : Nat) (r : List tkn_) : ors_ := sbd_ (chq_ d.2.1 r) fun q => sbd_ (tqk_ 106 q.2) fun r1 => sbd_ (tqn_ 0 999 r1) fun v => sbd_ (tqk_ 59 v.2) fun r2 => .inr ((d.1, (fun k => if k = q.1 then some v.1 else d.2.1 k), d.2.2.1, d.2.2.2.1, d.2.2.2.2.1, d.2.2.2.2.2.1, d.2.2.2.2.2.2), u, r2)
def lhr_ (d : od_) (u : Nat) (r : List tkn_) : ors_ := sbd_ (tqn_ 0 1440 r) fun q => sbd_ (tqk_ 104 q.2) fun r1 => sbd_ (tqn_ (q.1 + 1) 1440 r1) fun v => sbd_ (tqk_ 59 v.2) fun r2 => .inr ((d.1, d.2.1, some (q.1, v.1), d.2.2.2.1, d.2.2.2.2.1, d.2.2.2.2.2.1, d.2.2.2.2.2.2), u, r2)
def lfr_ (d : od_) (u : Nat) (r : List tkn_) : ors_ := sbd_ (whn_ alf_ u r) fun w => sbd_ (tqk_ 59 w.2.2) fun r1 => .inr ((d.1, d.2.1, d.2.2.1, d.2.2.2.1, d.2.2.2.2.1, some w.1, d.2.2.2.2.2.2), w.2.1, r1)
def lgr_ (d : od_) (u : Nat) (r : List tkn_) : ors_ := sbd_ (tqn_ 0 20 r) fun q => sbd_ (tqk_ 59 q.2) fun r1 => .inr ((d.1, d.2.1, d.2.2.1, some q.1, d.2.2.2.2.1, d.2.2.2.2.2.1, d.2.2.2.2.2.2), u, r1)
def lap_ (d : od_) (u : Nat) (r : List tkn_) : ors_ := sbd_ (whn_ ala_ u r) fun w => sbd_ (tqk_ 59 w.2.2) fun r1 => .inr ((d.1, d.2.1, d.2.2.1, d.2.2.2.1, d.2.2.2.2.1, d.2.2.2.2.2.1, some w.1), w.2.1, r1)
def olin_ (d : od_) (u : Nat) : List tkn_ → ors_
  | [] => .inl (1, 0)
  | t :: r => if t.1 = 127 ∧ d.2.2.2.2.1.length < 6 then lcl_ d u r else if t.1 = 105 then lch_ d u r else if t.1 = 107 ∧ d.2.2.1 = none then lhr_ d u r else if t.1 = 108 ∧ d.2.2.2.2.2.1 = none then lfr_ d u r else if t.1 = 109 ∧ d.2.2.2.1 = none then lgr_ d u r else if t.1 = 110 ∧ d.2.2.2.2.2.2 = none then lap_ d u r else .inl (flt_ 2 t)
theorem olin_l {d : od_} {u : Nat} {t : tkn_} {r : List tkn_} : olin_ d u (t :: r) = if t.1 = 127 ∧ d.2.2.2.2.1.length < 6 then lcl_ d u r else if t.1 = 105 then lch_ d u r else if t.1 = 107 ∧ d.2.2.1 = none then lhr_ d u r else if t.1 = 108 ∧ d.2.2.2.2.2.1 = none then lfr_ d u r else if t.1 = 109 ∧ d.2.2.2.1 = none then lgr_ d u r else if t.1 = 110 ∧ d.2.2.2.2.2.2 = none then lap_ d u r else .inl (flt_ 2 t) := rfl
def ols_ : Nat → od_ → Nat → List tkn_ → Sum (Nat × Nat) od_
  | 0, _, _, _ => .inl (1, 0)
  | n + 1, d, u, ts => match ts with
    | [] => .inl (1, 0)
    | t :: r => if t.1 = 0 then .inr d else sbd_ (olin_ d u (t :: r)) fun q => ols_ n q.1 q.2.1 q.2.2
theorem ols_s {n : Nat} {d : od_} {u : Nat} {t : tkn_} {r : List tkn_} : ols_ (n + 1) d u (t :: r) = if t.1 = 0 then .inr d else sbd_ (olin_ d u (t :: r)) fun q => ols_ n q.1 q.2.1 q.2.2 := rfl
/-! what the lines keep -/
theorem sbd_eit {al : Nat → Bool} {u : Nat} {ts r : List tkn_} (h : tqk_ 111 ts = .inr r) : (sbd_ (whn_ al u ts) fun w => sbd_ (tqk_ 59 w.2.2) fun r1 => (.inr (w.1, w.2.1, r1) : ers_)) = eln_ al u r := by
  unfold whn_ eln_
  rw [h]
  rfl
theorem runt_n {al : Nat → Bool} {u : Nat} {ts : List tkn_} {q : Nat × Nat} {r : List tkn_} (h : runt_ al u ts = .inr (q, r)) : r.length ≤ ts.length := by
  cases ts with
  | nil => cases h
  | cons t r1 =>
    rw [runt_l] at h
    by_cases c : (t.1 = 2 ∨ 120 ≤ t.1) ∧ u < 50
    · rw [if_pos c] at h
      by_cases c2 : t.1 = 2
      · rw [if_pos c2] at h
        injection h with h
        injection h with e1 e2
        subst e2
        rw [List.length_cons]; omega
      · rw [if_neg c2] at h
        by_cases c3 : al (t.1 - 119) = true
        · rw [if_pos c3] at h
          injection h with h
          injection h with e1 e2
          subst e2
          rw [List.length_cons]; omega
        · rw [if_neg c3] at h
          cases h
    · rw [if_neg c] at h
      cases h
theorem rcp_n {al : Nat → Bool} : ∀ (n cm jn u : Nat) (S : cd_) (ts : List tkn_) (S1 : cd_) (u1 : Nat) (r1 : List tkn_), rcp_ al n cm jn u S ts = .inr (S1, u1, r1) → r1.length ≤ ts.length := by
  intro n
  induction n with
  | zero => intro cm jn u S ts S1 u1 r1 h; cases h
  | succ n ih =>
    intro cm jn u S ts S1 u1 r1 h
    cases hr : runt_ al u ts with
    | inl f => rw [rcp_e hr] at h; cases h
    | inr p =>
      obtain ⟨q, r⟩ := p
      have g := runt_n hr
      cases r with
      | nil =>
        have h : sbd_ (runt_ al u ts) _ = _ := h
        rw [hr] at h
        cases h
      | cons t r2 =>
        rw [List.length_cons] at g
        rw [rcp_s hr] at h
        by_cases c1 : t.1 = 43 ∨ t.1 = 45
        · rw [if_pos c1] at h
          have := ih _ _ _ _ _ _ _ _ h
          omega
        · rw [if_neg c1] at h
          by_cases c2 : cm = 0
          · rw [if_pos c2] at h
            by_cases c3 : t.1 = 60 ∨ t.1 = 62 ∨ t.1 = 61
            · rw [if_pos c3] at h
              have := ih _ _ _ _ _ _ _ _ h
              omega
            · rw [if_neg c3] at h
              cases h
          · rw [if_neg c2] at h
            injection h with h
            injection h with e1 e2
            injection e2 with e2 e3
            subst e3
            rw [List.length_cons]
            exact g
theorem eit_n {one : Nat → cd_ → List tkn_ → ers_} (h1 : ∀ (u : Nat) (S : cd_) (ts : List tkn_) (S1 : cd_) (u1 : Nat) (r : List tkn_), one u S ts = .inr (S1, u1, r) → r.length ≤ ts.length) : ∀ (n : Nat) (a o : Bool) (u : Nat) (S : cd_) (ts : List tkn_) (S1 : cd_) (u1 : Nat) (r : List tkn_), eit_ one n a o u S ts = .inr (S1, u1, r) → r.length ≤ ts.length := by
  intro n
  induction n with
  | zero => intro a o u S ts S1 u1 r h; cases h
  | succ n ih =>
    intro a o u S ts S1 u1 r h
    cases hr : one u S ts with
    | inl f => rw [eit_e hr] at h; cases h
    | inr p =>
      obtain ⟨S2, u2, r2⟩ := p
      have g := h1 _ _ _ _ _ _ hr
      cases r2 with
      | nil =>
        have h : sbd_ (one u S ts) _ = _ := h
        rw [hr] at h
        cases h
      | cons t2 r3 =>
        rw [List.length_cons] at g
        rw [eit_s hr] at h
        by_cases c1 : t2.1 = 113
        · rw [if_pos c1] at h
          have := ih _ _ _ _ _ _ _ _ h
          omega
        · rw [if_neg c1] at h
          by_cases c2 : t2.1 = 112
          · rw [if_pos c2] at h
            have := ih _ _ _ _ _ _ _ _ h
            omega
          · rw [if_neg c2] at h
            injection h with h
            injection h with e1 e2
            injection e2 with e2 e3
            subst e3
            rw [List.length_cons]
            exact g
theorem tqk_n {k : Nat} {ts r : List tkn_} (h : tqk_ k ts = .inr r) : r.length ≤ ts.length := by
  cases ts with
  | nil => cases h
  | cons t r1 =>
    rw [tqk_l] at h
    by_cases c : t.1 = k
    · rw [if_pos c] at h
      injection h with h
      subst h
      rw [List.length_cons]; omega
    · rw [if_neg c] at h; cases h
theorem rne_n {al : Nat → Bool} : ∀ (d u : Nat) (S : cd_) (ts : List tkn_) (S1 : cd_) (u1 : Nat) (r : List tkn_), rne_ al d u S ts = .inr (S1, u1, r) → r.length ≤ ts.length := by
  intro d
  induction d with
  | zero =>
    intro u S ts S1 u1 r h
    cases ts with
    | nil => cases h
    | cons t r1 =>
      rw [rne_0] at h
      by_cases c : t.1 = 114 ∨ t.1 = 40
      · rw [if_pos c] at h; cases h
      · rw [if_neg c] at h
        exact rcp_n _ _ _ _ _ _ _ _ _ h
  | succ d ih =>
    intro u S ts S1 u1 r h
    cases ts with
    | nil => cases h
    | cons t r1 =>
      rw [rne_s] at h
      rw [List.length_cons]
      by_cases c1 : t.1 = 114
      · rw [if_pos c1] at h
        obtain ⟨⟨S2, u2, r2⟩, a1, a2⟩ := sbd_i h
        injection a2 with a2
        injection a2 with b1 b2
        injection b2 with b2 b3
        have := ih _ _ _ _ _ _ a1
        have b3 : r2 = r := b3
        subst b3
        omega
      · rw [if_neg c1] at h
        by_cases c2 : t.1 = 40
        · rw [if_pos c2] at h
          obtain ⟨⟨S2, u2, r2⟩, a1, a2⟩ := sbd_i h
          obtain ⟨r3, a3, a4⟩ := sbd_i a2
          injection a4 with a4
          injection a4 with b1 b2
          injection b2 with b2 b3
          have b3 : r3 = r := b3
          subst b3
          have := eit_n ih _ _ _ _ _ _ _ _ _ a1
          have : r3.length ≤ r2.length := tqk_n a3
          omega
        · rw [if_neg c2] at h
          have := rcp_n _ _ _ _ _ _ _ _ _ h
          rw [List.length_cons] at this
          exact this
theorem whn_len {al : Nat → Bool} {u : Nat} {r0 r1 : List tkn_} {S1 : cd_} {u1 : Nat} (_ : wts_ r0) (h : whn_ al u r0 = .inr (S1, u1, r1)) : r1.length ≤ r0.length := by
  obtain ⟨r2, a1, a2⟩ := sbd_i h
  have := tqk_n a1
  have := eit_n (rne_n 7) _ _ _ _ _ _ _ _ _ a2
  omega
theorem chq_j {ch : Nat → Option Nat} {ts : List tkn_} {q : Nat × List tkn_} (h : chq_ ch ts = .inr q) : tqn_ 0 9 ts = .inr q := by
  cases ts with
  | nil => cases h
  | cons t r =>
    rw [chq_l] at h
    by_cases c : t.1 = 2 ∧ t.2.1 < 10 ∧ ¬ ch t.2.1 = none
    · rw [if_pos c] at h; cases h
    · rw [if_neg c] at h; exact h
theorem olin_j {d : od_} (hk : ook_ d) (hd : ∀ k v, d.2.1 k = some v → v ≤ 999) {u : Nat} (hu : u ≤ 50) {ts : List tkn_} (hw : wts_ ts) {q : od_ × Nat × List tkn_} (h : olin_ d u ts = .inr q) : ook_ q.1 ∧ (∀ k v, q.1.2.1 k = some v → v ≤ 999) ∧ q.1.1 = d.1 ∧ q.2.1 ≤ 50 ∧ wts_ q.2.2 ∧ q.2.2.length + 1 ≤ ts.length := by
  obtain ⟨k1, k2, k3, k4, k5, k6⟩ := hk
  cases ts with
  | nil => cases h
  | cons t r =>
    have wl : ∀ (al : Nat → Bool) (r0 r1 : List tkn_) (S1 : cd_) (u1 : Nat), wts_ r0 → whn_ al u r0 = .inr (S1, u1, r1) → u1 ≤ 50 ∧ wts_ r1 ∧ tyc_ al S1 [] = some [true] ∧ r1.length ≤ r0.length := by
      intro al r0 r1 S1 u1 w0 e
      have j1 := whn_t w0 e
      refine ⟨j1.2.1, j1.2.2.1, j1.2.2.2.2, ?_⟩
      exact whn_len w0 e
    rw [olin_l] at h
    by_cases c1 : t.1 = 127 ∧ d.2.2.2.2.1.length < 6
    · rw [if_pos c1] at h
      obtain ⟨⟨v, r1⟩, a1, h⟩ := sbd_i h
      obtain ⟨⟨S1, u1, r2⟩, b1, h⟩ := sbd_i h
      obtain ⟨r3, d1, h⟩ := sbd_i h
      have ja := tqn_j a1 (wts_t hw (by omega))
      have jb := wl _ _ _ _ _ ja.2.2.1 b1
      have jc := tqk_j d1 (by omega) jb.2.1
      injection h with h
      subst h
      have l2 : r.length = r1.length + 1 := ja.2.2.2
      have l3 : r2.length ≤ r1.length := jb.2.2.2
      have l4 : r2.length = r3.length + 1 := jc.2
      refine ⟨⟨?_, fun x hx => ?_, k3, k4, k5, k6⟩, hd, rfl, jb.1, jc.1, ?_⟩
      · show (d.2.2.2.2.1 ++ [(v, S1)]).length ≤ 6
        rw [List.length_append, List.length_singleton]
        omega
      · rcases List.mem_append.mp hx with z | z
        · exact k2 x z
        · have := List.mem_singleton.mp z
          subst this
          exact ⟨ja.2.1, jb.2.2.1⟩
      · rw [List.length_cons]
        show r3.length + 1 ≤ _
        omega
    · rw [if_neg c1] at h
      by_cases c2 : t.1 = 105
      · rw [if_pos c2] at h
        obtain ⟨⟨v, r1⟩, a1, h⟩ := sbd_i h
        obtain ⟨r2, b1, h⟩ := sbd_i h
        obtain ⟨⟨x, r3⟩, d1, h⟩ := sbd_i h
        obtain ⟨r4, g1, h⟩ := sbd_i h
        have ja := tqn_j (chq_j a1) (wts_t hw (by omega))
        have jb := tqk_j b1 (by omega) ja.2.2.1
        have jc := tqn_j d1 jb.1
        have jd := tqk_j g1 (by omega) jc.2.2.1
        injection h with h
        subst h
        have l2 : r.length = r1.length + 1 := ja.2.2.2
        have l3 : r1.length = r2.length + 1 := jb.2
        have l4 : r2.length = r3.length + 1 := jc.2.2.2
        have l5 : r3.length = r4.length + 1 := jd.2
        refine ⟨⟨k1, k2, k3, k4, k5, k6⟩, fun k y hy => ?_, rfl, hu, jd.1, ?_⟩
        · have hy : (if k = v then some x else d.2.1 k) = some y := hy
          by_cases c : k = v
          · rw [if_pos c] at hy
            cases hy
            exact jc.2.1
          · rw [if_neg c] at hy
            exact hd k y hy
        · rw [List.length_cons]
          show r4.length + 1 ≤ _
          omega
      · rw [if_neg c2] at h
        by_cases c3 : t.1 = 107 ∧ d.2.2.1 = none
        · rw [if_pos c3] at h
          obtain ⟨⟨v, r1⟩, a1, h⟩ := sbd_i h
          obtain ⟨r2, b1, h⟩ := sbd_i h
          obtain ⟨⟨x, r3⟩, d1, h⟩ := sbd_i h
          obtain ⟨r4, g1, h⟩ := sbd_i h
          have ja := tqn_j a1 (wts_t hw (by omega))
          have jb := tqk_j b1 (by omega) ja.2.2.1
          have jc := tqn_j d1 jb.1
          have jd := tqk_j g1 (by omega) jc.2.2.1
          injection h with h
          subst h
          have l2 : r.length = r1.length + 1 := ja.2.2.2
          have l3 : r1.length = r2.length + 1 := jb.2
          have l4 : r2.length = r3.length + 1 := jc.2.2.2
          have l5 : r3.length = r4.length + 1 := jd.2
          refine ⟨⟨k1, k2, k3, k4, fun y hy => ?_, k6⟩, hd, rfl, hu, jd.1, ?_⟩
          · have hy : some (v, x) = some y := hy
            cases hy
            have m1 : v + 1 ≤ x := jc.1
            have m2 : x ≤ 1440 := jc.2.1
            exact ⟨by show v < x; omega, m2⟩
          · rw [List.length_cons]
            show r4.length + 1 ≤ _
            omega
        · rw [if_neg c3] at h
          by_cases c4 : t.1 = 108 ∧ d.2.2.2.2.2.1 = none
          · rw [if_pos c4] at h
            obtain ⟨⟨S1, u1, r2⟩, b1, h⟩ := sbd_i h
            obtain ⟨r3, d1, h⟩ := sbd_i h
            have jb := wl _ _ _ _ _ (wts_t hw (by omega)) b1
            have jc := tqk_j d1 (by omega) jb.2.1
            injection h with h
            subst h
            have l4 : r2.length = r3.length + 1 := jc.2
            refine ⟨⟨k1, k2, fun y hy => ?_, k4, k5, k6⟩, hd, rfl, jb.1, jc.1, ?_⟩
            · have hy : some S1 = some y := hy
              cases hy
              exact jb.2.2.1
            · rw [List.length_cons]
              show r3.length + 1 ≤ _
              omega
          · rw [if_neg c4] at h
            by_cases c5 : t.1 = 109 ∧ d.2.2.2.1 = none
            · rw [if_pos c5] at h
              obtain ⟨⟨v, r1⟩, a1, h⟩ := sbd_i h
              obtain ⟨r3, d1, h⟩ := sbd_i h
              have ja := tqn_j a1 (wts_t hw (by omega))
              have jc := tqk_j d1 (by omega) ja.2.2.1
              injection h with h
              subst h
              have l2 : r.length = r1.length + 1 := ja.2.2.2
              have l4 : r1.length = r3.length + 1 := jc.2
              refine ⟨⟨k1, k2, k3, k4, k5, fun y hy => ?_⟩, hd, rfl, hu, jc.1, ?_⟩
              · have hy : some v = some y := hy
                cases hy
                exact ja.2.1
              · rw [List.length_cons]
                show r3.length + 1 ≤ _
                omega
            · rw [if_neg c5] at h
              by_cases c6 : t.1 = 110 ∧ d.2.2.2.2.2.2 = none
              · rw [if_pos c6] at h
                obtain ⟨⟨S1, u1, r2⟩, b1, h⟩ := sbd_i h
                obtain ⟨r3, d1, h⟩ := sbd_i h
                have jb := wl _ _ _ _ _ (wts_t hw (by omega)) b1
                have jc := tqk_j d1 (by omega) jb.2.1
                injection h with h
                subst h
                have l4 : r2.length = r3.length + 1 := jc.2
                refine ⟨⟨k1, k2, k3, fun y hy => ?_, k5, k6⟩, hd, rfl, jb.1, jc.1, ?_⟩
                · have hy : some S1 = some y := hy
                  cases hy
                  exact jb.2.2.1
                · rw [List.length_cons]
                  show r3.length + 1 ≤ _
                  omega
              · rw [if_neg c6] at h
                cases h
