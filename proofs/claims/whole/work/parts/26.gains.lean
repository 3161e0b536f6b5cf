/-! ===== gains ===== -/
def vl_ (A : air_) (c : Nat) : Nat := match A c with
  | none => 0
  | some q => q.2
def gn_ (A : air_) (a b : Nat) : Int32 := (nI (vl_ A a) - nI (vl_ A (100 + a))) - (nI (vl_ A b) - nI (vl_ A (100 + b)))
def gc_ (G : List Int32) (m : fm_) : Prop := G.length ≤ 12 ∧ gi_ m 94 4 = nI G.length ∧ ∀ j x, G[j]? = some x → gi_ m 97 j = x
def gm_ (G : List Int32) (m : fm_) : Prop := G.length ≤ 12 ∧ gi_ m 106 86 = nI G.length ∧ ∀ j x, G[j]? = some x → gi_ m 158 j = x
theorem ap_get {α : Type} {t : List α} {x y : α} {j : Nat} (h : (t ++ [x])[j]? = some y) : (j < t.length ∧ t[j]? = some y) ∨ (j = t.length ∧ y = x) := by
  by_cases hj : j < t.length
  · rw [List.getElem?_append_left hj] at h
    exact Or.inl ⟨hj, h⟩
  · rw [List.getElem?_append_right (by omega)] at h
    by_cases hj2 : j - t.length = 0
    · rw [hj2] at h
      cases h
      exact Or.inr ⟨by omega, rfl⟩
    · rw [List.getElem?_eq_none (by simp; omega)] at h
      cases h
theorem rc_ag {A : air_} {n : Nat} {m m1 : fm_} (h : rc_ A n m) (h1 : gi_ m1 94 2 = gi_ m 94 2) (h2 : ∀ c, gi_ m1 96 c = gi_ m 96 c) (h3 : ∀ c, gi_ m1 95 c = gi_ m 95 c) : rc_ A n m1 :=
  ⟨h.1, h1.trans h.2.1, fun c hc => by
    have := h.2.2 c hc
    unfold rc1_ at this ⊢
    rw [h2 c, h3 c]
    exact this⟩
theorem rm_ag {A : air_} {n : Nat} {m m1 : fm_} (h : rm_ A n m) (h1 : gi_ m1 106 81 = gi_ m 106 81) (h2 : ∀ c, gi_ m1 159 c = gi_ m 159 c) (h3 : ∀ c, gi_ m1 156 c = gi_ m 156 c) (h4 : ∀ c, gi_ m1 157 c = gi_ m 157 c) : rm_ A n m1 :=
  ⟨h1.trans h.1, fun c hc => by
    have := h.2 c hc
    unfold rm1_ at this ⊢
    rw [h2 c, h3 c, h4 c]
    exact this⟩
theorem vl_c {A : air_} {n : Nat} {m : fm_} (h : rc_ A n m) {c w v : Nat} (hc : c < 200) (hA : A c = some (w, v)) : gi_ m 95 c = nI (vl_ A c) := by
  have := h.2.2 c hc
  unfold rc1_ at this
  unfold vl_
  rw [hA] at this ⊢
  exact this.2.2.2
theorem vl_m {A : air_} {n : Nat} {m : fm_} (h : rm_ A n m) {c w v : Nat} (hc : c < 200) (hA : A c = some (w, v)) : gi_ m 157 c = nI (vl_ A c) := by
  have := h.2 c hc
  unfold rm1_ at this
  unfold vl_
  rw [hA] at this ⊢
  exact this.2.2
theorem nat_nI {j n : Nat} (hj : j < n) (hn : n < 2 ^ 31) : nat_ (nI j) n = some j := by
  rcases nat_ix (nI j) (n := n) hn with ⟨_, q | ⟨_, q⟩⟩ | ⟨i, _, e, q, _⟩
  · exact absurd q (nI_pos (by omega))
  · exact absurd q (nI_ge hj hn)
  · rw [q, (nI_eq (by omega) (by omega)).mp e]
theorem c100 {d : Nat} (hd : d < 100) : ix_ (100 + nI d) 200 = true ∧ (100 + nI d).toNatClampNeg = 100 + d := by
  rw [show (100 : Int32) = nI 100 from rfl, nI_add]
  exact ⟨ix_i (vp_in_nI (by omega) (by omega)), nI_clamp (by omega)⟩
theorem df_c {A : air_} {n : Nat} {m : fm_} (h : rc_ A n m) {w d : Nat} (hd : d < 100) (hp : pr_ A w d = true) : f_X0_difference (nI d) m = some (nI (vl_ A d) - nI (vl_ A (100 + d)), m) := by
  obtain ⟨⟨v1, e1⟩, ⟨v2, e2⟩⟩ := pr_u.mp hp
  have x1 : ix_ (nI d) 200 = true := ix_i (vp_in_nI (by omega) (by omega))
  unfold f_X0_difference
  rw [day_c]
  simp only [Option.bind]
  rw [if_neg (bu_ne (nat_nI hd (by omega))), gd_t x1, gd_t (c100 hd).1, (c100 hd).2, nI_clamp (show d < 2 ^ 31 by omega), vl_c h (by omega) e1, vl_c h (by omega) e2]
/-- pairs of one wind -/
def inn_ (A : air_) (day w : Nat) : Nat → List Int32 → Option Nat → Option Nat → List Int32
  | k + 1, G, some a, some b => if 12 ≤ G.length then G else inn_ A day w k (G ++ [gn_ A a b]) (fst_ (pr_ A w) (day - (a + 1)) (a + 1)) (fst_ (pr_ A w) (100 - (b + 1)) (b + 1))
  | _, G, _, _ => G
theorem inn_n1 {A : air_} {day w k : Nat} {G : List Int32} {b : Option Nat} : inn_ A day w (k + 1) G none b = G := by cases b <;> rfl
theorem inn_n2 {A : air_} {day w k : Nat} {G : List Int32} {a : Option Nat} : inn_ A day w (k + 1) G a none = G := by cases a <;> rfl
theorem inn_s {A : air_} {day w k : Nat} {G : List Int32} {a b : Nat} : inn_ A day w (k + 1) G (some a) (some b) = if 12 ≤ G.length then G else inn_ A day w k (G ++ [gn_ A a b]) (fst_ (pr_ A w) (day - (a + 1)) (a + 1)) (fst_ (pr_ A w) (100 - (b + 1)) (b + 1)) := rfl
def fok_ (A : air_) (w b : Nat) (o : Option Nat) : Prop := ∀ x, o = some x → x < b ∧ pr_ A w x = true
theorem fok_f {A : air_} {w b s : Nat} (hs : s ≤ b) : fok_ A w b (fst_ (pr_ A w) (b - s) s) := fun x hx => by
  have := fst_u _ _ _ hx
  exact ⟨by omega, this.2.2⟩
theorem pu_c {A : air_} {n day w : Nat} (hday : day < 100) (hw : w < 4) : ∀ (k : Nat) (G : List Int32) (a b : Option Nat) (m : fm_), 12 < k + G.length → rc_ A n m → gc_ G m → fok_ A w day a → fok_ A w 100 b → ∃ m', f_X0_pairUp_30 (nI day) (nI w) (eb_ a day) (eb_ b 100) m = f_X0_pairUp_7 (nI day) (nI (w + 1)) m' ∧ rc_ A n m' ∧ gc_ (inn_ A day w k G a b) m' := by
  intro k
  induction k with
  | zero => intro G a b m h1 _ hG; have := hG.1; omega
  | succ k ih =>
    intro G a b m h1 h hG ha hb
    rw [e_X0_pairUp_30, nI_1]
    cases a with
    | none =>
      rw [if_pos (show nI day ≤ eb_ none day from nI_le (Nat.le_refl _) (by omega)), inn_n1]
      exact ⟨m, rfl, h, hG⟩
    | some x =>
      obtain ⟨hx1, hx2⟩ := ha x rfl
      rw [if_neg (show ¬ nI day ≤ eb_ (some x) day from nI_ge hx1 (by omega))]
      cases b with
      | none =>
        rw [if_pos (show (100 : Int32) ≤ eb_ none 100 from nI_le (a := 100) (Nat.le_refl _) (by omega)), inn_n2]
        exact ⟨m, rfl, h, hG⟩
      | some y =>
        obtain ⟨hy1, hy2⟩ := hb y rfl
        rw [if_neg (show ¬ (100 : Int32) ≤ eb_ (some y) 100 from nI_ge (b := 100) hy1 (by omega)), inn_s]
        obtain ⟨g1, g2, g3⟩ := id hG
        rw [g2]
        by_cases hl : 12 ≤ G.length
        · rw [if_pos (show (12 : Int32) ≤ nI G.length from nI_le (a := 12) hl (by omega)), if_pos hl]
          exact ⟨m, rfl, h, hG⟩
        · rw [if_neg (show ¬ (12 : Int32) ≤ nI G.length from nI_ge (b := 12) (by omega) (by omega)), if_neg hl]
          have hix : ix_ (nI G.length) 12 = true := ix_i (vp_in_nI (by omega) (by omega))
          show ∃ m', (Option.bind (f_X0_difference (nI x) m) _) = _ ∧ _
          rw [df_c h (by omega) hx2]
          simp only [Option.bind]
          show ∃ m', (Option.bind (f_X0_difference (nI y) m) _) = _ ∧ _
          rw [df_c h hy1 hy2]
          simp only [Option.bind]
          rw [gd_t hix, nI_clamp (show G.length < 2 ^ 31 by omega), g2, nI_1]
          generalize hm1 : si_ (si_ m 97 G.length (nI (vl_ A x) - nI (vl_ A (100 + x)) - (nI (vl_ A y) - nI (vl_ A (100 + y))))) 94 4 (nI (G.length + 1)) = m1
          have r1 : rc_ A n m1 := rc_ag h (by rw [← hm1, gi_si_ne (by omega), gi_si_ne (by omega)]) (fun c => by rw [← hm1, gi_si_ne (by omega), gi_si_ne (by omega)]) (fun c => by rw [← hm1, gi_si_ne (by omega), gi_si_ne (by omega)])
          have r2 : gc_ (G ++ [gn_ A x y]) m1 := by
            refine ⟨by rw [List.length_append]; show G.length + 1 ≤ 12; omega, by rw [← hm1, gi_si_self, List.length_append]; rfl, fun j z hj => ?_⟩
            rw [← hm1, gi_si_ne (by omega), gi_si]
            rcases ap_get hj with ⟨q1, q2⟩ | ⟨q1, q2⟩
            · rw [if_neg (by omega)]; exact g3 j z q2
            · rw [if_pos ⟨rfl, q1⟩, q2]; rfl
          have hx3 : eb_ (some x) day + 1 = nI (x + 1) := nI_1 x
          have hy3 : eb_ (some y) 100 + 1 = nI (y + 1) := nI_1 y
          rw [hx3, dw1_c r1 hw (by omega) (show x + 1 ≤ day by omega)]
          simp only
          rw [hy3, show (100 : Int32) = nI 100 from rfl, dw1_c r1 hw (Nat.le_refl _) (show y + 1 ≤ 100 by omega)]
          simp only
          exact ih (G ++ [gn_ A x y]) _ _ m1 (by rw [List.length_append]; show 12 < k + (G.length + 1); omega) r1 r2 (fok_f (by omega)) (fok_f (by omega))
