/-! ===== all pairs; the effect ===== -/
def out_ (A : air_) (day : Nat) : Nat → Nat → List Int32 → List Int32
  | 0, _, G => G
  | k + 1, w, G => out_ A day k (w + 1) (inn_ A day w 13 G (fst_ (pr_ A w) (day - 0) 0) (fst_ (pr_ A w) (100 - day) day))
def gs_ (A : air_) (day : Nat) : List Int32 := out_ A day 4 0 []
theorem pu7_c {A : air_} {n day : Nat} (hday : day < 100) : ∀ (k w : Nat) (G : List Int32) (m : fm_), w + k = 4 → rc_ A n m → gc_ G m → ∃ m', f_X0_pairUp_7 (nI day) (nI w) m = some (0, m') ∧ rc_ A n m' ∧ gc_ (out_ A day k w G) m' := by
  intro k
  induction k with
  | zero =>
    intro w G m hw h hG
    rw [e_X0_pairUp_7, if_pos (show (4 : Int32) ≤ nI w from nI_le (a := 4) (by omega) (by omega))]
    exact ⟨m, rfl, h, hG⟩
  | succ k ih =>
    intro w G m hw h hG
    rw [e_X0_pairUp_7, if_neg (show ¬ (4 : Int32) ≤ nI w from nI_ge (b := 4) (by omega) (by omega)), show (0 : Int32) = nI 0 from rfl, dw1_c h (show w < 4 by omega) (show day ≤ 100 by omega) (Nat.zero_le _)]
    simp only [Option.bind]
    rw [show (100 : Int32) = nI 100 from rfl, dw1_c h (show w < 4 by omega) (Nat.le_refl _) (show day ≤ 100 by omega)]
    simp only
    obtain ⟨m1, e1, r1, r2⟩ := pu_c (n := n) hday (show w < 4 by omega) 13 G (fst_ (pr_ A w) (day - 0) 0) (fst_ (pr_ A w) (100 - day) day) m (by omega) h hG (fok_f (Nat.zero_le _)) (fok_f (by omega))
    rw [e1]
    exact ih (w + 1) _ m1 (by omega) r1 r2
theorem gc_nil {m : fm_} (h : gi_ m 94 4 = 0) : gc_ [] m := ⟨Nat.zero_le _, h, fun j x hj => by simp at hj⟩
theorem pu_all {A : air_} {n day : Nat} {m : fm_} (hday : day < 100) (h : rc_ A n m) : ∃ m', f_X0_pairUp (nI day) m = some (0, m') ∧ rc_ A n m' ∧ gc_ (gs_ A day) m' :=
  pu7_c hday 4 0 [] (si_ m 94 4 0) rfl (rc_ag h (gi_si_ne (by omega)) (fun c => gi_si_ne (by omega)) (fun c => gi_si_ne (by omega))) (gc_nil gi_si_self)
/-- the sum, from a number on -/
def su_ (z : Int32) (G : List Int32) : Int32 := G.foldl (· + ·) z
theorem sg_c {G : List Int32} {m : fm_} (h : gc_ G m) : ∀ (k i : Nat) (z : Int32), i + k = G.length → f_X0_sumOfGains_4 z (nI i) m = some (su_ z (G.drop i), m) := by
  obtain ⟨h1, h2, h3⟩ := h
  intro k
  induction k with
  | zero =>
    intro i z e
    rw [e_X0_sumOfGains_4, h2, if_pos (nI_le (by omega) (by omega)), List.drop_of_length_le (by omega)]
    rfl
  | succ k ih =>
    intro i z e
    have hi : i < G.length := by omega
    rw [e_X0_sumOfGains_4, h2, if_neg (nI_ge hi (by omega)), gd_t (ix_i (vp_in_nI (by omega) (by omega))), nI_1, nI_clamp (show i < 2 ^ 31 by omega), ih (i + 1) _ (by omega), h3 i G[i] (List.getElem?_eq_getElem hi), List.drop_eq_getElem_cons hi]
    rfl
theorem sg_all {G : List Int32} {m : fm_} (h : gc_ G m) : f_X0_sumOfGains m = some (su_ 0 G, m) := by
  have := sg_c h G.length 0 0 (by omega)
  rw [List.drop_zero] at this
  exact this
def seff_ (A : air_) (x : Int32) : Int32 := match nat_ x 100 with
  | none => -1000000
  | some d => su_ 0 (gs_ A d)
theorem eff_c {A : air_} {n : Nat} {m : fm_} (h : rc_ A n m) (x : Int32) : ∃ m1, f_X11_effect x m = some (seff_ A x, m1) ∧ rc_ A n m1 := by
  unfold f_X11_effect seff_
  rw [day_c]
  simp only [Option.bind]
  rcases nat_ix x (n := 100) (by omega) with ⟨e, _⟩ | ⟨d, hd, rfl, e, -⟩
  · rw [if_pos (bu_0 e), e]; exact ⟨m, rfl, h⟩
  · rw [if_neg (bu_ne e), e]
    obtain ⟨m1, q1, q2, q3⟩ := pu_all hd h
    unfold f_X0_gainFrom
    rw [q1]
    simp only [Option.bind]
    rw [sg_all q3]
    exact ⟨m1, rfl, q2⟩
/-! the reference -/
theorem gn_eq (a b c d : Int32) : a - b - c + d = a - b - (c - d) := by
  rw [Int32.sub_eq_add_neg (a - b) (c - d), Int32.neg_sub, Int32.sub_eq_add_neg d c, Int32.sub_eq_add_neg (a - b) c, Int32.add_assoc, Int32.add_comm (-c) d]
def gm1_ (G : List Int32) (m : fm_) : Prop := gm_ G m
theorem jn_m {A : air_} {n day w : Nat} (hday : day < 100) (hw : w < 4) (hA : ∀ c q, A c = some q → q.1 < 4 ∧ q.2 < 1000) : ∀ (k : Nat) (G : List Int32) (a b : Option Nat) (m : fm_), 12 < k + G.length → rm_ A n m → gm_ G m → fok_ A w day a → fok_ A w 100 b → ∃ m', f_X12_join_30 (nI day) (nI w) (en1_ a) (en1_ b) m = f_X12_join_7 (nI day) (nI (w + 1)) m' ∧ rm_ A n m' ∧ gm_ (inn_ A day w k G a b) m' := by
  intro k
  induction k with
  | zero => intro G a b m h1 _ hG; have := hG.1; omega
  | succ k ih =>
    intro G a b m h1 h hG ha hb
    rw [e_X12_join_30, nI_1]
    cases a with
    | none =>
      rw [if_pos (show en1_ none < 0 by decide), inn_n1]
      exact ⟨m, rfl, h, hG⟩
    | some x =>
      obtain ⟨hx1, hx2⟩ := ha x rfl
      rw [if_neg (show ¬ en1_ (some x) < 0 from nI_pos (by omega))]
      cases b with
      | none =>
        rw [if_pos (show en1_ none < 0 by decide), inn_n2]
        exact ⟨m, rfl, h, hG⟩
      | some y =>
        obtain ⟨hy1, hy2⟩ := hb y rfl
        rw [if_neg (show ¬ en1_ (some y) < 0 from nI_pos (by omega)), inn_s]
        obtain ⟨g1, g2, g3⟩ := id hG
        rw [g2]
        by_cases hl : 12 ≤ G.length
        · rw [if_pos (show (12 : Int32) ≤ nI G.length from nI_le (a := 12) hl (by omega)), if_pos hl]
          exact ⟨m, rfl, h, hG⟩
        · rw [if_neg (show ¬ (12 : Int32) ≤ nI G.length from nI_ge (b := 12) (by omega) (by omega)), if_neg hl]
          have hix : ix_ (nI G.length) 12 = true := ix_i (vp_in_nI (by omega) (by omega))
          have x1 : ix_ (nI x) 200 = true := ix_i (vp_in_nI (by omega) (by omega))
          have y1 : ix_ (nI y) 200 = true := ix_i (vp_in_nI (by omega) (by omega))
          obtain ⟨⟨v1, e1⟩, ⟨v2, e2⟩⟩ := pr_u.mp hx2
          obtain ⟨⟨v3, e3⟩, ⟨v4, e4⟩⟩ := pr_u.mp hy2
          simp only [en1_, gd_t x1, gd_t y1, gd_t (c100 (show x < 100 by omega)).1, gd_t (c100 hy1).1, gd_t hix, (c100 (show x < 100 by omega)).2, (c100 hy1).2, nI_clamp (show x < 2 ^ 31 by omega), nI_clamp (show y < 2 ^ 31 by omega), nI_clamp (show G.length < 2 ^ 31 by omega), vl_m h (show x < 200 by omega) e1, vl_m h (show 100 + x < 200 by omega) e2, vl_m h (show y < 200 by omega) e3, vl_m h (show 100 + y < 200 by omega) e4, gn_eq, nI_1]
          generalize hm1 : si_ (si_ m 158 G.length (nI (vl_ A x) - nI (vl_ A (100 + x)) - (nI (vl_ A y) - nI (vl_ A (100 + y))))) 106 86 (nI (G.length + 1)) = m1
          have r1 : rm_ A n m1 := rm_ag h (by rw [← hm1, gi_si_ne (by omega), gi_si_ne (by omega)]) (fun c => by rw [← hm1, gi_si_ne (by omega), gi_si_ne (by omega)]) (fun c => by rw [← hm1, gi_si_ne (by omega), gi_si_ne (by omega)]) (fun c => by rw [← hm1, gi_si_ne (by omega), gi_si_ne (by omega)])
          have r2 : gm_ (G ++ [gn_ A x y]) m1 := by
            refine ⟨by rw [List.length_append]; show G.length + 1 ≤ 12; omega, by rw [← hm1, gi_si_self, List.length_append]; rfl, fun j z hj => ?_⟩
            rw [← hm1, gi_si_ne (by omega), gi_si]
            rcases ap_get hj with ⟨q1, q2⟩ | ⟨q1, q2⟩
            · rw [if_neg (by omega)]; exact g3 j z q2
            · rw [if_pos ⟨rfl, q1⟩, q2]; rfl
          rw [np1_m r1 hA hw (show day ≤ 100 by omega) (show x + 1 ≤ day by omega)]
          simp only [Option.bind]
          rw [show (100 : Int32) = nI 100 from rfl, np1_m r1 hA hw (Nat.le_refl _) (show y + 1 ≤ 100 by omega)]
          simp only
          exact ih (G ++ [gn_ A x y]) _ _ m1 (by rw [List.length_append]; show 12 < k + (G.length + 1); omega) r1 r2 (fok_f (by omega)) (fok_f (by omega))
theorem jn7_m {A : air_} {n day : Nat} (hday : day < 100) (hA : ∀ c q, A c = some q → q.1 < 4 ∧ q.2 < 1000) : ∀ (k w : Nat) (G : List Int32) (m : fm_), w + k = 4 → rm_ A n m → gm_ G m → ∃ m', f_X12_join_7 (nI day) (nI w) m = some (0, m') ∧ rm_ A n m' ∧ gm_ (out_ A day k w G) m' := by
  intro k
  induction k with
  | zero =>
    intro w G m hw h hG
    rw [e_X12_join_7, if_pos (show (4 : Int32) ≤ nI w from nI_le (a := 4) (by omega) (by omega))]
    exact ⟨m, rfl, h, hG⟩
  | succ k ih =>
    intro w G m hw h hG
    rw [e_X12_join_7, if_neg (show ¬ (4 : Int32) ≤ nI w from nI_ge (b := 4) (by omega) (by omega)), show (0 : Int32) = nI 0 from rfl, np1_m h hA (show w < 4 by omega) (show day ≤ 100 by omega) (Nat.zero_le _)]
    simp only [Option.bind]
    rw [show (100 : Int32) = nI 100 from rfl, np1_m h hA (show w < 4 by omega) (Nat.le_refl _) (show day ≤ 100 by omega)]
    simp only
    obtain ⟨m1, e1, r1, r2⟩ := jn_m (n := n) hday (show w < 4 by omega) hA 13 G (fst_ (pr_ A w) (day - 0) 0) (fst_ (pr_ A w) (100 - day) day) m (by omega) h hG (fok_f (Nat.zero_le _)) (fok_f (by omega))
    rw [e1]
    exact ih (w + 1) _ m1 (by omega) r1 r2
theorem jn_all {A : air_} {n day : Nat} {m : fm_} (hday : day < 100) (hA : ∀ c q, A c = some q → q.1 < 4 ∧ q.2 < 1000) (h : rm_ A n m) : ∃ m', f_X12_join (nI day) m = some (0, m') ∧ rm_ A n m' ∧ gm_ (gs_ A day) m' :=
  jn7_m hday hA 4 0 [] (si_ m 106 86 0) rfl (rm_ag h (gi_si_ne (by omega)) (fun c => gi_si_ne (by omega)) (fun c => gi_si_ne (by omega)) (fun c => gi_si_ne (by omega))) ⟨Nat.zero_le _, gi_si_self, fun j x hj => by simp at hj⟩
/-- the sum with signs turned -/
def st_ (t : Int32) : Nat → Int32 → List Int32 → Int32
  | _, z, [] => z
  | i, z, x :: l => st_ t (i + 1) (z + if (t >>> (nI i &&& 31)) &&& 1 = 1 then -x else x) l
theorem sm_m {G : List Int32} {m : fm_} (h : gm_ G m) (t : Int32) : ∀ (k i : Nat) (z : Int32), i + k = G.length → f_X12_sum_4 t z (nI i) m = some (st_ t i z (G.drop i), m) := by
  obtain ⟨h1, h2, h3⟩ := h
  intro k
  induction k with
  | zero =>
    intro i z e
    rw [e_X12_sum_4, h2, if_pos (nI_le (by omega) (by omega)), List.drop_of_length_le (by omega)]
    rfl
  | succ k ih =>
    intro i z e
    have hi : i < G.length := by omega
    have hx : ix_ (nI i) 12 = true := ix_i (vp_in_nI (by omega) (by omega))
    rw [e_X12_sum_4, h2, if_neg (nI_ge hi (by omega)), gd_t hx, gd_t hx, nI_1, nI_clamp (show i < 2 ^ 31 by omega), ih (i + 1) _ (by omega), ih (i + 1) _ (by omega), h3 i G[i] (List.getElem?_eq_getElem hi), List.drop_eq_getElem_cons hi]
    show _ = some (st_ t (i + 1) (z + if (t >>> (nI i &&& 31)) &&& 1 = 1 then -G[i] else G[i]) (G.drop (i + 1)), m)
    by_cases hc : (t >>> (nI i &&& 31)) &&& 1 = 1
    · rw [if_pos hc, if_pos hc]
    · rw [if_neg hc, if_neg hc]
theorem sm_all {G : List Int32} {m : fm_} (h : gm_ G m) (t : Int32) : f_X12_sum t m = some (st_ t 0 0 G, m) := by
  have := sm_m h t G.length 0 0 (by omega)
  rw [List.drop_zero] at this
  exact this
theorem st_0 : ∀ (G : List Int32) (i : Nat) (z : Int32), i + G.length ≤ 12 → st_ 0 i z G = su_ z G
  | [], _, _, _ => rfl
  | x :: l, i, z, h => by
    have hb : ∀ j, j < 12 → ¬ ((0 : Int32) >>> (nI j &&& 31)) &&& 1 = 1 := by decide
    have hi : i < 12 := by rw [List.length_cons] at h; omega
    show st_ 0 (i + 1) (z + if ((0 : Int32) >>> (nI i &&& 31)) &&& 1 = 1 then -x else x) l = _
    rw [if_neg (hb i hi), st_0 l (i + 1) _ (by rw [List.length_cons] at h; omega)]
    rfl
theorem eff_m {A : air_} {n : Nat} {m : fm_} (hA : ∀ c q, A c = some q → q.1 < 4 ∧ q.2 < 1000) (h : rm_ A n m) (x : Int32) : ∃ m1, f_X12_effect x m = some (seff_ A x, m1) ∧ rm_ A n m1 := by
  unfold f_X12_effect seff_
  rw [day_m]
  simp only [Option.bind]
  rcases nat_ix x (n := 100) (by omega) with ⟨e, _⟩ | ⟨d, hd, rfl, e, -⟩
  · rw [if_pos (bu_0 e), e]; exact ⟨m, rfl, h⟩
  · rw [if_neg (bu_ne e), e]
    obtain ⟨m1, q1, q2, q3⟩ := jn_all hd hA h
    rw [q1]
    simp only
    rw [sm_all q3, st_0 _ 0 0 (by have := q3.1; omega)]
    exact ⟨m1, rfl, q2⟩
