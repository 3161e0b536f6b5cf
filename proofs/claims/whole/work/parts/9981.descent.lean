/-! ===== the class reads what orders ask ===== -/
def kpn_ (op : Nat) : Nat := if op = 0 then 0 else if op = 23 then 61 else if op = 24 then 60 else if op = 25 then 62 else if op = 26 then 43 else 45
theorem kpn_e {op : Nat} (h : op = 23 ∨ op = 24 ∨ op = 25 ∨ op = 26 ∨ op = 27) : -(nI (kpn_ op)) = enc_ (op, 0) ∧ ¬ nI (kpn_ op) = 0 := by
  rcases h with e | e | e | e | e <;> subst e <;> exact ⟨by decide, by decide⟩
theorem cmo_k {k : Nat} (h : k = 60 ∨ k = 62 ∨ k = 61) : kpn_ (cmo_ k) = k ∧ (cmo_ k = 23 ∨ cmo_ k = 24 ∨ cmo_ k = 25) := by
  rcases h with e | e | e <;> subst e <;> exact ⟨by decide, by decide⟩
theorem rcp_c {o : Nat} (ho : 32 ≤ o) (ho2 : o ≤ 62) {al : Nat → Bool} {ln : Nat} (hal : may_ ln al) {B : List Int32} : ∀ (n cm jn u : Nat) (S : cd_) (ts : List tkn_) (m : fm_) (x : Nat), cts_ o B ln u S ts m → 51 ≤ n + u → u ≤ 50 → x ≤ u → (cm = 0 ∨ cm = 23 ∨ cm = 24 ∨ cm = 25) → (jn = 0 ∨ jn = 26 ∨ jn = 27) → (∃ f m1, rcp_ al n cm jn u S ts = .inl f ∧ f_X5_readComparison_6 o (nI (kpn_ cm)) (nI (kpn_ jn)) (nI x) m = some (nI 0, m1) ∧ flc_ f m1) ∨ (∃ S1 u1 r m1, rcp_ al n cm jn u S ts = .inr (S1, u1, r) ∧ f_X5_readComparison_6 o (nI (kpn_ cm)) (nI (kpn_ jn)) (nI x) m = some (nI 1, m1) ∧ cts_ o B ln u1 S1 r m1 ∧ ofr_ o m m1 ∧ u < u1 ∧ u1 ≤ 50) := by
  intro n
  induction n with
  | zero => intro cm jn u S ts m x h h1 h2; omega
  | succ n ih =>
    intro cm jn u S ts m x h h51 hu hx hcm hjn
    rw [e_X5_readComparison_6, if_neg (show ¬ (50 : Int32) < nI x from show ¬ nI 50 < nI x from nI_nlt (by omega) (by omega))]
    rcases runt_c ho ho2 hal hu h with ⟨f, m1, a1, a2, a3⟩ | ⟨q, r, m1, a1, a2, a3, a4, a5⟩
    · refine Or.inl ⟨f, m1, rcp_e a1, ?_, a3⟩
      rw [a2]
      rfl
    · have st : ∃ m2, (Option.bind (f_X5_readUnit o m) fun q3 => if q3.1 = 0 then some (0, q3.2) else if nI (kpn_ jn) = 0 then f_X5_readComparison_34 o (nI (kpn_ cm)) (nI (kpn_ jn)) (nI x) q3.2 else Option.bind (f_X4_addStep o (-(nI (kpn_ jn))) q3.2) fun q10 => f_X5_readComparison_34 o (nI (kpn_ cm)) (nI (kpn_ jn)) (nI x) q10.2) = f_X5_readComparison_34 o (nI (kpn_ cm)) (nI (kpn_ jn)) (nI x) m2 ∧ cts_ o B ln (u + 1) (S ++ [q] ++ jnc_ jn) r m2 ∧ ofr_ o m m2 := by
        rw [a2, Option.bind_some, if_neg (show ¬ nI 1 = 0 by decide)]
        dsimp only
        by_cases c : jn = 0
        · subst c
          refine ⟨m1, if_pos (show nI (kpn_ 0) = 0 from rfl), ?_, a4⟩
          show cts_ o B ln (u + 1) (S ++ [q] ++ []) r m1
          rw [List.append_nil]
          exact a3
        · have hj := kpn_e (op := jn) (by omega)
          obtain ⟨m2, b1, b2, b3⟩ := ads_c ho ho2 a3 (x := -(nI (kpn_ jn))) (jn, 0) hj.1
          refine ⟨m2, ?_, ?_, ofr_t a4 b3⟩
          · rw [if_neg hj.2, b1]
            rfl
          · unfold jnc_
            rw [if_neg c]
            exact b2
      obtain ⟨m2, b1, b2, b3⟩ := st
      rw [b1]
      cases r with
      | nil => exact absurd b2.1.2.2 id
      | cons t r =>
        have ht := b2.1.2.2.1
        rw [rcp_s a1, e_X5_readComparison_34, (knd_c b2.1.1).1, Option.bind_some]
        dsimp only
        by_cases c1 : t.1 = 43 ∨ t.1 = 45
        · rw [if_pos c1]
          obtain ⟨m3, d1, d2, d3⟩ := cts_st ho ho2 b2 (by omega)
          have to120 : ∀ k, (k = 43 ∨ k = 45) → f_X5_readComparison_57 o (nI (kpn_ cm)) (nI (kpn_ jn)) (nI x) (nI k) m2 = f_X5_readComparison_6 o (nI (kpn_ cm)) (nI k) (nI (x + 1)) m3 := fun k hk => by
            have hk0 : ¬ nI k = 0 := show ¬ nI k = nI 0 from fun q => by have := (nI_eq (by omega) (by omega)).mp q; omega
            rw [e_X5_readComparison_57, if_neg hk0, e_X5_readComparison_83, if_neg hk0, e_X5_readComparison_120, d1, Option.bind_some]
            show f_X5_readComparison_6 o (nI (kpn_ cm)) (nI k) (nI x + nI 1) m3 = _
            rw [nI_add]
          have ek : (if nI t.1 = 43 then f_X5_readComparison_57 o (nI (kpn_ cm)) (nI (kpn_ jn)) (nI x) (nI t.1) m2 else if nI t.1 = 45 then f_X5_readComparison_57 o (nI (kpn_ cm)) (nI (kpn_ jn)) (nI x) (nI t.1) m2 else if nI (kpn_ cm) = 0 then f_X5_readComparison_83 o (nI (kpn_ cm)) 0 (nI x) (nI t.1) m2 else Option.bind (f_X4_addStep o (-(nI (kpn_ cm))) m2) fun q11 => some (1, q11.2)) = f_X5_readComparison_6 o (nI (kpn_ cm)) (nI (kpn_ (if t.1 = 43 then 26 else 27))) (nI (x + 1)) m3 := by
            rcases c1 with e | e
            · rw [if_pos (show nI t.1 = 43 by rw [e]; rfl), to120 t.1 (Or.inl e), if_pos e, e]
              rfl
            · rw [if_neg (show ¬ nI t.1 = 43 by rw [e]; decide), if_pos (show nI t.1 = 45 by rw [e]; rfl), to120 t.1 (Or.inr e), if_neg (by omega), e]
              rfl
          rw [ek]
          have hj2 : (if t.1 = 43 then 26 else 27) = 0 ∨ (if t.1 = 43 then 26 else 27) = 26 ∨ (if t.1 = 43 then 26 else 27) = 27 := by
            by_cases e : t.1 = 43
            · rw [if_pos e]; omega
            · rw [if_neg e]; omega
          rcases ih cm (if t.1 = 43 then 26 else 27) (u + 1) _ r m3 (x + 1) d2 (by omega) (by omega) (by omega) hcm hj2 with ⟨f, m4, g1, g2, g3⟩ | ⟨S1, u1, r1, m4, g1, g2, g3, g4, g5, g6⟩
          · exact Or.inl ⟨f, m4, g1, g2, g3⟩
          · exact Or.inr ⟨S1, u1, r1, m4, g1, g2, g3, ofr_t b3 (ofr_t d3 g4), by omega, g6⟩
        · have n43 : ¬ nI t.1 = 43 := show ¬ nI t.1 = nI 43 from fun q => c1 (Or.inl ((nI_eq (by omega) (by omega)).mp q))
          have n45 : ¬ nI t.1 = 45 := show ¬ nI t.1 = nI 45 from fun q => c1 (Or.inr ((nI_eq (by omega) (by omega)).mp q))
          rw [if_neg c1, if_neg n43, if_neg n45]
          by_cases c2 : cm = 0
          · subst c2
            rw [if_pos rfl, if_pos (show nI (kpn_ 0) = 0 from rfl), e_X5_readComparison_83, if_pos rfl]
            by_cases c3 : t.1 = 60 ∨ t.1 = 62 ∨ t.1 = 61
            · rw [if_pos c3]
              obtain ⟨m3, d1, d2, d3⟩ := cts_st ho ho2 b2 (by omega)
              have hk := cmo_k c3
              have to117 : f_X5_readComparison_117 o (nI (kpn_ 0)) 0 (nI x) (nI t.1) m2 = f_X5_readComparison_6 o (nI (kpn_ (cmo_ t.1))) (nI (kpn_ 0)) (nI (x + 1)) m3 := by
                rw [e_X5_readComparison_117, e_X5_readComparison_120, d1, Option.bind_some, hk.1]
                show f_X5_readComparison_6 o (nI t.1) 0 (nI x + nI 1) m3 = _
                rw [nI_add]
                rfl
              have ek : (if nI t.1 = 60 then f_X5_readComparison_117 o (nI (kpn_ 0)) 0 (nI x) (nI t.1) m2 else if nI t.1 = 62 then f_X5_readComparison_117 o (nI (kpn_ 0)) 0 (nI x) (nI t.1) m2 else if nI t.1 = 61 then f_X5_readComparison_117 o (nI (kpn_ 0)) 0 (nI x) (nI t.1) m2 else Option.bind (f_X8_fail 2 m2) fun q9 => gd_ (bl_ q9.1) (some (q9.1, q9.2))) = f_X5_readComparison_117 o (nI (kpn_ 0)) 0 (nI x) (nI t.1) m2 := by
                rcases c3 with e | e | e
                · rw [if_pos (show nI t.1 = 60 by rw [e]; rfl)]
                · rw [if_neg (show ¬ nI t.1 = 60 by rw [e]; decide), if_pos (show nI t.1 = 62 by rw [e]; rfl)]
                · rw [if_neg (show ¬ nI t.1 = 60 by rw [e]; decide), if_neg (show ¬ nI t.1 = 62 by rw [e]; decide), if_pos (show nI t.1 = 61 by rw [e]; rfl)]
              rw [ek, to117]
              rcases ih (cmo_ t.1) 0 (u + 1) _ r m3 (x + 1) d2 (by omega) (by omega) (by omega) (Or.inr hk.2) (Or.inl rfl) with ⟨f, m4, g1, g2, g3⟩ | ⟨S1, u1, r1, m4, g1, g2, g3, g4, g5, g6⟩
              · exact Or.inl ⟨f, m4, g1, g2, g3⟩
              · exact Or.inr ⟨S1, u1, r1, m4, g1, g2, g3, ofr_t b3 (ofr_t d3 g4), by omega, g6⟩
            · rw [if_neg c3]
              obtain ⟨m3, e1, e2, _⟩ := fai_c b2.1 2
              have e1 : f_X8_fail 2 m2 = some (0, m3) := e1
              refine Or.inl ⟨_, m3, rfl, ?_, e2⟩
              rw [if_neg (show ¬ nI t.1 = 60 from show ¬ nI t.1 = nI 60 from fun q => c3 (Or.inl ((nI_eq (by omega) (by omega)).mp q))), if_neg (show ¬ nI t.1 = 62 from show ¬ nI t.1 = nI 62 from fun q => c3 (Or.inr (Or.inl ((nI_eq (by omega) (by omega)).mp q)))), if_neg (show ¬ nI t.1 = 61 from show ¬ nI t.1 = nI 61 from fun q => c3 (Or.inr (Or.inr ((nI_eq (by omega) (by omega)).mp q)))), e1, Option.bind_some, gd_t (show bl_ 0 = true by decide)]
              rfl
          · have hc := kpn_e (op := cm) (by omega)
            obtain ⟨m3, d1, d2, d3⟩ := ads_c ho ho2 b2 (x := -(nI (kpn_ cm))) (cm, 0) hc.1
            rw [if_neg c2, if_neg hc.2]
            refine Or.inr ⟨_, u + 1, t :: r, m3, rfl, ?_, d2, ofr_t b3 d3, by omega, by omega⟩
            rw [d1]
            rfl
theorem cmp_c {o : Nat} (ho : 32 ≤ o) (ho2 : o ≤ 62) {al : Nat → Bool} {ln : Nat} (hal : may_ ln al) {B : List Int32} {u : Nat} {S : cd_} {ts : List tkn_} {m : fm_} (h : cts_ o B ln u S ts m) (hu : u ≤ 50) : (∃ f m1, rcp_ al 51 0 0 u S ts = .inl f ∧ f_X5_readComparison o m = some (nI 0, m1) ∧ flc_ f m1) ∨ (∃ S1 u1 r m1, rcp_ al 51 0 0 u S ts = .inr (S1, u1, r) ∧ f_X5_readComparison o m = some (nI 1, m1) ∧ cts_ o B ln u1 S1 r m1 ∧ ofr_ o m m1 ∧ u < u1 ∧ u1 ≤ 50) := rcp_c ho ho2 hal 51 0 0 u S ts m 0 h (by omega) hu (by omega) (Or.inl rfl) (Or.inl rfl)
theorem nts_c {o : Nat} (ho : 32 ≤ o) (ho2 : o ≤ 62) {B : List Int32} {ln u : Nat} {f : Nat → Int32 → fm_ → Option (Int32 × fm_)} {x1 x3 : Int32} {nots : Nat} (hn : nots ≤ 7) {ts : List tkn_} : ∀ (k j : Nat) (S : cd_) (m : fm_), j + k = nots → cts_ o B ln u S ts m → ∃ m1, f_X5_readOne_139 f o x1 (nI nots) x3 (nI j) m = some (nI 1, m1) ∧ cts_ o B ln u (S ++ List.replicate k (20, 0)) ts m1 ∧ ofr_ o m m1
  | 0, j, S, m, hj, h => by
    refine ⟨m, ?_, ?_, ofr_r⟩
    · rw [e_X5_readOne_139, if_pos (nI_le (by omega) (by omega))]
      rfl
    · rw [List.replicate_zero, List.append_nil]; exact h
  | k + 1, j, S, m, hj, h => by
    obtain ⟨m1, a1, a2, a3⟩ := ads_c ho ho2 h (x := -114) (20, 0) rfl
    obtain ⟨m2, b1, b2, b3⟩ := nts_c ho ho2 hn k (j + 1) (S ++ [(20, 0)]) m1 (by omega) a2
    refine ⟨m2, ?_, ?_, ofr_t a3 b3⟩
    · rw [e_X5_readOne_139, if_neg (nI_ge (by omega) (by omega)), a1, Option.bind_some]
      show f_X5_readOne_139 f o x1 (nI nots) x3 (nI j + nI 1) m1 = _
      rw [nI_add]
      exact b1
    · rw [List.replicate_succ]
      rw [List.append_assoc] at b2
      exact b2
/-- an e is read by f where d more may lie within -/
def PE_ (o : Nat) (B : List Int32) (ln : Nat) (al : Nat → Bool) (f : Nat → Int32 → fm_ → Option (Int32 × fm_)) (d : Nat) : Prop := ∀ (u : Nat) (S : cd_) (ts : List tkn_) (m : fm_), cts_ o B ln u S ts m → u ≤ 50 → (∃ g m1, eit_ (rne_ al d) 51 false false u S ts = .inl g ∧ f o (nI (7 - d)) m = some (nI 0, m1) ∧ flc_ g m1) ∨ (∃ S1 u1 r m1, eit_ (rne_ al d) 51 false false u S ts = .inr (S1, u1, r) ∧ f o (nI (7 - d)) m = some (nI 1, m1) ∧ cts_ o B ln u1 S1 r m1 ∧ ofr_ o m m1 ∧ u < u1 ∧ u1 ≤ 50)
theorem one_c {o : Nat} (ho : 32 ≤ o) (ho2 : o ≤ 62) {al : Nat → Bool} {ln : Nat} (hal : may_ ln al) {B : List Int32} {f : Nat → Int32 → fm_ → Option (Int32 × fm_)} {nests : Nat} : ∀ (d nots : Nat), nests + nots + d = 7 → (∀ e, e < d → PE_ o B ln al f e) → ∀ (u : Nat) (S : cd_) (ts : List tkn_) (m : fm_), cts_ o B ln u S ts m → u ≤ 50 → (∃ g m1, rne_ al d u S ts = .inl g ∧ f_X5_readOne_2 f o (nI nests) (nI nots) m = some (nI 0, m1) ∧ flc_ g m1) ∨ (∃ S1 u1 r m1, rne_ al d u S ts = .inr (S1, u1, r) ∧ f_X5_readOne_2 f o (nI nests) (nI nots) m = some (nI 1, m1) ∧ cts_ o B ln u1 (S1 ++ List.replicate nots (20, 0)) r m1 ∧ ofr_ o m m1 ∧ u < u1 ∧ u1 ≤ 50) := by
  intro d
  induction d with
  | zero =>
    intro nots hd hE u S ts m h hu
    cases ts with
    | nil => exact absurd h.1.2.2 id
    | cons t r =>
      have ht := h.1.2.2.1
      have kk := (knd_c h.1.1).1
      have bl0 : bl_ 0 = true := by decide
      obtain ⟨m9, z1, z2, _⟩ := fai_c h.1 2
      have z1 : f_X8_fail 2 m = some (0, m9) := z1
      rw [rne_0, e_X5_readOne_2, nI_add, if_pos (show (7 : Int32) ≤ nI (nests + nots) from show nI 7 ≤ nI (nests + nots) from nI_le (by omega) (by omega)), kk, Option.bind_some]
      dsimp only
      by_cases c1 : t.1 = 114
      · rw [if_pos (Or.inl c1), if_pos (show nI t.1 = 114 by rw [c1]; rfl), if_neg (show ¬ nI (nests + nots) < 7 from show ¬ nI (nests + nots) < nI 7 from nI_nlt (by omega) (by omega)), z1]
        exact Or.inl ⟨_, m9, rfl, by rw [Option.bind_some, gd_t bl0]; rfl, z2⟩
      · rw [if_neg (show ¬ nI t.1 = 114 from show ¬ nI t.1 = nI 114 from fun q => c1 ((nI_eq (by omega) (by omega)).mp q)), kk, Option.bind_some]
        dsimp only
        by_cases c2 : t.1 = 40
        · rw [if_pos (Or.inr c2), if_pos (show nI t.1 = 40 by rw [c2]; rfl), if_neg (show ¬ nI (nests + nots) < 7 from show ¬ nI (nests + nots) < nI 7 from nI_nlt (by omega) (by omega)), z1]
          exact Or.inl ⟨_, m9, rfl, by rw [Option.bind_some, gd_t bl0]; rfl, z2⟩
        · rw [if_neg (show ¬ (t.1 = 114 ∨ t.1 = 40) from fun q => q.elim c1 c2), if_neg (show ¬ nI t.1 = 40 from show ¬ nI t.1 = nI 40 from fun q => c2 ((nI_eq (by omega) (by omega)).mp q))]
          rcases cmp_c ho ho2 hal h hu with ⟨g, m1, a1, a2, a3⟩ | ⟨S1, u1, r1, m1, a1, a2, a3, a4, a5, a6⟩
          · refine Or.inl ⟨g, m1, a1, ?_, a3⟩
            rw [a2]
            rfl
          · obtain ⟨m2, b1, b2, b3⟩ := nts_c (f := f) (x1 := nI nests) (x3 := 0) ho ho2 (nots := nots) (by omega) nots 0 S1 m1 (by omega) a3
            refine Or.inr ⟨S1, u1, r1, m2, a1, ?_, b2, ofr_t a4 b3, a5, a6⟩
            rw [a2, Option.bind_some, if_neg (show ¬ nI 1 = 0 by decide)]
            exact b1
  | succ d ih =>
    intro nots hd hE u S ts m h hu
    cases ts with
    | nil => exact absurd h.1.2.2 id
    | cons t r =>
      have ht := h.1.2.2.1
      have kk := (knd_c h.1.1).1
      rw [rne_s, e_X5_readOne_2, nI_add, if_neg (show ¬ (7 : Int32) ≤ nI (nests + nots) from show ¬ nI 7 ≤ nI (nests + nots) from nI_ge (by omega) (by omega)), kk, Option.bind_some]
      dsimp only
      by_cases c1 : t.1 = 114
      · obtain ⟨m1, e1, e2, e3⟩ := cts_st ho ho2 h (by omega)
        have st : f_X5_readOne_2 f o (nI nests) (nI nots + 1) m1 = f_X5_readOne_2 f o (nI nests) (nI (nots + 1)) m1 := by
          show f_X5_readOne_2 f o (nI nests) (nI nots + nI 1) m1 = _
          rw [nI_add]
        rw [if_pos c1, if_pos (show nI t.1 = 114 by rw [c1]; rfl), e1, Option.bind_some]
        dsimp only
        rw [st]
        rcases ih (nots + 1) (by omega) (fun e he => hE e (by omega)) u S r m1 e2 hu with ⟨g, m2, a1, a2, a3⟩ | ⟨S1, u1, r1, m2, a1, a2, a3, a4, a5, a6⟩
        · exact Or.inl ⟨g, m2, by rw [a1]; rfl, a2, a3⟩
        · refine Or.inr ⟨S1 ++ [(20, 0)], u1, r1, m2, by rw [a1]; rfl, a2, ?_, ofr_t e3 a4, a5, a6⟩
          rw [List.append_assoc]
          rw [List.replicate_succ] at a3
          exact a3
      · have n114 : ¬ nI t.1 = 114 := show ¬ nI t.1 = nI 114 from fun q => c1 ((nI_eq (by omega) (by omega)).mp q)
        rw [if_neg c1, if_neg n114, kk, Option.bind_some]
        dsimp only
        rw [if_neg n114, kk, Option.bind_some]
        dsimp only
        by_cases c2 : t.1 = 40
        · obtain ⟨m1, e1, e2, e3⟩ := cts_st ho ho2 h (by omega)
          have en : nI (nests + nots) + 1 = nI (7 - d) := by
            show nI (nests + nots) + nI 1 = _
            rw [nI_add, show nests + nots + 1 = 7 - d by omega]
          rw [if_pos c2, if_pos (show nI t.1 = 40 by rw [c2]; rfl), if_pos (show nI (nests + nots) < 7 from show nI (nests + nots) < nI 7 from nI_lt (by omega) (by omega)), e1, Option.bind_some]
          dsimp only
          rw [en]
          rcases hE d (by omega) u S r m1 e2 hu with ⟨g, m2, a1, a2, a3⟩ | ⟨S1, u1, r1, m2, a1, a2, a3, a4, a5, a6⟩
          · refine Or.inl ⟨g, m2, by rw [a1]; rfl, ?_, a3⟩
            rw [a2]
            rfl
          · rw [a1, sbd_r, a2, Option.bind_some, if_neg (show ¬ nI 1 = 0 by decide)]
            dsimp only
            rcases tak_c a3.1 (k := 41) (by omega) (by omega) with ⟨g, m3, b1, b2, b3, _⟩ | ⟨r2, m3, b1, b2, b3, b4⟩
            · have b2 : f_X8_take 41 m2 = some (nI 0, m3) := b2
              refine Or.inl ⟨g, m3, by rw [b1]; rfl, ?_, b3⟩
              rw [b2]
              rfl
            · have b2 : f_X8_take 41 m2 = some (nI 1, m3) := b2
              have gg := tfw_6 b4
              have d3 : cts_ o B ln u1 S1 r2 m3 := ⟨b3, ⟨(gg _ _ (by omega)).trans a3.2.1.1, fun i x hi hl => (gg _ _ (by omega)).trans (a3.2.1.2 i x hi hl)⟩, (gg _ _ (by omega)).trans a3.2.2.1, (gg _ _ (by omega)).trans a3.2.2.2⟩
              obtain ⟨m4, d1, d2, d4⟩ := nts_c (f := f) (x1 := nI nests) (x3 := 1) ho ho2 (nots := nots) (by omega) nots 0 S1 m3 (by omega) d3
              refine Or.inr ⟨S1, u1, r2, m4, by rw [b1]; rfl, ?_, d2, ofr_t e3 (ofr_t a4 (ofr_t (ofr_1 b4) d4)), a5, a6⟩
              rw [b2, Option.bind_some, if_neg (show ¬ nI 1 = 0 by decide)]
              exact d1
        · rw [if_neg c2, if_neg (show ¬ nI t.1 = 40 from show ¬ nI t.1 = nI 40 from fun q => c2 ((nI_eq (by omega) (by omega)).mp q))]
          rcases cmp_c ho ho2 hal h hu with ⟨g, m1, a1, a2, a3⟩ | ⟨S1, u1, r1, m1, a1, a2, a3, a4, a5, a6⟩
          · refine Or.inl ⟨g, m1, a1, ?_, a3⟩
            rw [a2]
            rfl
          · obtain ⟨m2, b1, b2, b3⟩ := nts_c (f := f) (x1 := nI nests) (x3 := 0) ho ho2 (nots := nots) (by omega) nots 0 S1 m1 (by omega) a3
            refine Or.inr ⟨S1, u1, r1, m2, a1, ?_, b2, ofr_t a4 b3, a5, a6⟩
            rw [a2, Option.bind_some, if_neg (show ¬ nI 1 = 0 by decide)]
            exact b1
