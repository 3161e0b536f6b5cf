/-! ===== the reference reads an e ===== -/
theorem rE_f {f : Nat × Nat} {m : fm_} (h : flm_ f m) {x1 x2 x3 : Int32} : f_X12_readE_55 x1 x2 x3 m = some (0, m) := by
  rw [e_X12_readE_55, if_neg (flm_g h).2, if_neg (flm_g h).1]
theorem rE_n {k l : Nat} (hk : k < 100) (hl : l < 100) (h : ¬ k = l) : ¬ nI k = nI l := fun q => h ((nI_eq (by omega) (by omega)).mp q)
theorem rE_o {L : List Nat} {ts : List tkn_} {m : fm_} (h : rsn_ L ts m) {x1 : Int32} {now : Nat} (hn : now ≤ 2) : f_X12_readE_55 x1 (nI now) 1 m = Option.bind (f_X12_operand (nI now) m) fun q => f_X12_readE_55 x1 q.1 1 q.2 := by
  rw [e_X12_readE_55, if_pos (rsn_g h).2, if_neg (show ¬ (1 : Int32) = 0 by decide), if_neg (show ¬ nI now = 4 from rE_n (l := 4) (by omega) (by omega) (by omega)), if_neg (show ¬ nI now = 5 from rE_n (l := 5) (by omega) (by omega) (by omega)), if_neg (show ¬ nI now = 3 from rE_n (l := 3) (by omega) (by omega) (by omega))]
theorem rE_3 {L : List Nat} {ts : List tkn_} {m : fm_} (h : rsn_ L ts m) {x1 : Int32} : f_X12_readE_55 x1 (nI 3) 1 m = Option.bind (f_X12_sign (nI 3) m) fun q => f_X12_readE_55 x1 q.1 1 q.2 := by
  rw [e_X12_readE_55, if_pos (rsn_g h).2, if_neg (show ¬ (1 : Int32) = 0 by decide), if_neg (show ¬ nI 3 = 4 by decide), if_neg (show ¬ nI 3 = 5 by decide), if_pos (show nI 3 = 3 from rfl)]
theorem rE_4 {L : List Nat} {j ol b u : Nat} {K : List Nat} {S : cd_} {t : tkn_} {r : List tkn_} {m : fm_} (h : rt0_ L j ol b u K S (t :: r) m) (hK : K.length ≤ 400) (hs : ∀ k ∈ K, k ≤ 28) {x1 : Int32} {now : Nat} (hn : now = 4 ∨ now = 5) (hq : ¬ t.1 = 59 ∨ 28 ∈ K) : f_X12_readE_55 x1 (nI now) 1 m = Option.bind (f_X12_sign (nI now) m) fun q => f_X12_readE_55 x1 q.1 1 q.2 := by
  obtain ⟨q1, q2, q3, q4, q5, q6, q7, q8, q9⟩ := srt_m h.1
  have n3 : ¬ nI now = 3 := show ¬ nI now = 3 from rE_n (l := 3) (by omega) (by omega) (by omega)
  rw [e_X12_readE_55, if_pos (rsn_g h.1).2, if_neg (show ¬ (1 : Int32) = 0 by decide), q1]
  have key : (if nI (srk_ t.1) = 59 then
(Option.bind (f_X12_isOpen m) fun q38 =>
(if q38.1 = 0 then
((f_X12_readE_55 x1 (nI now) 0 q38.2))
else
(if nI now = 3 then
(Option.bind (f_X12_sign (nI now) q38.2) fun q47 =>
((f_X12_readE_55 x1 q47.1 1 q47.2)))
else
(Option.bind (f_X12_sign (nI now) q38.2) fun q51 =>
((f_X12_readE_55 x1 q51.1 1 q51.2))))))
else
(if nI now = 3 then
(Option.bind (f_X12_sign (nI now) m) fun q31 =>
((f_X12_readE_55 x1 q31.1 1 q31.2)))
else
(Option.bind (f_X12_sign (nI now) m) fun q35 =>
((f_X12_readE_55 x1 q35.1 1 q35.2))))) = Option.bind (f_X12_sign (nI now) m) fun q => f_X12_readE_55 x1 q.1 1 q.2 := by
    by_cases c : t.1 = 59
    · rw [if_pos (show nI (srk_ t.1) = 59 by rw [q9.mpr c]; rfl), iso_m h hK hs, decide_eq_true (hq.resolve_left (fun z => z c)), Option.bind_some]
      dsimp only
      rw [if_neg (show ¬ b01_ true = 0 by decide), if_neg n3]
    · rw [if_neg (show ¬ nI (srk_ t.1) = 59 from show ¬ nI (srk_ t.1) = nI 59 from fun q => c (q9.mp ((nI_eq (by omega) (by omega)).mp q))), if_neg n3]
  rcases hn with e | e
  · rw [if_pos (show nI now = 4 by rw [e]; rfl)]
    exact key
  · rw [if_neg (show ¬ nI now = 4 from rE_n (l := 4) (by omega) (by omega) (by omega)), if_pos (show nI now = 5 by rw [e]; rfl)]
    exact key
theorem rE_e {L : List Nat} {j ol b u : Nat} {K : List Nat} {S : cd_} {t : tkn_} {r : List tkn_} {m : fm_} (h : rt0_ L j ol b u K S (t :: r) m) (hK : K.length ≤ 400) (hs : ∀ k ∈ K, k ≤ 28) {x1 : Int32} {now : Nat} (hn : now = 4 ∨ now = 5) (ht : t.1 = 59) (hq : ¬ 28 ∈ K) : f_X12_readE_55 x1 (nI now) 1 m = f_X12_readE_55 x1 (nI now) 0 m := by
  obtain ⟨q1, q2, q3, q4, q5, q6, q7, q8, q9⟩ := srt_m h.1
  have is : f_X12_isOpen m = some (b01_ false, m) := by rw [iso_m h hK hs, decide_eq_false hq]
  have e59 : nI (srk_ t.1) = 59 := by rw [q9.mpr ht]; rfl
  rw [e_X12_readE_55, if_pos (rsn_g h.1).2, if_neg (show ¬ (1 : Int32) = 0 by decide), q1]
  rcases hn with e | e
  · rw [if_pos (show nI now = 4 by rw [e]; rfl), if_pos e59, is, Option.bind_some]
    dsimp only
    rw [if_pos (show b01_ false = 0 by decide)]
  · rw [if_neg (show ¬ nI now = 4 from rE_n (l := 4) (by omega) (by omega) (by omega)), if_pos (show nI now = 5 by rw [e]; rfl), if_pos e59, is, Option.bind_some]
    dsimp only
    rw [if_pos (show b01_ false = 0 by decide)]
def opl_ (j : Nat) : List Nat := if j = 0 then [] else [j]
theorem opl_0 : opl_ 0 = [] := rfl
theorem opl_n {j : Nat} (h : ¬ j = 0) : opl_ j = [j] := if_neg h
theorem opl_k {j : Nat} : opc_ (opl_ j) = jnc_ j := by
  unfold opl_ jnc_
  by_cases c : j = 0
  · rw [if_pos c, if_pos c]; rfl
  · rw [if_neg c, if_neg c]; rfl
theorem opl_j {j : Nat} : (opl_ j).length = j1_ j := by
  unfold opl_ j1_
  by_cases c : j = 0
  · rw [if_pos c, if_pos c]; rfl
  · rw [if_neg c, if_neg c]; rfl
theorem j1_1 {j : Nat} : j1_ j ≤ 1 := by
  unfold j1_
  by_cases c : j = 0
  · rw [if_pos c]; omega
  · rw [if_neg c]; omega
theorem opl_m {j p : Nat} (h : p ∈ opl_ j) : p = j ∧ ¬ j = 0 := by
  unfold opl_ at h
  by_cases c : j = 0
  · rw [if_pos c] at h; cases h
  · rw [if_neg c] at h
    exact ⟨List.mem_singleton.mp h, c⟩
theorem opc_a {P Q : List Nat} : opc_ (P ++ Q) = opc_ P ++ opc_ Q := List.map_append
theorem opc_l {P : List Nat} : (opc_ P).length = P.length := List.length_map _
def nhd_ (now : Nat) (r : List tkn_) : Prop := (now = 4 ∧ ∀ t r1, r = t :: r1 → ¬ t.1 = 43 ∧ ¬ t.1 = 45) ∨ now = 5
/-- where reading goes to behind a one or an e -/
def SR_ (L : List Nat) (j ol b : Nat) (x1 : Int32) (g : Nat → Prop) (pl : Nat) (spec : ers_) (lhs : Option (Int32 × fm_)) (K : List Nat) (m : fm_) : Prop := (∃ f m1, spec = .inl f ∧ lhs = some (0, m1) ∧ flm_ f m1 ∧ mfr_ (700 * j + b) m m1) ∨ (∃ S1 u1 r m1 P S2 now, spec = .inr (S1, u1, r) ∧ lhs = f_X12_readE_55 x1 (nI now) 1 m1 ∧ rt0_ L j ol b u1 (P ++ K) S2 r m1 ∧ S1 = S2 ++ opc_ P ∧ (∀ p ∈ P, p < 28 ∧ g p) ∧ P.length ≤ pl ∧ nhd_ now r ∧ b + S2.length + (P ++ K).length + r.length ≤ 701 ∧ mfr_ (700 * j + b) m m1)
theorem rcp_m {L : List Nat} {j ol b : Nat} (hj : j < 6) {al : Nat → Bool} (hal : mym_ ol al) {x1 : Int32} {K : List Nat} (hK : K.length ≤ 60) (hk : hdk_ (fun k => k < 26) K) (hs : ∀ k ∈ K, k ≤ 28) : ∀ (n cm jn u : Nat) (S : cd_) (ts : List tkn_) (m : fm_) (now : Nat), rt0_ L j ol b u (opl_ jn ++ (opl_ cm ++ K)) S ts m → 51 ≤ n + u → u ≤ 50 → (cm = 0 ∨ cm = 23 ∨ cm = 24 ∨ cm = 25) → (jn = 0 ∨ jn = 26 ∨ jn = 27) → now ≤ 2 → (now = 2 ↔ ¬ cm = 0) → (now = 0 → ∀ t r, ts = t :: r → ¬ t.1 = 40 ∧ ¬ t.1 = 114) → b + S.length + (j1_ jn + j1_ cm + K.length) + ts.length ≤ 701 → SR_ L j ol b x1 (fun p => ¬ p = 21) 2 (rcp_ al n cm jn u S ts) (f_X12_readE_55 x1 (nI now) 1 m) K m := by
  intro n
  induction n with
  | zero => intro cm jn u S ts m now h h1 h2; omega
  | succ n ih =>
    intro cm jn u S ts m now h h51 hu hcm hjn hn hnc hn0 hbd
    have j1a := j1_1 (j := jn)
    have j1b := j1_1 (j := cm)
    obtain ⟨t, r, rfl⟩ := wts_n h.1.2.2.1
    rw [List.length_cons] at hbd
    rw [rE_o h.1 hn]
    rcases opr_m hj hal h (by omega) hu hn (fun z => hn0 z t r rfl) with ⟨f, m1, a1, a2, a3, a4⟩ | ⟨q, m1, a1, a2, a3, a4⟩
    · refine Or.inl ⟨f, m1, rcp_e a1, ?_, a3, a4⟩
      rw [a2, Option.bind_some]
      exact rE_f a3
    · rw [a2, Option.bind_some]
      dsimp only
      have h50 : u < 50 := by
        have := (runt_t h.1.2.2.1 a1).1
        exact this
      obtain ⟨t2, r2, rfl⟩ := wts_n a3.1.2.2.1
      have ht2 := a3.1.2.2.1.1
      rw [List.length_cons] at hbd
      rw [rcp_s a1]
      have hS1 : (S ++ [q]).length = S.length + 1 := by rw [List.length_append]; rfl
      have lK : (opl_ cm ++ K).length = j1_ cm + K.length := by rw [List.length_append, opl_j]
      have lJ : (opl_ jn ++ (opl_ cm ++ K)).length = j1_ jn + j1_ cm + K.length := by rw [List.length_append, opl_j, lK]; omega
      have hpj : ∀ p ∈ opl_ jn, 26 ≤ p ∧ p < 28 := fun p hp => by
        have := opl_m hp
        omega
      have hkc : hdk_ (fun k => k < 26) (opl_ cm ++ K) := by
        intro k R e
        by_cases c : cm = 0
        · rw [c, opl_0, List.nil_append] at e
          exact hk k R e
        · rw [opl_n c] at e
          injection e with e1 e2
          show k ≤ 28 ∧ (k = 28 ∨ k < 26)
          omega
      have hsc : ∀ k ∈ opl_ jn ++ (opl_ cm ++ K), k ≤ 28 := fun k hk => by
        rcases List.mem_append.mp hk with z | z
        · have := opl_m z; omega
        · rcases List.mem_append.mp z with z | z
          · have := opl_m z; omega
          · exact hs k z
      have hSj : (S ++ [q] ++ jnc_ jn).length = S.length + 1 + j1_ jn := by rw [List.length_append, hS1, jnc_k]
      by_cases c1 : t2.1 = 43 ∨ t2.1 = 45
      · rw [if_pos c1]
        have nj : ¬ (if t2.1 = 43 then 26 else 27) = 0 ∧ ((if t2.1 = 43 then 26 else 27) = 0 ∨ (if t2.1 = 43 then 26 else 27) = 26 ∨ (if t2.1 = 43 then 26 else 27) = 27) := by
          by_cases e : t2.1 = 43
          · rw [if_pos e]; omega
          · rw [if_neg e]; omega
        by_cases c2 : cm = 0
        · have n2 : ¬ now = 2 := fun z => hnc.mp z c2
          rw [if_neg n2, rE_3 a3.1]
          obtain ⟨m2, b1, b2, b3⟩ := sgp_m hj a3 c1 (now := 3) (Or.inl rfl) hpj hkc (by omega) (by rw [hS1, opl_j]; omega)
          rw [b1, Option.bind_some]
          dsimp only
          rw [opl_k] at b2
          rcases ih cm _ (u + 1) _ r2 m2 1 (by rw [opl_n nj.1]; exact b2) (by omega) (by omega) hcm nj.2 (by omega) (by omega) (fun z => by omega) (by rw [hSj, j1_n nj.1]; omega) with ⟨f, m3, e1, e2, e3, e4⟩ | ⟨S1, u1, r1, m3, P, S2, nw, e1, e2, e3, e4, e5, e6, e7, e8, e9⟩
          · exact Or.inl ⟨f, m3, e1, e2, e3, mfr_t a4 (mfr_t b3 e4)⟩
          · exact Or.inr ⟨S1, u1, r1, m3, P, S2, nw, e1, e2, e3, e4, e5, e6, e7, e8, mfr_t a4 (mfr_t b3 e9)⟩
        · have n2 : now = 2 := hnc.mpr c2
          rw [if_pos n2, rE_4 a3 (by omega) hsc (Or.inl rfl) (Or.inl (by omega))]
          obtain ⟨m2, b1, b2, b3⟩ := sgp_m hj a3 c1 (now := 4) (Or.inr rfl) hpj hkc (by omega) (by rw [hS1, opl_j]; omega)
          rw [b1, Option.bind_some]
          dsimp only
          rw [opl_k] at b2
          rcases ih cm _ (u + 1) _ r2 m2 2 (by rw [opl_n nj.1]; exact b2) (by omega) (by omega) hcm nj.2 (by omega) (by omega) (fun z => by omega) (by rw [hSj, j1_n nj.1]; omega) with ⟨f, m3, e1, e2, e3, e4⟩ | ⟨S1, u1, r1, m3, P, S2, nw, e1, e2, e3, e4, e5, e6, e7, e8, e9⟩
          · exact Or.inl ⟨f, m3, e1, e2, e3, mfr_t a4 (mfr_t b3 e4)⟩
          · exact Or.inr ⟨S1, u1, r1, m3, P, S2, nw, e1, e2, e3, e4, e5, e6, e7, e8, mfr_t a4 (mfr_t b3 e9)⟩
      · rw [if_neg c1]
        by_cases c2 : cm = 0
        · have n2 : ¬ now = 2 := fun z => hnc.mp z c2
          rw [if_pos c2, if_neg n2, rE_3 a3.1]
          subst c2
          by_cases c3 : t2.1 = 60 ∨ t2.1 = 62 ∨ t2.1 = 61
          · rw [if_pos c3]
            have nc : ¬ cmo_ t2.1 = 0 := by
              have := cmo_v (k := t2.1)
              omega
            obtain ⟨m2, b1, b2, b3⟩ := sgc_m hj a3 c3 hpj hkc (by omega) (by rw [hS1, opl_j]; omega)
            rw [b1, Option.bind_some]
            dsimp only
            rw [opl_k] at b2
            rcases ih (cmo_ t2.1) 0 (u + 1) _ r2 m2 2 (by rw [opl_n nc]; exact b2) (by omega) (by omega) (Or.inr cmo_v) (Or.inl rfl) (by omega) (by omega) (fun z => by omega) (by rw [hSj, j1_n nc, j1_0]; rw [j1_0] at hbd; omega) with ⟨f, m3, e1, e2, e3, e4⟩ | ⟨S1, u1, r1, m3, P, S2, nw, e1, e2, e3, e4, e5, e6, e7, e8, e9⟩
            · exact Or.inl ⟨f, m3, e1, e2, e3, mfr_t a4 (mfr_t b3 e4)⟩
            · exact Or.inr ⟨S1, u1, r1, m3, P, S2, nw, e1, e2, e3, e4, e5, e6, e7, e8, mfr_t a4 (mfr_t b3 e9)⟩
          · rw [if_neg c3]
            obtain ⟨m2, b1, b2, b3⟩ := sw3_m a3.1 c1 c3
            refine Or.inl ⟨_, m2, rfl, ?_, b2, mfr_t a4 (mfr_w b3)⟩
            rw [b1, Option.bind_some]
            exact rE_f b2
        · have n2 : now = 2 := hnc.mpr c2
          rw [if_neg c2, if_pos n2]
          refine Or.inr ⟨_, u + 1, t2 :: r2, m1, opl_ jn ++ opl_ cm, S ++ [q], 4, rfl, rfl, by rw [List.append_assoc]; exact a3, ?_, fun p hp => ?_, ?_, Or.inl ⟨rfl, fun t r1 e => ?_⟩, ?_, a4⟩
          · rw [opc_a, opl_k, opl_n c2]
            simp only [List.append_assoc]
            rfl
          · rcases List.mem_append.mp hp with z | z
            · have := opl_m z
              show p < 28 ∧ ¬ p = 21
              omega
            · have := opl_m z
              show p < 28 ∧ ¬ p = 21
              omega
          · rw [List.length_append, opl_j, opl_j]
            omega
          · injection e with e1 e2
            subst e1
            omega
          · rw [List.append_assoc, lJ, hS1, List.length_cons]
            omega
