/-! ===== the reference: signs ===== -/
theorem srt_m {L : List Nat} {t : tkn_} {r : List tkn_} {m : fm_} (h : rsn_ L (t :: r) m) : gi_ m 106 6 = nI (srk_ t.1) ∧ srk_ t.1 < 128 ∧ (srk_ t.1 = 43 ↔ t.1 = 43) ∧ (srk_ t.1 = 45 ↔ t.1 = 45) ∧ (srk_ t.1 = 61 ↔ t.1 = 61) ∧ (srk_ t.1 = 60 ↔ t.1 = 60) ∧ (srk_ t.1 = 62 ↔ t.1 = 62) ∧ (srk_ t.1 = 41 ↔ t.1 = 41) ∧ (srk_ t.1 = 59 ↔ t.1 = 59) :=
  ⟨(rsn_h h).1, srk_b (rsn_h h).2.2.2.2.1, srk_e (by omega) (by omega) (by omega), srk_e (by omega) (by omega) (by omega), srk_e (by omega) (by omega) (by omega), srk_e (by omega) (by omega) (by omega), srk_e (by omega) (by omega) (by omega), srk_e (by omega) (by omega) (by omega), srk_e (by omega) (by omega) (by omega)⟩
theorem sgp_m {L : List Nat} {j ol b u : Nat} (hj : j < 6) {P K : List Nat} {S : cd_} {t : tkn_} {r : List tkn_} {m : fm_} (h : rt0_ L j ol b u (P ++ K) S (t :: r) m) (ht : t.1 = 43 ∨ t.1 = 45) {now : Nat} (hn : now = 3 ∨ now = 4) (hp : ∀ p ∈ P, 26 ≤ p ∧ p < 28) (hk : hdk_ (fun k => k < 26) K) (h4 : (P ++ K).length < 400) (h7 : b + S.length + P.length ≤ 700) : ∃ m1, f_X12_sign (nI now) m = some (nI (now - 2), m1) ∧ rt0_ L j ol b u ((if t.1 = 43 then 26 else 27) :: K) (S ++ opc_ P) r m1 ∧ mfr_ (700 * j + b) m m1 := by
  obtain ⟨q1, q2, q3, q4, _⟩ := srt_m h.1
  obtain ⟨m1, a1, a2, a3⟩ := set_m hj (lo := 26) (by omega) hk P S m h hp (by omega) h7
  have a1 : f_X12_settle 26 m = some (0, m1) := a1
  obtain ⟨p1, p2, p3, p4, _⟩ := srt_m a2.1
  have hl : K.length < 400 := by rw [List.length_append] at h4; omega
  have h23 : f_X12_sign (nI now) m = f_X12_sign_23 (nI now) m := by
    unfold f_X12_sign
    rw [q1, if_neg (show ¬ nI now = 5 from show ¬ nI now = nI 5 from fun q => by have := (nI_eq (by omega) (by omega)).mp q; omega)]
    by_cases c : t.1 = 43
    · rw [if_pos (show nI (srk_ t.1) = 43 by rw [q3.mpr c]; rfl)]
    · rw [if_neg (show ¬ nI (srk_ t.1) = 43 from show ¬ nI (srk_ t.1) = nI 43 from fun q => c (q3.mp ((nI_eq (by omega) (by omega)).mp q))), if_pos (show nI (srk_ t.1) = 45 by rw [q4.mpr (ht.resolve_left c)]; rfl)]
  have fin : ∀ m2 : fm_, (if nI now = 3 then some ((1 : Int32), m2) else some ((2 : Int32), m2)) = some (nI (now - 2), m2) := by
    intro m2
    rcases hn with e | e <;> subst e <;> rfl
  rw [h23, e_X12_sign_23, a1, Option.bind_some]
  dsimp only
  rw [p1]
  by_cases c : t.1 = 43
  · obtain ⟨m2, b1, b2, b3⟩ := hld_m a2 hl (x := 26) (by omega)
    have b1 : f_X12_hold 26 m1 = some (0, m2) := b1
    obtain ⟨m3, d1, d2, d3⟩ := nxt_m b2 (by omega)
    refine ⟨m3, ?_, ?_, mfr_t a3 (mfr_t (b3 _) (d3 _))⟩
    · rw [if_pos (show nI (srk_ t.1) = 43 by rw [p3.mpr c]; rfl), b1, Option.bind_some]
      dsimp only
      rw [d1, Option.bind_some]
      exact fin m3
    · rw [if_pos c]; exact d2
  · obtain ⟨m2, b1, b2, b3⟩ := hld_m a2 hl (x := 27) (by omega)
    have b1 : f_X12_hold 27 m1 = some (0, m2) := b1
    obtain ⟨m3, d1, d2, d3⟩ := nxt_m b2 (by omega)
    refine ⟨m3, ?_, ?_, mfr_t a3 (mfr_t (b3 _) (d3 _))⟩
    · rw [if_neg (show ¬ nI (srk_ t.1) = 43 from show ¬ nI (srk_ t.1) = nI 43 from fun q => c (p3.mp ((nI_eq (by omega) (by omega)).mp q))), b1, Option.bind_some]
      dsimp only
      rw [d1, Option.bind_some]
      exact fin m3
    · rw [if_neg c]; exact d2
theorem sgc_m {L : List Nat} {j ol b u : Nat} (hj : j < 6) {P K : List Nat} {S : cd_} {t : tkn_} {r : List tkn_} {m : fm_} (h : rt0_ L j ol b u (P ++ K) S (t :: r) m) (ht : t.1 = 60 ∨ t.1 = 62 ∨ t.1 = 61) (hp : ∀ p ∈ P, 26 ≤ p ∧ p < 28) (hk : hdk_ (fun k => k < 26) K) (h4 : (P ++ K).length < 400) (h7 : b + S.length + P.length ≤ 700) : ∃ m1, f_X12_sign (nI 3) m = some (nI 2, m1) ∧ rt0_ L j ol b u (cmo_ t.1 :: K) (S ++ opc_ P) r m1 ∧ mfr_ (700 * j + b) m m1 := by
  obtain ⟨q1, q2, q3, q4, q5, q6, q7, _⟩ := srt_m h.1
  obtain ⟨m1, a1, a2, a3⟩ := set_m hj (lo := 26) (by omega) hk P S m h hp (by omega) h7
  have a1 : f_X12_settle 26 m = some (0, m1) := a1
  obtain ⟨p1, p2, p3, p4, p5, p6, p7, _⟩ := srt_m a2.1
  have hl : K.length < 400 := by rw [List.length_append] at h4; omega
  have n43 : ¬ nI (srk_ t.1) = 43 := show ¬ nI (srk_ t.1) = nI 43 from fun q => by have := q3.mp ((nI_eq (by omega) (by omega)).mp q); omega
  have n45 : ¬ nI (srk_ t.1) = 45 := show ¬ nI (srk_ t.1) = nI 45 from fun q => by have := q4.mp ((nI_eq (by omega) (by omega)).mp q); omega
  have i61 : t.1 = 61 → nI (srk_ t.1) = 61 := fun c => by rw [q5.mpr c]; rfl
  have n61 : ¬ t.1 = 61 → ¬ nI (srk_ t.1) = 61 := fun c => show ¬ nI (srk_ t.1) = nI 61 from fun q => c (q5.mp ((nI_eq (by omega) (by omega)).mp q))
  have i60 : t.1 = 60 → nI (srk_ t.1) = 60 := fun c => by rw [q6.mpr c]; rfl
  have n60 : ¬ t.1 = 60 → ¬ nI (srk_ t.1) = 60 := fun c => show ¬ nI (srk_ t.1) = nI 60 from fun q => c (q6.mp ((nI_eq (by omega) (by omega)).mp q))
  have i62 : t.1 = 62 → nI (srk_ t.1) = 62 := fun c => by rw [q7.mpr c]; rfl
  have h96 : f_X12_sign (nI 3) m = f_X12_sign_96 (nI 3) m := by
    unfold f_X12_sign
    rw [q1, if_neg (show ¬ nI 3 = 5 by decide), if_neg n43, if_neg n45, e_X12_sign_64, if_pos (show nI 3 = 3 from rfl), q1]
    by_cases c : t.1 = 61
    · rw [if_pos (i61 c)]
    · rw [if_neg (n61 c)]
      by_cases c2 : t.1 = 60
      · rw [if_pos (i60 c2)]
      · rw [if_neg (n60 c2), if_pos (i62 (by omega))]
  have go : ∀ x, x ≤ 28 → ∃ m3, (Option.bind (f_X12_hold (nI x) m1) fun q20 => (Option.bind (f_X12_next q20.2) fun q23 => ((some ((2 : Int32), q23.2))))) = some (nI 2, m3) ∧ rt0_ L j ol b u (x :: K) (S ++ opc_ P) r m3 ∧ mfr_ (700 * j + b) m m3 := by
    intro x hx
    obtain ⟨m2, b1, b2, b3⟩ := hld_m a2 hl hx
    obtain ⟨m3, d1, d2, d3⟩ := nxt_m b2 (by omega)
    refine ⟨m3, ?_, d2, mfr_t a3 (mfr_t (b3 _) (d3 _))⟩
    rw [b1, Option.bind_some]
    dsimp only
    rw [d1, Option.bind_some]
    rfl
  rw [h96, e_X12_sign_96, a1, Option.bind_some]
  dsimp only
  rw [p1]
  by_cases c : t.1 = 61
  · rw [if_pos (i61 c), show cmo_ t.1 = 23 by rw [c]; rfl]
    exact go 23 (by omega)
  · rw [if_neg (n61 c)]
    by_cases c2 : t.1 = 60
    · rw [if_pos (i60 c2), show cmo_ t.1 = 24 by rw [c2]; rfl]
      exact go 24 (by omega)
    · rw [if_neg (n60 c2), show cmo_ t.1 = 25 by rw [show t.1 = 62 by omega]; rfl]
      exact go 25 (by omega)
/-- behind a one: no + and no - there -/
theorem s142_m {L : List Nat} {t : tkn_} {r : List tkn_} {m : fm_} (h : rsn_ L (t :: r) m) {now : Nat} (hn : (now = 4 ∧ ¬ t.1 = 43 ∧ ¬ t.1 = 45) ∨ now = 5) : f_X12_sign (nI now) m = f_X12_sign_142 (nI now) m := by
  obtain ⟨q1, q2, q3, q4, _⟩ := srt_m h
  have h64 : f_X12_sign_64 (nI now) m = f_X12_sign_142 (nI now) m := by
    rw [e_X12_sign_64, if_neg (show ¬ nI now = 3 from show ¬ nI now = nI 3 from fun q => by have := (nI_eq (by omega) (by omega)).mp q; omega)]
  unfold f_X12_sign
  rw [h64, q1]
  by_cases c : now = 5
  · rw [if_pos (show nI now = 5 by rw [c]; rfl)]
  · have hn := hn.resolve_right c
    rw [if_neg (show ¬ nI now = 5 from show ¬ nI now = nI 5 from fun q => c ((nI_eq (by omega) (by omega)).mp q)), if_neg (show ¬ nI (srk_ t.1) = 43 from show ¬ nI (srk_ t.1) = nI 43 from fun q => hn.2.1 (q3.mp ((nI_eq (by omega) (by omega)).mp q))), if_neg (show ¬ nI (srk_ t.1) = 45 from show ¬ nI (srk_ t.1) = nI 45 from fun q => hn.2.2 (q4.mp ((nI_eq (by omega) (by omega)).mp q)))]
theorem sga_m {L : List Nat} {j ol b u : Nat} (hj : j < 6) {P K : List Nat} {S : cd_} {t : tkn_} {r : List tkn_} {m : fm_} (h : rt0_ L j ol b u (P ++ K) S (t :: r) m) {an : Bool} (ht : t.1 = if an = true then 113 else 112) {now : Nat} (hn : now = 4 ∨ now = 5) (hp : ∀ p ∈ P, p < 28 ∧ (an = true → ¬ p = 21)) (hk : hdk_ (fun k => an = true ∧ k = 21) K) (h4 : (P ++ K).length < 400) (h7 : b + S.length + P.length ≤ 700) : ∃ m1, f_X12_sign (nI now) m = some (nI 0, m1) ∧ rt0_ L j ol b u ((if an = true then 22 else 21) :: K) (S ++ opc_ P) r m1 ∧ mfr_ (700 * j + b) m m1 := by
  have hl : K.length < 400 := by rw [List.length_append] at h4; omega
  have h2t : 2 ≤ t.1 := by
    rw [ht]
    cases an <;> decide
  obtain ⟨m1, a1, a2, a3⟩ := seo_m hj hk P S m h hp (by omega) h7
  have n3 : ¬ nI now = 3 := show ¬ nI now = nI 3 from fun q => by have := (nI_eq (by omega) (by omega)).mp q; omega
  have iw : f_X12_isWord 6385252 m = some (b01_ an, m) := by
    rw [isw_m h.1 (k := 14) (c := 6385252) (by omega) (by rfl), ht]
    cases an <;> rfl
  have iw2 : f_X12_isWord 28530 m = some (b01_ (!an), m) := by
    rw [isw_m h.1 (k := 13) (c := 28530) (by omega) (by rfl), ht]
    cases an <;> rfl
  have h43 : ¬ t.1 = 43 ∧ ¬ t.1 = 45 := by
    rw [ht]
    cases an <;> decide
  have h167 : f_X12_sign (nI now) m = f_X12_sign_167 (nI now) m := by
    rw [s142_m h.1 (by omega), e_X12_sign_142, if_neg n3, iw, Option.bind_some]
    dsimp only
    cases an with
    | true => rw [if_neg (show ¬ b01_ true = 0 by decide)]
    | false =>
      rw [if_pos (show b01_ false = 0 by decide), iw2, Option.bind_some]
      dsimp only
      rw [if_neg (show ¬ b01_ (!false) = 0 by decide)]
  rw [h167, e_X12_sign_167, iw, Option.bind_some]
  dsimp only
  rw [a1, Option.bind_some]
  dsimp only
  cases an with
  | true =>
    rw [if_neg (show ¬ b01_ true = 0 by decide), if_pos rfl]
    obtain ⟨m2, b1, b2, b3⟩ := hld_m a2 hl (x := 22) (by omega)
    have b1 : f_X12_hold 22 m1 = some (0, m2) := b1
    obtain ⟨m3, d1, d2, d3⟩ := nxt_m b2 h2t
    refine ⟨m3, ?_, d2, mfr_t a3 (mfr_t (b3 _) (d3 _))⟩
    rw [b1, Option.bind_some]
    dsimp only
    rw [d1, Option.bind_some]
    rfl
  | false =>
    rw [if_pos (show b01_ false = 0 by decide), if_neg (by decide)]
    obtain ⟨m2, b1, b2, b3⟩ := hld_m a2 hl (x := 21) (by omega)
    have b1 : f_X12_hold 21 m1 = some (0, m2) := b1
    obtain ⟨m3, d1, d2, d3⟩ := nxt_m b2 h2t
    refine ⟨m3, ?_, d2, mfr_t a3 (mfr_t (b3 _) (d3 _))⟩
    rw [b1, Option.bind_some]
    dsimp only
    rw [d1, Option.bind_some]
    rfl
theorem s201_m {L : List Nat} {t : tkn_} {r : List tkn_} {m : fm_} (h : rsn_ L (t :: r) m) {now : Nat} (hn : (now = 4 ∧ ¬ t.1 = 43 ∧ ¬ t.1 = 45) ∨ now = 5) (h1 : ¬ t.1 = 113) (h2 : ¬ t.1 = 112) : f_X12_sign (nI now) m = f_X12_sign_201 (nI now) m := by
  have iw : f_X12_isWord 6385252 m = some (b01_ false, m) := by
    rw [isw_m h (k := 14) (c := 6385252) (by omega) (by rfl), decide_eq_false (show ¬ t.1 = kd_ 14 from h1)]
  have iw2 : f_X12_isWord 28530 m = some (b01_ false, m) := by
    rw [isw_m h (k := 13) (c := 28530) (by omega) (by rfl), decide_eq_false (show ¬ t.1 = kd_ 13 from h2)]
  rw [s142_m h hn, e_X12_sign_142, if_neg (show ¬ nI now = 3 from show ¬ nI now = nI 3 from fun q => by have := (nI_eq (by omega) (by omega)).mp q; omega), iw, Option.bind_some]
  dsimp only
  rw [if_pos (show b01_ false = 0 by decide), iw2, Option.bind_some]
  dsimp only
  rw [if_pos (show b01_ false = 0 by decide)]
theorem s253_m {L : List Nat} {t : tkn_} {r : List tkn_} {m : fm_} (h : rsn_ L (t :: r) m) {x : Int32} : ∃ m1, f_X12_sign_253 x m = some (x, m1) ∧ flm_ (flt_ 2 t) m1 ∧ sa_ rfw_ m m1 := by
  obtain ⟨m8, x1, x2, x4, _⟩ := wrg_m h (c := 2) (by omega) (by omega)
  have x1 : f_X12_wrong 2 m = some (0, m8) := x1
  refine ⟨m8, ?_, x2, x4⟩
  rw [e_X12_sign_253, x1]
  rfl
/-- a sign that can't stand behind a left sum -/
theorem sw3_m {L : List Nat} {t : tkn_} {r : List tkn_} {m : fm_} (h : rsn_ L (t :: r) m) (h1 : ¬ (t.1 = 43 ∨ t.1 = 45)) (h2 : ¬ (t.1 = 60 ∨ t.1 = 62 ∨ t.1 = 61)) : ∃ m1, f_X12_sign (nI 3) m = some (nI 3, m1) ∧ flm_ (flt_ 2 t) m1 ∧ sa_ rfw_ m m1 := by
  obtain ⟨q1, q2, q3, q4, q5, q6, q7, _⟩ := srt_m h
  obtain ⟨m1, a1, a2, a3⟩ := s253_m h (x := nI 3)
  refine ⟨m1, ?_, a2, a3⟩
  have e3 : nI 3 = 3 := rfl
  have nn : ∀ k : Nat, k < 128 → ¬ srk_ t.1 = k → ¬ nI (srk_ t.1) = nI k := fun k hk hq q => hq ((nI_eq (by omega) (by omega)).mp q)
  unfold f_X12_sign
  rw [q1, if_neg (show ¬ nI 3 = 5 by decide), if_neg (show ¬ nI (srk_ t.1) = 43 from nn 43 (by omega) (by omega)), if_neg (show ¬ nI (srk_ t.1) = 45 from nn 45 (by omega) (by omega)), e_X12_sign_64, if_pos e3, q1, if_neg (show ¬ nI (srk_ t.1) = 61 from nn 61 (by omega) (by omega)), if_neg (show ¬ nI (srk_ t.1) = 60 from nn 60 (by omega) (by omega)), if_neg (show ¬ nI (srk_ t.1) = 62 from nn 62 (by omega) (by omega)), e_X12_sign_142, if_pos e3, e_X12_sign_201, if_pos e3]
  exact a1
/-- a sign that can't stand behind a one -/
theorem sw4_m {L : List Nat} {j ol b u : Nat} {K : List Nat} {S : cd_} {t : tkn_} {r : List tkn_} {m : fm_} (h : rt0_ L j ol b u K S (t :: r) m) (hK : K.length ≤ 400) (hs : ∀ k ∈ K, k ≤ 28) {now : Nat} (hn : (now = 4 ∧ ¬ t.1 = 43 ∧ ¬ t.1 = 45) ∨ now = 5) (h1 : ¬ t.1 = 113) (h2 : ¬ t.1 = 112) (h3 : t.1 = 41 → ¬ 28 ∈ K) : ∃ m1, f_X12_sign (nI now) m = some (nI now, m1) ∧ flm_ (flt_ 2 t) m1 ∧ sa_ rfw_ m m1 := by
  obtain ⟨q1, q2, q3, q4, q5, q6, q7, q8, _⟩ := srt_m h.1
  obtain ⟨m1, a1, a2, a3⟩ := s253_m h.1 (x := nI now)
  refine ⟨m1, ?_, a2, a3⟩
  rw [s201_m h.1 hn h1 h2, e_X12_sign_201, if_neg (show ¬ nI now = 3 from show ¬ nI now = nI 3 from fun q => by have := (nI_eq (by omega) (by omega)).mp q; omega), q1]
  by_cases c : t.1 = 41
  · rw [if_pos (show nI (srk_ t.1) = 41 by rw [q8.mpr c]; rfl), iso_m h hK hs, decide_eq_false (h3 c), Option.bind_some]
    dsimp only
    rw [if_pos (show b01_ false = 0 by decide)]
    exact a1
  · rw [if_neg (show ¬ nI (srk_ t.1) = 41 from show ¬ nI (srk_ t.1) = nI 41 from fun q => c (q8.mp ((nI_eq (by omega) (by omega)).mp q)))]
    exact a1
/-- what closes -/
theorem sgl_m {L : List Nat} {j ol b u : Nat} (hj : j < 6) {P K : List Nat} {S : cd_} {t : tkn_} {r : List tkn_} {m : fm_} (h : rt0_ L j ol b u (P ++ 28 :: K) S (t :: r) m) (ht : t.1 = 41) {now : Nat} (hn : now = 4 ∨ now = 5) (hp : ∀ p ∈ P, p < 28) (hs : ∀ k ∈ K, k ≤ 28) (h4 : (P ++ 28 :: K).length ≤ 400) (h7 : b + S.length + P.length ≤ 700) : ∃ m1, f_X12_sign (nI now) m = some (nI 5, m1) ∧ rt0_ L j ol b u K (S ++ opc_ P) r m1 ∧ mfr_ (700 * j + b) m m1 := by
  obtain ⟨q1, q2, q3, q4, q5, q6, q7, q8, _⟩ := srt_m h.1
  obtain ⟨m1, a1, a2, a3⟩ := set_m hj (lo := 0) (K := 28 :: K) (by omega) (fun k R e => by injection e with e1 e2; omega) P S m h (fun p q => ⟨by omega, hp p q⟩) h4 h7
  have a1 : f_X12_settle 0 m = some (0, m1) := a1
  have hd := dpk_l K
  have hl : (28 :: K).length ≤ 400 := by rw [List.length_append] at h4; omega
  rw [List.length_cons] at hl
  obtain ⟨c1, c2, c3, c4, c5, c6, c7, c8, c9⟩ := a2
  rw [List.length_cons] at c7
  rw [dpk_c, if_pos (Or.inl rfl), Nat.add_comm] at c9
  obtain ⟨s1, s2⟩ := stk_top (show stk_ 135 (nI 28 :: K.map nI) m1 from c8)
  have e52 : gi_ m1 106 52 - 1 = nI K.length := by
    rw [c7]
    show nI (K.length + 1) - nI 1 = _
    rw [pk_sub (by omega), Nat.add_sub_cancel]
  have e53 : gi_ m1 106 53 - 1 = nI (dpk_ K) := by
    rw [c9]
    show nI (dpk_ K + 1) - nI 1 = _
    rw [pk_sub (by omega), Nat.add_sub_cancel]
  have i1 : rt0_ L j ol b u K (S ++ opc_ P) (t :: r) (si_ (si_ m1 106 52 (nI K.length)) 106 53 (nI (dpk_ K))) := by
    refine ⟨rsn_si (rsn_si c1 (by omega) (by omega)) (by omega) (by omega), ?_, ?_, ?_, ?_, rws_g c6 (fun a k q => by rw [gi_si_ne (by omega), gi_si_ne (by omega)]), ?_, stk_si (stk_si s2 (by omega)) (by omega), gi_si_self⟩
    · rw [gi_si_ne (by omega), gi_si_ne (by omega)]; exact c2
    · rw [gi_si_ne (by omega), gi_si_ne (by omega)]; exact c3
    · rw [gi_si_ne (by omega), gi_si_ne (by omega)]; exact c4
    · rw [gi_si_ne (by omega), gi_si_ne (by omega)]; exact c5
    · rw [gi_si_ne (by omega), gi_si_self]
  obtain ⟨m3, d1, d2, d3⟩ := nxt_m i1 (by omega)
  refine ⟨m3, ?_, d2, mfr_t a3 (mfr_t (fun a k k1 k2 k3 => by rw [gi_si_ne (by omega), gi_si_ne (by omega)]) (d3 _))⟩
  have is : f_X12_isOpen m = some (b01_ true, m) := by
    rw [iso_m h h4 (fun k hk => by
      rcases List.mem_append.mp hk with z | z
      · have := hp k z; omega
      · rcases List.mem_cons.mp z with z | z
        · omega
        · exact hs k z), decide_eq_true (List.mem_append_right _ List.mem_cons_self)]
  rw [s201_m h.1 (by omega) (by omega) (by omega), e_X12_sign_201, if_neg (show ¬ nI now = 3 from show ¬ nI now = nI 3 from fun q => by have := (nI_eq (by omega) (by omega)).mp q; omega), q1, if_pos (show nI (srk_ t.1) = 41 by rw [q8.mpr ht]; rfl), is, Option.bind_some]
  dsimp only
  rw [if_neg (show ¬ b01_ true = 0 by decide), a1, Option.bind_some]
  dsimp only
  rw [e52, e53, d1]
  rfl
