/-! ===== the reference: ones, an e ===== -/
def fla_ (a : Bool) : List Nat := if a = true then [22] else []
def flo_ (a : Bool) : List Nat := if a = true then [21] else []
theorem fla_l (a : Bool) : (fla_ a).length ≤ 1 ∧ opc_ (fla_ a) = (if a = true then [(22, 0)] else []) ∧ ∀ p ∈ fla_ a, p = 22 := by cases a <;> decide
theorem flo_l (a : Bool) : (flo_ a).length ≤ 1 ∧ opc_ (flo_ a) = (if a = true then [(21, 0)] else []) ∧ ∀ p ∈ flo_ a, p = 21 := by cases a <;> decide
theorem dpk_a : ∀ {P K : List Nat}, (∀ p ∈ P, ¬ p = 28 ∧ ¬ p = 20) → dpk_ (P ++ K) = dpk_ K
  | [], _, _ => rfl
  | p :: P, K, h => by
    have h1 := h p List.mem_cons_self
    show dpk_ (p :: (P ++ K)) = _
    rw [dpk_c, if_neg (by omega), Nat.zero_add]
    exact dpk_a (fun q hq => h q (List.mem_cons_of_mem _ hq))
/-- ones are read as the reference reads them -/
def ON_ (L : List Nat) (j ol b : Nat) (x1 : Int32) (d : Nat) (one : Nat → cd_ → List tkn_ → ers_) : Prop := ∀ (K : List Nat) (u : Nat) (S : cd_) (ts : List tkn_) (m : fm_), rt0_ L j ol b u K S ts m → dpk_ K = 7 - d → K.length ≤ 3 * (7 - d) + 2 → hdk_ (fun k => k < 26) K → (∀ k ∈ K, k ≤ 28) → u ≤ 50 → b + S.length + K.length + ts.length ≤ 701 → SR_ L j ol b x1 (fun p => ¬ p = 21) (d + 2) (one u S ts) (f_X12_readE_55 x1 (nI 0) 1 m) K m
theorem eit_m {L : List Nat} {j ol b : Nat} (hj : j < 6) {al : Nat → Bool} {x1 : Int32} {d : Nat} (hd : d ≤ 7) (h1 : ON_ L j ol b x1 d (rne_ al d)) {K : List Nat} (hK : K.length ≤ 3 * (7 - d)) (hk : hdk_ (fun _ => False) K) (hs : ∀ k ∈ K, k ≤ 28) (hdp : dpk_ K = 7 - d) : ∀ (n : Nat) (a o : Bool) (u : Nat) (S : cd_) (ts : List tkn_) (m : fm_), rt0_ L j ol b u (fla_ a ++ (flo_ o ++ K)) S ts m → 51 ≤ n + u → u ≤ 50 → b + S.length + (fla_ a ++ (flo_ o ++ K)).length + ts.length ≤ 701 → SR_ L j ol b x1 (fun _ => True) (d + 4) (eit_ (rne_ al d) n a o u S ts) (f_X12_readE_55 x1 (nI 0) 1 m) K m := by
  intro n
  induction n with
  | zero => intro a o u S ts m h h1 h2; omega
  | succ n ih =>
    intro a o u S ts m h h51 hu hbd
    obtain ⟨fa1, fa2, fa3⟩ := fla_l a
    obtain ⟨fo1, fo2, fo3⟩ := flo_l o
    have lJ : (fla_ a ++ (flo_ o ++ K)).length = (fla_ a).length + (flo_ o).length + K.length := by rw [List.length_append, List.length_append]; omega
    have hkj : hdk_ (fun k => k < 26) (fla_ a ++ (flo_ o ++ K)) := by
      intro k R e
      cases a with
      | true =>
        injection e with e1 e2
        show k ≤ 28 ∧ (k = 28 ∨ k < 26)
        omega
      | false =>
        cases o with
        | true =>
          injection e with e1 e2
          show k ≤ 28 ∧ (k = 28 ∨ k < 26)
          omega
        | false =>
          have := hk k R e
          exact ⟨this.1, Or.inl (this.2.resolve_right id)⟩
    have hsj : ∀ k ∈ fla_ a ++ (flo_ o ++ K), k ≤ 28 := fun k hk => by
      rcases List.mem_append.mp hk with z | z
      · have := fa3 k z; omega
      · rcases List.mem_append.mp z with z | z
        · have := fo3 k z; omega
        · exact hs k z
    have hdj : dpk_ (fla_ a ++ (flo_ o ++ K)) = 7 - d := by
      rw [dpk_a (fun p hp => by have := fa3 p hp; omega), dpk_a (fun p hp => by have := fo3 p hp; omega)]
      exact hdp
    rcases h1 _ u S ts m h hdj (by omega) hkj hsj hu hbd with ⟨f, m1, e1, e2, e3, e4⟩ | ⟨S1, u1, r, m1, P, S2, now, e1, e2, e3, e4, e5, e6, e7, e8, e9⟩
    · exact Or.inl ⟨f, m1, eit_e e1, e2, e3, e4⟩
    · obtain ⟨X, _, x2, x3, x4, _⟩ := rne_t (al := al) d u S ts S1 u1 r h.1.2.2.1 e1
      obtain ⟨t, r2, rfl⟩ := wts_n x4
      have ht := x4.1
      rw [List.length_cons, List.length_append, lJ] at e8
      have now45 : now = 4 ∨ now = 5 := by
        rcases e7 with z | z
        · exact Or.inl z.1
        · exact Or.inr z
      have lP : (P ++ (fla_ a ++ (flo_ o ++ K))).length = P.length + ((fla_ a).length + (flo_ o).length + K.length) := by rw [List.length_append, lJ]
      have hsp : ∀ k ∈ P ++ (fla_ a ++ (flo_ o ++ K)), k ≤ 28 := fun k hk => by
        rcases List.mem_append.mp hk with z | z
        · have := (e5 k z).1; omega
        · exact hsj k z
      rw [eit_s e1, e2]
      by_cases c1 : t.1 = 113
      · rw [if_pos c1, rE_4 e3 (by omega) hsp now45 (Or.inl (by omega))]
        have e3' : rt0_ L j ol b u1 ((P ++ fla_ a) ++ (flo_ o ++ K)) S2 (t :: r2) m1 := by rw [List.append_assoc]; exact e3
        obtain ⟨m2, b1, b2, b3⟩ := sga_m hj e3' (an := true) (by rw [if_pos rfl]; exact c1) now45 (fun p hp => by
          rcases List.mem_append.mp hp with z | z
          · exact ⟨(e5 p z).1, fun _ => (e5 p z).2⟩
          · have := fa3 p z
            exact ⟨by omega, fun _ => by omega⟩) (fun k R e => by
          cases o with
          | true =>
            injection e with e1 e2
            exact ⟨by omega, Or.inr ⟨rfl, by omega⟩⟩
          | false =>
            have := hk k R e
            exact ⟨this.1, Or.inl (this.2.resolve_right id)⟩) (by rw [List.append_assoc]; omega) (by rw [List.length_append]; omega)
        rw [b1, Option.bind_some]
        dsimp only
        have eS : S2 ++ opc_ (P ++ fla_ a) = S1 ++ (if a = true then [(22, 0)] else []) := by rw [opc_a, fa2, e4, List.append_assoc]
        rw [eS] at b2
        have lS : (S1 ++ (if a = true then [((22 : Nat), (0 : Nat))] else [])).length = S2.length + P.length + (fla_ a).length := by rw [← eS, List.length_append, opc_l, List.length_append, Nat.add_assoc]
        rcases ih true o u1 _ r2 m2 b2 (by omega) x3 (by
          show b + (S1 ++ (if a = true then [((22 : Nat), (0 : Nat))] else [])).length + (22 :: (flo_ o ++ K)).length + r2.length ≤ 701
          rw [lS, List.length_cons, List.length_append]
          omega) with ⟨f, m3, g1, g2, g3, g4⟩ | ⟨S9, u9, r9, m3, P9, Q9, nw, g1, g2, g3, g4, g5, g6, g7, g8, g9⟩
        · exact Or.inl ⟨f, m3, g1, g2, g3, mfr_t e9 (mfr_t b3 g4)⟩
        · exact Or.inr ⟨S9, u9, r9, m3, P9, Q9, nw, g1, g2, g3, g4, g5, g6, g7, g8, mfr_t e9 (mfr_t b3 g9)⟩
      · rw [if_neg c1]
        have eS : S2 ++ opc_ (P ++ fla_ a ++ flo_ o) = S1 ++ (if a = true then [(22, 0)] else []) ++ (if o = true then [(21, 0)] else []) := by rw [opc_a, opc_a, fa2, fo2, e4, List.append_assoc, List.append_assoc, List.append_assoc]
        have e3' : rt0_ L j ol b u1 ((P ++ fla_ a ++ flo_ o) ++ K) S2 (t :: r2) m1 := by rw [List.append_assoc, List.append_assoc]; exact e3
        have l3 : (P ++ fla_ a ++ flo_ o).length = P.length + (fla_ a).length + (flo_ o).length := by rw [List.length_append, List.length_append]
        have l4 : (P ++ fla_ a ++ flo_ o ++ K).length = P.length + (fla_ a).length + (flo_ o).length + K.length := by rw [List.length_append, l3]
        have hp3 : ∀ p ∈ P ++ fla_ a ++ flo_ o, p < 28 := fun p hp => by
          rcases List.mem_append.mp hp with z | z
          · rcases List.mem_append.mp z with z | z
            · exact (e5 p z).1
            · have := fa3 p z; omega
          · have := fo3 p z; omega
        by_cases c2 : t.1 = 112
        · rw [if_pos c2, rE_4 e3 (by omega) hsp now45 (Or.inl (by omega))]
          obtain ⟨m2, b1, b2, b3⟩ := sga_m hj e3' (an := false) (by rw [if_neg (by decide)]; exact c2) now45 (fun p hp => ⟨hp3 p hp, fun z => by cases z⟩) (fun k R e => by
            have := hk k R e
            exact ⟨this.1, Or.inl (this.2.resolve_right id)⟩) (by omega) (by omega)
          rw [b1, Option.bind_some]
          dsimp only
          rw [eS] at b2
          have lS : (S1 ++ (if a = true then [((22 : Nat), (0 : Nat))] else []) ++ (if o = true then [((21 : Nat), (0 : Nat))] else [])).length = S2.length + (P.length + (fla_ a).length + (flo_ o).length) := by rw [← eS, List.length_append, opc_l, l3]
          rcases ih false true u1 _ r2 m2 b2 (by omega) x3 (by
            show b + (S1 ++ (if a = true then [((22 : Nat), (0 : Nat))] else []) ++ (if o = true then [((21 : Nat), (0 : Nat))] else [])).length + (21 :: K).length + r2.length ≤ 701
            rw [lS, List.length_cons]
            omega) with ⟨f, m3, g1, g2, g3, g4⟩ | ⟨S9, u9, r9, m3, P9, Q9, nw, g1, g2, g3, g4, g5, g6, g7, g8, g9⟩
          · exact Or.inl ⟨f, m3, g1, g2, g3, mfr_t e9 (mfr_t b3 g4)⟩
          · exact Or.inr ⟨S9, u9, r9, m3, P9, Q9, nw, g1, g2, g3, g4, g5, g6, g7, g8, mfr_t e9 (mfr_t b3 g9)⟩
        · rw [if_neg c2]
          exact Or.inr ⟨_, u1, t :: r2, m1, P ++ fla_ a ++ flo_ o, S2, now, rfl, rfl, e3', eS.symm, fun p hp => ⟨hp3 p hp, trivial⟩, by omega, e7, by rw [l4, List.length_cons]; omega, e9⟩
theorem eit_h {al : Nat → Bool} : ∀ (d n : Nat) (a o : Bool) (u : Nat) (S : cd_) (ts : List tkn_) (S1 : cd_) (u1 : Nat) (t : tkn_) (r : List tkn_), eit_ (rne_ al d) n a o u S ts = .inr (S1, u1, t :: r) → ¬ t.1 = 113 ∧ ¬ t.1 = 112 := by
  intro d n
  induction n with
  | zero => intro a o u S ts S1 u1 t r h; cases h
  | succ n ih =>
    intro a o u S ts S1 u1 t r h
    cases hr : rne_ al d u S ts with
    | inl f => rw [eit_e hr] at h; cases h
    | inr p =>
      obtain ⟨S2, u2, r2⟩ := p
      cases r2 with
      | nil =>
        have h : sbd_ (rne_ al d u S ts) _ = _ := h
        rw [hr] at h
        cases h
      | cons t2 r3 =>
        rw [eit_s hr] at h
        by_cases c1 : t2.1 = 113
        · rw [if_pos c1] at h
          exact ih _ _ _ _ _ _ _ _ _ h
        · rw [if_neg c1] at h
          by_cases c2 : t2.1 = 112
          · rw [if_pos c2] at h
            exact ih _ _ _ _ _ _ _ _ _ h
          · rw [if_neg c2] at h
            injection h with h
            injection h with e1 e2
            injection e2 with e2 e3
            injection e3 with e3 e4
            subst e3
            exact ⟨c1, c2⟩
theorem rne_m {L : List Nat} {j ol b : Nat} (hj : j < 6) {al : Nat → Bool} (hal : mym_ ol al) {x1 : Int32} : ∀ d, d ≤ 7 → ON_ L j ol b x1 d (rne_ al d) := by
  have comp : ∀ (d : Nat) (K : List Nat) (u : Nat) (S : cd_) (t : tkn_) (r : List tkn_) (m : fm_), d ≤ 7 → rt0_ L j ol b u K S (t :: r) m → K.length ≤ 3 * (7 - d) + 2 → hdk_ (fun k => k < 26) K → (∀ k ∈ K, k ≤ 28) → u ≤ 50 → b + S.length + K.length + (t :: r).length ≤ 701 → ¬ t.1 = 40 → ¬ t.1 = 114 → SR_ L j ol b x1 (fun p => ¬ p = 21) (d + 2) (rcp_ al 51 0 0 u S (t :: r)) (f_X12_readE_55 x1 (nI 0) 1 m) K m := by
    intro d K u S t r m hd h hK hk hs hu hbd n1 n2
    rcases rcp_m hj hal (by omega) hk hs 51 0 0 u S (t :: r) m 0 h (by omega) hu (Or.inl rfl) (Or.inl rfl) (by omega) (by omega) (fun _ t1 r1 e => by injection e with e1 e2; subst e1; exact ⟨n1, n2⟩) (by rw [j1_0]; omega) with ⟨f, m3, g1, g2, g3, g4⟩ | ⟨S9, u9, r9, m3, P9, Q9, nw, g1, g2, g3, g4, g5, g6, g7, g8, g9⟩
    · exact Or.inl ⟨f, m3, g1, g2, g3, g4⟩
    · exact Or.inr ⟨S9, u9, r9, m3, P9, Q9, nw, g1, g2, g3, g4, g5, by omega, g7, g8, g9⟩
  intro d
  induction d with
  | zero =>
    intro hd K u S ts m h hdp hK hk hs hu hbd
    obtain ⟨t, r, rfl⟩ := wts_n h.1.2.2.1
    rw [rne_0]
    by_cases c : t.1 = 114 ∨ t.1 = 40
    · rw [if_pos c, rE_o h.1 (by omega)]
      obtain ⟨m1, a1, a2, a3⟩ := (opo_m h (by omega) (by omega)).1 (by omega)
      refine Or.inl ⟨_, m1, rfl, ?_, a2, a3 _⟩
      rw [a1, Option.bind_some]
      exact rE_f a2
    · rw [if_neg c]
      exact comp 0 K u S t r m hd h hK hk hs hu hbd (fun q => c (Or.inr q)) (fun q => c (Or.inl q))
  | succ d ih =>
    intro hd K u S ts m h hdp hK hk hs hu hbd
    obtain ⟨t, r, rfl⟩ := wts_n h.1.2.2.1
    have hbd0 := hbd
    rw [List.length_cons] at hbd
    rw [rne_s]
    by_cases c1 : t.1 = 114
    · rw [if_pos c1, rE_o h.1 (by omega)]
      obtain ⟨m1, a1, a2, a3⟩ := (opo_m h (by omega) (Or.inr c1)).2 (by omega)
      rw [a1, Option.bind_some]
      dsimp only
      rw [if_neg (show ¬ t.1 = 40 by omega)] at a2
      rcases ih (by omega) (20 :: K) u S r m1 a2 (by rw [dpk_c, if_pos (Or.inr rfl)]; omega) (by rw [List.length_cons]; omega) (fun k R e => by
        injection e with e1 e2
        show k ≤ 28 ∧ (k = 28 ∨ k < 26)
        omega) (fun k hk => by
        rcases List.mem_cons.mp hk with z | z
        · omega
        · exact hs k z) hu (by rw [List.length_cons]; omega) with ⟨f, m3, g1, g2, g3, g4⟩ | ⟨S9, u9, r9, m3, P9, Q9, nw, g1, g2, g3, g4, g5, g6, g7, g8, g9⟩
      · exact Or.inl ⟨f, m3, by rw [g1]; rfl, g2, g3, mfr_t (a3 _) g4⟩
      · refine Or.inr ⟨S9 ++ [(20, 0)], u9, r9, m3, P9 ++ [20], Q9, nw, by rw [g1]; rfl, g2, by rw [List.append_assoc]; exact g3, ?_, fun p hp => ?_, ?_, g7, by rw [List.append_assoc]; exact g8, mfr_t (a3 _) g9⟩
        · rw [opc_a, g4, List.append_assoc]
          rfl
        · rcases List.mem_append.mp hp with z | z
          · exact g5 p z
          · have := List.mem_singleton.mp z
            show p < 28 ∧ ¬ p = 21
            omega
        · rw [List.length_append, List.length_singleton]
          omega
    · rw [if_neg c1]
      by_cases c2 : t.1 = 40
      · rw [if_pos c2, rE_o h.1 (by omega)]
        obtain ⟨m1, a1, a2, a3⟩ := (opo_m h (by omega) (Or.inl c2)).2 (by omega)
        rw [a1, Option.bind_some]
        dsimp only
        rw [if_pos c2] at a2
        rcases eit_m hj (by omega) (ih (by omega)) (K := 28 :: K) (by rw [List.length_cons]; omega) (fun k R e => by
          injection e with e1 e2
          exact ⟨by omega, Or.inl (by omega)⟩) (fun k hk => by
          rcases List.mem_cons.mp hk with z | z
          · omega
          · exact hs k z) (by rw [dpk_c, if_pos (Or.inl rfl)]; omega) 51 false false u S r m1 a2 (by omega) hu (by
          show b + S.length + (28 :: K).length + r.length ≤ 701
          rw [List.length_cons]
          omega) with ⟨f, m3, g1, g2, g3, g4⟩ | ⟨S9, u9, r9, m3, P9, Q9, nw, g1, g2, g3, g4, g5, g6, g7, g8, g9⟩
        · exact Or.inl ⟨f, m3, by rw [g1]; rfl, g2, g3, mfr_t (a3 _) g4⟩
        · rw [g1, sbd_r, g2]
          obtain ⟨t2, r2, rfl⟩ := wts_n g3.1.2.2.1
          have h12 := eit_h _ _ _ _ _ _ _ _ _ _ _ g1
          have nw45 : nw = 4 ∨ nw = 5 := by
            rcases g7 with z | z
            · exact Or.inl z.1
            · exact Or.inr z
          have lP : (P9 ++ 28 :: K).length = P9.length + (K.length + 1) := by rw [List.length_append, List.length_cons]
          rw [lP, List.length_cons] at g8
          have hsp : ∀ k ∈ P9 ++ 28 :: K, k ≤ 28 := fun k hk => by
            rcases List.mem_append.mp hk with z | z
            · have := (g5 k z).1; omega
            · rcases List.mem_cons.mp z with z | z
              · omega
              · exact hs k z
          rw [rE_4 g3 (by omega) hsp nw45 (Or.inr (List.mem_append_right _ List.mem_cons_self))]
          dsimp only
          rw [tqk_l]
          by_cases c3 : t2.1 = 41
          · rw [if_pos c3, sbd_r]
            obtain ⟨m4, b1, b2, b3⟩ := sgl_m hj g3 c3 nw45 (fun p hp => (g5 p hp).1) hs (by omega) (by omega)
            rw [b1, Option.bind_some]
            rw [← g4] at b2
            have lS : S9.length = Q9.length + P9.length := by rw [g4, List.length_append, opc_l]
            exact Or.inr ⟨S9, u9, r2, m4, [], S9, 5, rfl, rfl, b2, by rw [show opc_ [] = [] from rfl, List.append_nil], fun p hp => (by cases hp), by show 0 ≤ _; omega, Or.inr rfl, by show b + S9.length + K.length + r2.length ≤ 701; omega, mfr_t (a3 _) (mfr_t g9 b3)⟩
          · rw [if_neg c3]
            obtain ⟨m4, b1, b2, b3⟩ := sw4_m g3 (by omega) hsp (now := nw) (by
              rcases g7 with z | z
              · exact Or.inl ⟨z.1, z.2 t2 r2 rfl⟩
              · exact Or.inr z) h12.1 h12.2 (fun z => absurd z c3)
            refine Or.inl ⟨_, m4, rfl, ?_, b2, mfr_t (a3 _) (mfr_t g9 (mfr_w b3))⟩
            rw [b1, Option.bind_some]
            exact rE_f b2
      · rw [if_neg c2]
        exact comp (d + 1) K u S t r m hd h hK hk hs hu hbd0 c2 c1
