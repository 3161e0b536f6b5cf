/-! ===== plates, papers, appeals, what is untold, later: all that the class holds ===== -/
theorem cch_new {W : List (Nat × Nat × Nat)} {P P' : pl_} {F F' : List fa_} {C C' : List (Nat × Nat × Nat)} {W' : List (Nat × Nat × Nat)} {st : Nat} {m m1 : fm_} (h : cch_ W P F C st m) (h1 : gi_ m1 82 3 = nI (st + 1)) (h2 : ∀ d, gi_ m1 83 d = gi_ m 83 d) : cch_ W' P' F' C' (st + 1) m1 := by
  refine ⟨h1, fun d hd => ?_⟩
  obtain ⟨sd, t1, t2, _⟩ := h.2 d hd
  exact ⟨sd, (h2 d).trans t1, by omega, fun h => by omega⟩
theorem nr_c {W : List (Nat × Nat × Nat)} {z : Nat} {P : pl_} {F G : List fa_} {T : Nat} {C : List (Nat × Nat × Nat)} {O : List od_} (hO : oko_ O) {st : Nat} {m m1 : fm_} (h : kc8_ W z P F T C O st m) (hf : fc_ G T m1) (hs : sa_ w_X11_papers m m1) (hG : G = F ∨ ∃ q, G = F ++ [q] ∧ ¬ q.1 = 1) : kc8_ W z P G T C O st m1 := by
  obtain ⟨⟨k1, k2, k3, k4, k5⟩, hz, hl, hc⟩ := h
  refine ⟨⟨pc_ag k1 (sa_ag (by rfl) hs), hf, ?_, camc_ag k4 (sa_ag (by rfl) hs), tb_sa k5 hs (fun k => by rfl)⟩, (sa_gi hs (by rfl)).trans hz, loc_ag hO.1.1 hl (sa_ag (by rfl) hs), ?_⟩
  · have key : ∀ a k, 80 ≤ a → a ≤ 81 → gi_ m1 a k = gi_ m a k := fun a k h1 h2 => by
      have : a = 80 ∨ a = 81 := by omega
      rcases this with e | e
      · subst e; exact sa_gi hs (by rfl)
      · subst e; exact sa_gi hs (by rfl)
    rcases hG with e | ⟨q, e, hq⟩
    · subst e
      exact fun d hd => ⟨(key _ _ (by omega) (by omega)).trans (k3 d hd).1, fun j r hj => (key _ _ (by omega) (by omega)).trans ((k3 d hd).2 j r hj)⟩
    · subst e
      exact drc_nr hq k3 key
  · have key : ∀ a k, 82 ≤ a → a ≤ 86 → gi_ m1 a k = gi_ m a k := fun a k h1 h2 => by
      have : a = 82 ∨ a = 83 ∨ a = 84 ∨ a = 85 ∨ a = 86 := by omega
      rcases this with e | e | e | e | e
      · subst e; exact sa_gi hs (by rfl)
      · subst e; exact sa_gi hs (by rfl)
      · subst e; exact sa_gi hs (by rfl)
      · subst e; exact sa_gi hs (by rfl)
      · subst e; exact sa_gi hs (by rfl)
    rcases hG with e | ⟨q, e, hq⟩
    · subst e; exact cch_sa hc key
    · subst e; exact cch_nr hq hc key
theorem spap_cs {F : List fa_} {T P : Nat} (hT : T ≤ 100000) (hP : P ≤ 10) (p1 p2 p3 p4 p5 p6 : Int32) : (spap_ F T P p1 p2 p3 p4 p5 p6).2 = F ∨ (F.length < 200 ∧ ∃ q, (spap_ F T P p1 p2 p3 p4 p5 p6).2 = F ++ [q] ∧ ¬ q.1 = 1 ∧ wf_ q) := by
  unfold spap_
  rcases nat_ix p1 (n := P) (by omega) with ⟨e1, _⟩ | ⟨a, ha, rfl, e1, -⟩
  · rw [e1]; exact Or.inl rfl
  rcases nat_ix p2 (n := 100) (by omega) with ⟨e2, _⟩ | ⟨d, hd, rfl, e2, -⟩
  · rw [e1, e2]; exact Or.inl rfl
  rcases nat_ix p3 (n := 10) (by omega) with ⟨e3, _⟩ | ⟨f, hf, rfl, e3, -⟩
  · rw [e1, e2, e3]; exact Or.inl rfl
  rcases nat_ix p4 (n := 10) (by omega) with ⟨e4, _⟩ | ⟨n, hn, rfl, e4, -⟩
  · rw [e1, e2, e3, e4]; exact Or.inl rfl
  rcases nat_ix p5 (n := 10) (by omega) with ⟨e5, _⟩ | ⟨k, hk, rfl, e5, -⟩
  · rw [e1, e2, e3, e4, e5]; exact Or.inl rfl
  rcases nat_ix p6 (n := 2) (by omega) with ⟨e6, _⟩ | ⟨g, hg, rfl, e6, -⟩
  · rw [e1, e2, e3, e4, e5, e6]; exact Or.inl rfl
  rw [e1, e2, e3, e4, e5, e6]
  simp only
  by_cases c : F.length < 200
  · rw [if_pos c]
    refine Or.inr ⟨c, _, rfl, by show ¬ (0 : Nat) = 1; omega, ?_, hT, fun t ht => (by cases ht), ?_, hd, ?_⟩
    · show 0 ≤ 3; omega
    · show a < 10; omega
    · show f * 1000 + n * 100 + k * 10 + g < 10000; omega
  · rw [if_neg c]; exact Or.inl rfl
theorem sapp_cs {F : List fa_} {T P : Nat} (hT : T ≤ 100000) (hP : P ≤ 10) (p1 p2 : Int32) : (sapp_ F T P p1 p2).2 = F ∨ (F.length < 200 ∧ ∃ q, (sapp_ F T P p1 p2).2 = F ++ [q] ∧ ¬ q.1 = 1 ∧ wf_ q) := by
  unfold sapp_
  rcases nat_ix p1 (n := P) (by omega) with ⟨e1, _⟩ | ⟨a, ha, rfl, e1, -⟩
  · rw [e1]; exact Or.inl rfl
  rcases nat_ix p2 (n := 100) (by omega) with ⟨e2, _⟩ | ⟨d, hd, rfl, e2, -⟩
  · rw [e1, e2]; exact Or.inl rfl
  rw [e1, e2]
  simp only
  by_cases c : F.length < 200
  · rw [if_pos c]
    refine Or.inr ⟨c, _, rfl, by show ¬ (2 : Nat) = 1; omega, ?_, hT, fun t ht => (by cases ht), ?_, hd, ?_⟩
    · show 2 ≤ 3; omega
    · show a < 10; omega
    · show 0 < 10000; omega
  · rw [if_neg c]; exact Or.inl rfl
theorem cs_kok {W : List (Nat × Nat × Nat)} {P : pl_} {F G : List fa_} {T : Nat} {C : List (Nat × Nat × Nat)} (hk : kok_ W P F T C) (h2 : rok2_ F) (h : G = F ∨ (F.length < 200 ∧ ∃ q, G = F ++ [q] ∧ ¬ q.1 = 1 ∧ wf_ q)) : kok_ W P G T C ∧ rok2_ G := by
  rcases h with e | ⟨hl, q, e, hq, hw⟩
  · subst e; exact ⟨hk, h2⟩
  · subst e; exact kok_nr hk h2 hq hl hw
theorem cs_or {F G : List fa_} (h : G = F ∨ (F.length < 200 ∧ ∃ q, G = F ++ [q] ∧ ¬ q.1 = 1 ∧ wf_ q)) : G = F ∨ ∃ q, G = F ++ [q] ∧ ¬ q.1 = 1 := by
  rcases h with e | ⟨hl, q, e, hq, hw⟩
  · exact Or.inl e
  · exact Or.inr ⟨q, e, hq⟩
theorem papers_c {W : List (Nat × Nat × Nat)} {P : pl_} {F : List fa_} {T : Nat} {C : List (Nat × Nat × Nat)} (hk : kok_ W P F T C) {z : Nat} {O : List od_} (hO : oko_ O) {st : Nat} {m : fm_} (hm : kc8_ W z P F T C O st m) (p1 p2 p3 p4 p5 p6 : Int32) : ∃ m1, f_X11_papers p1 p2 p3 p4 p5 p6 m = some ((spap_ F T P.length p1 p2 p3 p4 p5 p6).1, m1) ∧ kc8_ W z P (spap_ F T P.length p1 p2 p3 p4 p5 p6).2 T C O st m1 := by
  obtain ⟨m1, e1, f1⟩ := pap_c hk.2.2.1 hm.1.2.1 hm.1.1 p1 p2 p3 p4 p5 p6
  exact ⟨m1, e1, nr_c hO hm f1 (fr_X11_papers e1) (cs_or (spap_cs hk.2.2.1.2.1 hk.2.1 p1 p2 p3 p4 p5 p6))⟩
theorem appeal_c {W : List (Nat × Nat × Nat)} {P : pl_} {F : List fa_} {T : Nat} {C : List (Nat × Nat × Nat)} (hk : kok_ W P F T C) {z : Nat} {O : List od_} (hO : oko_ O) {st : Nat} {m : fm_} (hm : kc8_ W z P F T C O st m) (p1 p2 : Int32) : ∃ m1, f_X11_appeal p1 p2 m = some ((sapp_ F T P.length p1 p2).1, m1) ∧ kc8_ W z P (sapp_ F T P.length p1 p2).2 T C O st m1 := by
  obtain ⟨m1, e1, f1⟩ := app_c hk.2.2.1 hm.1.2.1 hm.1.1 p1 p2
  exact ⟨m1, e1, nr_c hO hm f1 (fr_X11_appeal e1) (cs_or (sapp_cs hk.2.2.1.2.1 hk.2.1 p1 p2))⟩
theorem laterk_c {W : List (Nat × Nat × Nat)} {P : pl_} {F : List fa_} {T : Nat} {C : List (Nat × Nat × Nat)} (hk : kok_ W P F T C) {z : Nat} {O : List od_} (hO : oko_ O) {st : Nat} {m : fm_} (hm : kc8_ W z P F T C O st m) (x : Int32) : ∃ m1, f_X11_later x m = some ((lt_ T x).1, m1) ∧ kc8_ W z P F (lt_ T x).2 C O st m1 ∧ kok_ W P F (lt_ T x).2 C := by
  obtain ⟨⟨k1, k2, k3, k4, k5⟩, hz, hl, hc⟩ := hm
  obtain ⟨m1, e1, t1, f1⟩ := later_c hk.2.2.1.2.1 k2.2.1 x
  have hs := fr_X11_later e1
  refine ⟨m1, e1, ⟨⟨pc_ag k1 (sa_ag (by rfl) hs), ⟨(sa_gi hs (by rfl)).trans k2.1, f1, fun j q hj => ?_⟩, fun d hd => ⟨(sa_gi hs (by rfl)).trans (k3 d hd).1, fun j r hj => (sa_gi hs (by rfl)).trans ((k3 d hd).2 j r hj)⟩, camc_ag k4 (sa_ag (by rfl) hs), tb_sa k5 hs (fun k => by rfl)⟩, (sa_gi hs (by rfl)).trans hz, loc_ag hO.1.1 hl (sa_ag (by rfl) hs), cch_sa hc fun a k h1 h2 => ?_⟩, hk.1, hk.2.1, ⟨hk.2.2.1.1, t1, hk.2.2.1.2.2⟩, hk.2.2.2⟩
  · have := k2.2.2 j q hj
    unfold fc1_ at this ⊢
    rw [sa_gi hs (a := 73) (k := j) (by rfl), sa_gi hs (a := 74) (k := j) (by rfl), sa_gi hs (a := 75) (k := j) (by rfl), sa_gi hs (a := 76) (k := j) (by rfl), sa_gi hs (a := 77) (k := j) (by rfl), sa_gi hs (a := 78) (k := j) (by rfl), sa_gl hs (a := 79) (k := j) (by rfl)]
    exact this
  · have : a = 82 ∨ a = 83 ∨ a = 84 ∨ a = 85 ∨ a = 86 := by omega
    rcases this with e | e | e | e | e
    · subst e; exact sa_gi hs (by rfl)
    · subst e; exact sa_gi hs (by rfl)
    · subst e; exact sa_gi hs (by rfl)
    · subst e; exact sa_gi hs (by rfl)
    · subst e; exact sa_gi hs (by rfl)
