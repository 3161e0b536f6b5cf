/-! ===== orders: the class ===== -/
noncomputable def LN_ (o : Nat) (t : tkn_) (m : fm_) : Option (Int32 × fm_) := if t.1 = 127 ∨ t.1 = 108 ∨ t.1 = 110 then LA_ o (si_ m 68 2 (nI t.1)) else LB_ o (si_ m 68 2 (nI t.1))
theorem olin_c {o : Nat} (ho : 32 ≤ o) (ho2 : o ≤ 62) {d : od_} (hk : ook_ d) (hdv : ∀ k v, d.2.1 k = some v → v ≤ 999) {u n : Nat} {t : tkn_} {r : List tkn_} {m : fm_} (h : dtc_ o d u n (t :: r) m) : LR_ o (olin_ d u (t :: r)) (LN_ o t m) m := by
  rw [olin_l]
  unfold LN_
  by_cases c1 : t.1 = 127
  · have := lcl_c ho ho2 hk h c1
    rw [if_pos (Or.inl c1)]
    by_cases c : d.2.2.2.2.1.length < 6
    · rw [if_pos c] at this
      rw [if_pos ⟨c1, c⟩]
      exact this
    · rw [if_neg c] at this
      rw [if_neg (fun q => c q.2), if_neg (by omega), if_neg (fun q => by omega), if_neg (fun q => by omega), if_neg (fun q => by omega), if_neg (fun q => by omega)]
      exact this
  · rw [if_neg (fun q => c1 q.1)]
    by_cases c2 : t.1 = 105
    · rw [if_pos c2, if_neg (by omega)]
      exact lch_c ho ho2 hdv h c2
    · rw [if_neg c2]
      by_cases c3 : t.1 = 107
      · have := lhr_c ho ho2 hk h c3
        rw [if_neg (show ¬ (t.1 = 127 ∨ t.1 = 108 ∨ t.1 = 110) by omega)]
        by_cases c : d.2.2.1 = none
        · rw [if_pos c] at this
          rw [if_pos ⟨c3, c⟩]
          exact this
        · rw [if_neg c] at this
          rw [if_neg (fun q => c q.2), if_neg (fun q => by omega), if_neg (fun q => by omega), if_neg (fun q => by omega)]
          exact this
      · rw [if_neg (fun q => c3 q.1)]
        by_cases c4 : t.1 = 108
        · have := lfr_c ho ho2 h c4
          rw [if_pos (Or.inr (Or.inl c4))]
          by_cases c : d.2.2.2.2.2.1 = none
          · rw [if_pos c] at this
            rw [if_pos ⟨c4, c⟩]
            exact this
          · rw [if_neg c] at this
            rw [if_neg (fun q => c q.2), if_neg (fun q => by omega), if_neg (fun q => by omega)]
            exact this
        · rw [if_neg (fun q => c4 q.1)]
          by_cases c5 : t.1 = 109
          · have := lgr_c ho ho2 hk h c5
            rw [if_neg (show ¬ (t.1 = 127 ∨ t.1 = 108 ∨ t.1 = 110) by omega)]
            by_cases c : d.2.2.2.1 = none
            · rw [if_pos c] at this
              rw [if_pos ⟨c5, c⟩]
              exact this
            · rw [if_neg c] at this
              rw [if_neg (fun q => c q.2), if_neg (fun q => by omega)]
              exact this
          · rw [if_neg (fun q => c5 q.1)]
            by_cases c6 : t.1 = 110
            · have := lap_c ho ho2 h c6
              rw [if_pos (Or.inr (Or.inr c6))]
              by_cases c : d.2.2.2.2.2.2 = none
              · rw [if_pos c] at this
                rw [if_pos ⟨c6, c⟩]
                exact this
              · rw [if_neg c] at this
                rw [if_neg (fun q => c q.2)]
                exact this
            · rw [if_neg (fun q => c6 q.1), if_neg (show ¬ (t.1 = 127 ∨ t.1 = 108 ∨ t.1 = 110) by omega)]
              have i1 : csn_ (t :: r) (si_ m 68 2 (nI t.1)) := csn_si h.1 (by omega)
              have ht := i1.2.2.1
              have g2 : gi_ (si_ m 68 2 (nI t.1)) 68 2 = nI t.1 := gi_si_self
              generalize si_ m 68 2 (nI t.1) = mm at i1 g2
              obtain ⟨m9, z1, z2, _⟩ := fai_c i1 2
              have z1 : f_X8_fail 2 mm = some (0, m9) := z1
              refine Or.inl ⟨_, m9, rfl, ?_, z2⟩
              have nn : ∀ k : Nat, k < 128 → ¬ t.1 = k → ¬ nI t.1 = nI k := fun k hk hq q => hq ((nI_eq (by omega) (by omega)).mp q)
              unfold LB_ f_X5_readHead
              rw [g2, if_neg (show ¬ nI t.1 = 105 from nn 105 (by omega) c2), if_neg (show ¬ nI t.1 = 107 from nn 107 (by omega) c3), if_neg (show ¬ nI t.1 = 108 from nn 108 (by omega) c4), if_neg (show ¬ nI t.1 = 109 from nn 109 (by omega) c5), if_neg (show ¬ nI t.1 = 110 from nn 110 (by omega) c6), if_neg (show ¬ nI t.1 = 127 from nn 127 (by omega) c1), z1]
              rfl
theorem rl12_c {o : Nat} {k : Nat} (hk : k < 900) {t : tkn_} {r : List tkn_} {m : fm_} (h : csn_ (t :: r) m) (h0 : ¬ t.1 = 0) : f_X5_readLines_12 o (nI k) m = Option.bind (LN_ o t m) fun q => if q.1 = 0 then some (0, q.2) else f_X5_readLines_12 o (nI (k + 1)) q.2 := by
  have ht := h.2.2.1
  have kk := (knd_c h.1).1
  have ex : nI k + 1 = nI (k + 1) := by
    show nI k + nI 1 = _
    rw [nI_add]
  have nn : ∀ k : Nat, k < 128 → ¬ t.1 = k → ¬ nI t.1 = nI k := fun k hk hq q => hq ((nI_eq (by omega) (by omega)).mp q)
  rw [e_X5_readLines_12, if_neg (show ¬ (900 : Int32) ≤ nI k from show ¬ nI 900 ≤ nI k from nI_ge hk (by omega)), kk, Option.bind_some]
  dsimp only
  rw [if_neg (show ¬ nI t.1 = 0 from nn 0 (by omega) h0), kk, Option.bind_some, ex]
  dsimp only
  unfold LN_
  by_cases c1 : t.1 = 127
  · rw [if_pos (show nI t.1 = 127 by rw [c1]; rfl), if_pos (Or.inl c1), LA_k (fun z => if_pos rfl)]
  · rw [if_neg (show ¬ nI t.1 = 127 from nn 127 (by omega) c1)]
    by_cases c2 : t.1 = 108
    · rw [if_pos (show nI t.1 = 108 by rw [c2]; rfl), if_pos (Or.inr (Or.inl c2)), LA_k (fun z => if_pos rfl)]
    · rw [if_neg (show ¬ nI t.1 = 108 from nn 108 (by omega) c2)]
      by_cases c3 : t.1 = 110
      · rw [if_pos (show nI t.1 = 110 by rw [c3]; rfl), if_pos (Or.inr (Or.inr c3)), LA_k (fun z => if_pos rfl)]
      · rw [if_neg (show ¬ nI t.1 = 110 from nn 110 (by omega) c3), if_neg (by omega), LB_k (fun z => if_pos rfl)]
theorem rll_c {o : Nat} (ho : 32 ≤ o) (ho2 : o ≤ 62) : ∀ (n : Nat) (ts : List tkn_) (d : od_) (u nB k : Nat) (m : fm_), ts.length ≤ n → k + ts.length ≤ 900 → dtc_ o d u nB ts m → ook_ d → (∀ k v, d.2.1 k = some v → v ≤ 999) → (∃ f m1, ols_ n d u ts = .inl f ∧ f_X5_readLines_12 o (nI k) m = some (nI 0, m1) ∧ flc_ f m1) ∨ (∃ d1 u1 n1 r1 m1, ols_ n d u ts = .inr d1 ∧ f_X5_readLines_12 o (nI k) m = some (nI 1, m1) ∧ dtc_ o d1 u1 n1 r1 m1 ∧ ofs_ o m m1 ∧ ook_ d1 ∧ (∀ k v, d1.2.1 k = some v → v ≤ 999) ∧ d1.1 = d.1) := by
  intro n
  induction n with
  | zero =>
    intro ts d u nB k m hn hk h
    obtain ⟨t, r, rfl⟩ := wts_n h.1.2.2
    exact absurd hn (by rw [List.length_cons]; omega)
  | succ n ih =>
    intro ts d u nB k m hn hk h hok hdv
    obtain ⟨t, r, rfl⟩ := wts_n h.1.2.2
    have hn0 := hn
    rw [List.length_cons] at hn hk
    rw [ols_s]
    by_cases c : t.1 = 0
    · refine Or.inr ⟨d, u, nB, t :: r, m, if_pos c, ?_, h, ofs_r, hok, hdv, rfl⟩
      rw [e_X5_readLines_12, if_neg (show ¬ (900 : Int32) ≤ nI k from show ¬ nI 900 ≤ nI k from nI_ge (by omega) (by omega)), (knd_c h.1.1).1, Option.bind_some, if_pos (show nI t.1 = 0 by rw [c]; rfl)]
      rfl
    · rw [if_neg c, rl12_c (by omega) h.1 c]
      rcases olin_c ho ho2 hok hdv h with ⟨f, m1, a1, a2, a3⟩ | ⟨d1, u1, r1, n1, m1, a1, a2, a3, a4⟩
      · refine Or.inl ⟨f, m1, by rw [a1]; rfl, ?_, a3⟩
        rw [a2]
        rfl
      · obtain ⟨j1, j2, j3, j4, j5, j6⟩ := olin_j hok hdv h.2.2.2.2.2 h.1.2.2 a1
        have j6 : r1.length + 1 ≤ (t :: r).length := j6
        rw [List.length_cons] at j6
        rw [a1, sbd_r, a2, Option.bind_some, if_neg (show ¬ nI 1 = 0 by decide)]
        dsimp only
        rcases ih r1 d1 u1 n1 (k + 1) m1 (by omega) (by omega) a3 j1 j2 with ⟨f, m2, b1, b2, b3⟩ | ⟨d2, u2, n2, r2, m2, b1, b2, b3, b4, b5, b6, b7⟩
        · exact Or.inl ⟨f, m2, b1, b2, b3⟩
        · exact Or.inr ⟨d2, u2, n2, r2, m2, b1, b2, b3, ofs_t a4 b4, b5, b6, b7.trans j3⟩
theorem Tk_n {L : List Nat} (hb : ∀ (j b : Nat), L[j]? = some b → b < 256) : ∀ (ts : List tkn_) (i : Nat), Tk_ L ts i → ts.length ≤ L.length - i + 1
  | [], _, _ => by show 0 ≤ _; omega
  | t :: r, i, h => by
    obtain ⟨ht, hr⟩ := h
    have hs : i ≤ sk_ L i := by unfold sk_; omega
    cases hl : L.drop (sk_ L i) with
    | nil =>
      rw [hl] at ht
      subst ht
      have hr : r = [] := hr
      subst hr
      show 1 ≤ _
      omega
    | cons b r1 =>
      obtain ⟨k1, k2, k3⟩ := drop_p hl
      rw [hl] at ht hr
      rcases scn_p b r1 (hb _ b k1) with ⟨q1, q2, q3⟩ | ⟨q1, q2, q3, q4, q5, q6⟩
      · subst ht
        rw [q1] at hr
        rw [if_pos (show (1 : Nat) ≤ 1 by omega)] at hr
        subst hr
        show 1 ≤ _
        omega
      · subst ht
        rw [if_neg (show ¬ (scn_ (b :: r1)).1 ≤ 1 by omega)] at hr
        have := Tk_n hb r _ hr
        have hlt := (List.getElem?_eq_some_iff.mp k1).1
        rw [List.length_cons]
        omega
def d0_ (dy : Nat) : od_ := (dy, fun _ => none, none, none, [], none, none)
theorem ook_0 {dy : Nat} : ook_ (d0_ dy) := ⟨by show 0 ≤ 6; omega, fun q hq => (by cases hq), fun c hc => (by cases hc), fun c hc => (by cases hc), fun c hc => (by cases hc), fun c hc => (by cases hc)⟩
theorem clr_c {o : Nat} (ho : 32 ≤ o) {dy : Nat} {m : fm_} : ∃ m1, f_X4_clear o (nI dy) m = some (0, m1) ∧ odc_ o (d0_ dy) 0 m1 ∧ gi_ m1 o 2 = nI 0 ∧ ∀ a k, ¬ (o ≤ a ∧ a ≤ o + 4) → gi_ m1 a k = gi_ m a k := by
  obtain ⟨m1, e1, e2⟩ := fill_ (a0 := o + 4) (L := 10) (x := -1) (by omega) (si_ (si_ (si_ m o 0 (nI dy)) o 2 0) o 5 0)
  have s1 := fr_J7_fill_53178 e1
  have g : ∀ a k, ¬ a = o + 4 → gi_ m1 a k = gi_ (si_ (si_ (si_ m o 0 (nI dy)) o 2 0) o 5 0) a k := fun a k ha => sa_gi s1 (by
    cases hq : wi_ [(o + 4, o + 4, 0)] a k with
    | false => exact hq
    | true =>
      obtain ⟨q, hq, q1, q2, _⟩ := wi_mem.mp hq
      have := List.mem_singleton.mp hq
      subst this
      have q1 : o + 4 ≤ a := q1
      have q2 : a ≤ o + 4 := q2
      omega)
  refine ⟨si_ (si_ (si_ (si_ (si_ m1 o 7 (-1)) o 8 (-1)) o 9 (-1)) o 10 (-1)) o 11 (-1), ?_, ⟨?_, fun k hk => ?_, ⟨?_, ?_⟩, ?_, ?_, fun l q hl => (by cases hl), ?_, ?_⟩, ?_, fun a k ha => ?_⟩
  · unfold f_X4_clear
    rw [e1]
    rfl
  · rw [gi_si_ne (by omega), gi_si_ne (by omega), gi_si_ne (by omega), gi_si_ne (by omega), gi_si_ne (by omega), g _ _ (by omega), gi_si_ne (by omega), gi_si_ne (by omega), gi_si_self]; rfl
  · rw [gi_si_ne (by omega), gi_si_ne (by omega), gi_si_ne (by omega), gi_si_ne (by omega), gi_si_ne (by omega)]
    exact e2 k hk
  · rw [gi_si_ne (by omega), gi_si_ne (by omega), gi_si_ne (by omega), gi_si_ne (by omega), gi_si_self]
  · rw [gi_si_ne (by omega), gi_si_ne (by omega), gi_si_ne (by omega), gi_si_self]
  · rw [gi_si_ne (by omega), gi_si_ne (by omega), gi_si_self]; rfl
  · rw [gi_si_ne (by omega), gi_si_ne (by omega), gi_si_ne (by omega), gi_si_ne (by omega), gi_si_ne (by omega), g _ _ (by omega), gi_si_self]; rfl
  · show gi_ _ o 10 = -1
    rw [gi_si_ne (by omega), gi_si_self]
  · show gi_ _ o 11 = -1
    rw [gi_si_self]
  · rw [gi_si_ne (by omega), gi_si_ne (by omega), gi_si_ne (by omega), gi_si_ne (by omega), gi_si_ne (by omega), g _ _ (by omega), gi_si_ne (by omega), gi_si_self]; rfl
  · rw [gi_si_ne (by omega), gi_si_ne (by omega), gi_si_ne (by omega), gi_si_ne (by omega), gi_si_ne (by omega), g _ _ (by omega), gi_si_ne (by omega), gi_si_ne (by omega), gi_si_ne (by omega)]
theorem ccb_d {o s : Nat} {c : cd_} {n : Nat} {m : fm_} (h : ccb_ o s c n m) (hn : n ≤ 400) (h2 : gi_ m o 2 = nI n) : ccd_ o s c m := ⟨h.1, h.2.1, n, h2, hn, h.2.2⟩
theorem ocb_d {o : Nat} {x : Int32} {c : Option cd_} {n : Nat} {m : fm_} (h : ocb_ o x c n m) (hn : n ≤ 400) (h2 : gi_ m o 2 = nI n) : ocl_ o x c m := by
  cases c with
  | none => exact h
  | some c =>
    obtain ⟨s, e1, e2⟩ := h
    exact ⟨s, e1, ccb_d e2 hn h2⟩
theorem odc_d {o : Nat} {d : od_} {n : Nat} {m : fm_} (h : odc_ o d n m) (hn : n ≤ 400) (h2 : gi_ m o 2 = nI n) : orc_ o d m := by
  obtain ⟨c1, c2, c3, c4, c5, c6, c7, c8⟩ := h
  refine ⟨?_, c4, c5, fun l q hl => ?_, ocb_d c7 hn h2, ocb_d c8 hn h2⟩
  · revert c3
    unfold hrc_ och_
    cases d.2.2.1 with
    | none => exact fun h => h.2
    | some q => exact fun h => h
  · obtain ⟨e1, s, e2, e3⟩ := c6 l q hl
    exact ⟨e1, s, e2, ccb_d e3 hn h2⟩
theorem app_o {O : List od_} {d x : od_} {j : Nat} (h : (O ++ [d])[j]? = some x) : (j < O.length ∧ O[j]? = some x) ∨ (j = O.length ∧ x = d) := app_q h
theorem loc_g {O : List od_} (hO : O.length < 6) {m m1 : fm_} (h : loc_ O m) (hf : ∀ a k, 30 ≤ a → ¬ a = 68 → ¬ (32 + 6 * O.length ≤ a ∧ a ≤ 32 + 6 * O.length + 4) → gi_ m1 a k = gi_ m a k) : (∀ j o, O[j]? = some o → gi_ m1 (32 + 6 * j) 0 = nI o.1 ∧ ∀ k, k < 10 → gi_ m1 (32 + 6 * j + 4) k = ooc_ (o.2.1 k)) ∧ (∀ j d, O[j]? = some d → orc_ (32 + 6 * j) d m1) := by
  refine ⟨fun j o hj => ?_, fun j d hj => ?_⟩
  · have hjl := (List.getElem?_eq_some_iff.mp hj).1
    have := h.1.2 j o hj
    exact ⟨(hf _ _ (by omega) (by omega) (by omega)).trans this.1, fun k hk => (hf _ _ (by omega) (by omega) (by omega)).trans (this.2 k hk)⟩
  · have hjl := (List.getElem?_eq_some_iff.mp hj).1
    exact orc_fr (h.2 j d hj) fun a k h1 h2 => hf a k (by omega) (by omega) (by omega)
def sord_ (ts : List tkn_) (dy : Nat) : Sum (Nat × Nat) od_ := ols_ 701 (d0_ dy) 0 ts
theorem ord_c {L : List Nat} {m : fm_} (h : tc_ L m) {O : List od_} (hO : oko_ O) (hm : loc_ O m) {dy : Nat} (hdy : dy < 100) (h7 : L.length ≤ 700) (h6 : O.length < 6) : ∃ ts, Tk_ L ts 0 ∧ wts_ ts ∧ ts.length ≤ 701 ∧ ((∃ f m1, sord_ ts dy = .inl f ∧ f_X11_orders (nI dy) m = some (-1, m1) ∧ flc_ f m1 ∧ tc_ [] m1 ∧ loc_ O m1) ∨ (∃ d m1, sord_ ts dy = .inr d ∧ f_X11_orders (nI dy) m = some (nI O.length, m1) ∧ gi_ m1 1 7 = nI 0 ∧ gi_ m1 1 8 = -1 ∧ tc_ [] m1 ∧ loc_ (O ++ [d]) m1 ∧ oko_ (O ++ [d]))) := by
  have hb := tc_bc9 h
  obtain ⟨m1, ts, e1, k1, k2, k3, k4, k5, k6⟩ := split_c hb
  have s1 := fr_X8_split e1
  have wt : wts_ ts := Tk_w hb.1 (fun j b hj => (hb.2.2 j b hj).1) ts 0 (by omega) k1
  have tl : ts.length ≤ 701 := by
    have := Tk_n (fun j b hj => (hb.2.2 j b hj).1) ts 0 k1
    omega
  refine ⟨ts, k1, wt, tl, ?_⟩
  have sg : ∀ a k, 6 ≤ a → gi_ m1 a k = gi_ m a k := fun a k ha => sa_gi s1 (by
    cases hq : wi_ w_X8_split a k with
    | false => rfl
    | true =>
      obtain ⟨q, hq, q1, q2, _⟩ := wi_mem.mp hq
      have : ∀ q ∈ w_X8_split, q.2.1 ≤ 5 := by decide
      have := this q hq
      omega)
  have od : ∃ o, o = 32 + 6 * O.length := ⟨_, rfl⟩
  obtain ⟨o, hod⟩ := od
  have ho : 32 ≤ o := by omega
  have ho2 : o ≤ 62 := by omega
  have t1 : tkr_ ts (si_ m1 1 4 0) := tkr_fr (w := [(1, 1, 5)]) k2 (sa_si (by rfl) sa_rf) (by rfl)
  obtain ⟨m2, a1, a2, a3, a4⟩ := clr_c ho (dy := dy) (m := si_ m1 1 4 0)
  have g2 : ∀ a k, a < 32 → gi_ m2 a k = gi_ (si_ m1 1 4 0) a k := fun a k ha => a4 a k (by omega)
  have n2 : csn_ ts (si_ m2 68 3 0) := by
    refine csn_si ⟨⟨[], ⟨(g2 _ _ (by omega)).trans t1.1, fun j t hj => ⟨(g2 _ _ (by omega)).trans (t1.2 j t hj).1, (g2 _ _ (by omega)).trans (t1.2 j t hj).2.1, (g2 _ _ (by omega)).trans (t1.2 j t hj).2.2⟩⟩, ?_, k3⟩, ⟨?_, ?_⟩, wt⟩ (by omega)
    · rw [g2 _ _ (by omega), gi_si_ne (by omega)]; exact k4
    · rw [g2 _ _ (by omega), gi_si_ne (by omega)]; exact k5
    · rw [g2 _ _ (by omega), gi_si_ne (by omega)]; exact k6
  have dt : dtc_ o (d0_ dy) 0 0 ts (si_ m2 68 3 0) := ⟨n2, odc_g a2 (Nat.le_refl _) (fun a k h1 h2 _ _ => gi_si_ne (by omega)), by rw [gi_si_ne (by omega)]; exact a3, gi_si_self, by omega, by omega⟩
  have c30 : gi_ m 30 1 = nI O.length := hm.1.1
  have eo : f_X11_orders (nI dy) m = Option.bind (f_X5_readLines_12 o (nI 0) (si_ m2 68 3 0)) fun q19 => if q19.1 = 0 then some (-1, q19.2) else some (((gi_ q19.2 30 1) + 1) - 1, si_ q19.2 30 1 ((gi_ q19.2 30 1) + 1)) := by
    have c30b : gi_ m1 30 1 = nI O.length := (sg _ _ (by omega)).trans c30
    unfold f_X11_orders
    rw [h.2.2.1, if_neg (show ¬ (700 : Int32) < nI L.length from show ¬ nI 700 < nI L.length from nI_nlt h7 (by omega)), ns_day1 hdy, Option.bind_some]
    dsimp only
    rw [if_neg (show ¬ nI 1 = 0 by decide), c30, if_pos (show nI O.length < 6 from show nI O.length < nI 6 from nI_lt h6 (by omega)), e1, Option.bind_some]
    dsimp only
    rw [c30b, ns_gd (by omega) (by omega), nI_clamp (by omega), ← hod, a1, Option.bind_some]
    rfl
  have base : ∀ m3, ofs_ o (si_ m2 68 3 0) m3 → ∀ a k, 30 ≤ a → ¬ a = 68 → ¬ (o ≤ a ∧ a ≤ o + 4) → gi_ m3 a k = gi_ m a k := fun m3 hf a k h1 h2 h3 => by
    rw [hf a k (by omega) h2 h3, gi_si_ne (by omega), a4 a k h3, gi_si_ne (by omega), sg a k (by omega)]
  have fr : ∀ q, f_X5_readLines_12 o (nI 0) (si_ m2 68 3 0) = some q → ofs_ o (si_ m2 68 3 0) q.2 ∧ gi_ q.2 1 4 = nI 0 := by
    intro q hq
    have hq2 : f_X5_readLines o m2 = some q := hq
    have s3 := fr_X5_readLines hq2
    have wf : ∀ a k, ¬ (a = 1 ∧ ¬ k = 4) → ¬ a = 68 → ¬ (o ≤ a ∧ a ≤ o + 4) → gi_ q.2 a k = gi_ m2 a k := fun a k h1 h2 h3 => sa_gi s3 (by
      cases hw : wi_ (w_X5_readLines o) a k with
      | false => rfl
      | true =>
        obtain ⟨z, hz, z1, z2, z3⟩ := wi_mem.mp hw
        have : (z.1 = 1 ∧ z.2.1 = 1 ∧ 7 ≤ z.2.2) ∨ (z.1 = 68 ∧ z.2.1 = 68) ∨ (o ≤ z.1 ∧ z.2.1 ≤ o + 4) := by
          simp only [w_X5_readLines, List.mem_cons, List.not_mem_nil, or_false] at hz
          rcases hz with e | e | e | e | e | e | e | e | e | e | e | e | e | e | e | e <;> subst e <;> dsimp only <;> omega
        omega)
    refine ⟨fun a k h1 h2 h3 => ?_, ?_⟩
    · rw [wf a k (by omega) h2 h3, gi_si_ne (by omega)]
    · rw [wf 1 4 (by omega) (by omega) (by omega), g2 _ _ (by omega), gi_si_self]
      rfl
  rw [eo]
  rcases rll_c ho ho2 701 ts (d0_ dy) 0 0 0 (si_ m2 68 3 0) tl (by omega) dt ook_0 (fun k v hv => by cases hv) with ⟨f, m3, b1, b2, b3⟩ | ⟨d1, u1, n1, r1, m3, b1, b2, b3, b4, b5, b6, b7⟩
  · obtain ⟨q1, q2⟩ := fr _ b2
    have q1 := base m3 q1
    have lg := loc_g h6 hm (fun a k h1 h2 h3 => q1 a k h1 h2 (by omega))
    exact Or.inl ⟨f, m3, b1, by rw [b2]; rfl, b3, tc_0 q2, ⟨⟨(q1 _ _ (by omega) (by omega) (by omega)).trans c30, lg.1⟩, lg.2⟩⟩
  · obtain ⟨q1, q2⟩ := fr _ b2
    have q1 := base m3 q1
    have e30 : gi_ m3 30 1 = nI O.length := (q1 _ _ (by omega) (by omega) (by omega)).trans c30
    have en : nI O.length + 1 = nI (O.length + 1) := by
      show nI O.length + nI 1 = _
      rw [nI_add]
    have em : nI (O.length + 1) - 1 = nI O.length := by
      show nI (O.length + 1) - nI 1 = _
      rw [pk_sub (by omega), Nat.add_sub_cancel]
    obtain ⟨x1, x2, x3, x4, x5, x6⟩ := b3
    have q9 : ∀ a k, 30 ≤ a → ¬ a = 68 → ¬ (32 + 6 * O.length ≤ a ∧ a ≤ 32 + 6 * O.length + 4) → ¬ a = 30 → gi_ (si_ m3 30 1 (nI (O.length + 1))) a k = gi_ m a k := fun a k h1 h2 h3 h4 => by
      rw [gi_si_ne (by omega)]
      exact q1 a k h1 h2 (by omega)
    have lg := loc_g h6 hm (m1 := m3) (fun a k h1 h2 h3 => q1 a k h1 h2 (by omega))
    have od3 : orc_ o d1 (si_ m3 30 1 (nI (O.length + 1))) := orc_fr (odc_d x2 (by omega) x3) (fun a k h1 h2 => gi_si_ne (by omega))
    refine Or.inr ⟨d1, si_ m3 30 1 (nI (O.length + 1)), b1, ?_, ?_, ?_, tc_0 (by rw [gi_si_ne (by omega)]; exact q2), ⟨⟨?_, fun j x hj => ?_⟩, fun j x hj => ?_⟩, ⟨⟨?_, fun x hx => ?_⟩, fun x hx => ?_⟩⟩
    · rw [b2, Option.bind_some, if_neg (show ¬ nI 1 = 0 by decide)]
      dsimp only
      rw [e30, en, em]
    · rw [gi_si_ne (by omega)]; exact x1.2.1.1
    · rw [gi_si_ne (by omega)]; exact x1.2.1.2
    · rw [gi_si_self, List.length_append]; rfl
    · rcases app_o hj with ⟨z1, z2⟩ | ⟨z1, z2⟩
      · have := lg.1 j x z2
        exact ⟨by rw [gi_si_ne (by omega)]; exact this.1, fun k hk => by rw [gi_si_ne (by omega)]; exact this.2 k hk⟩
      · subst z1
        subst z2
        rw [← hod]
        exact ⟨by rw [gi_si_ne (by omega)]; exact x2.1, fun k hk => by rw [gi_si_ne (by omega)]; exact x2.2.1 k hk⟩
    · rcases app_o hj with ⟨z1, z2⟩ | ⟨z1, z2⟩
      · exact orc_fr (lg.2 j x z2) (fun a k h1 h2 => gi_si_ne (by omega))
      · subst z1
        subst z2
        rw [← hod]
        exact od3
    · rw [List.length_append, List.length_singleton]; omega
    · rcases List.mem_append.mp hx with z | z
      · exact hO.1.2 x z
      · have := List.mem_singleton.mp z
        subst this
        exact ⟨by rw [b7]; exact hdy, b6⟩
    · rcases List.mem_append.mp hx with z | z
      · exact hO.2 x z
      · have := List.mem_singleton.mp z
        subst this
        exact b5
theorem ord_0c {L : List Nat} {m : fm_} (h : tc_ L m) {O : List od_} (hl : O.length ≤ 6) (hm : loc_ O m) {x : Int32} (hx : 700 < L.length ∨ nat_ x 100 = none ∨ O.length = 6) : f_X11_orders x m = some (-2, m) := by
  have c30 : gi_ m 30 1 = nI O.length := hm.1.1
  have hL := h.1
  unfold f_X11_orders
  rw [h.2.2.1]
  by_cases c : 700 < L.length
  · rw [if_pos (show (700 : Int32) < nI L.length from show nI 700 < nI L.length from nI_lt c (by omega))]
  · rw [if_neg (show ¬ (700 : Int32) < nI L.length from show ¬ nI 700 < nI L.length from nI_nlt (by omega) (by omega)), day_c, Option.bind_some]
    dsimp only
    by_cases c2 : nat_ x 100 = none
    · rw [bu_0 c2, if_pos rfl]
    · have c3 : O.length = 6 := (hx.resolve_left c).resolve_left c2
      have : ∃ j, nat_ x 100 = some j := by
        cases e : nat_ x 100 with
        | none => exact absurd e c2
        | some j => exact ⟨j, rfl⟩
      obtain ⟨j, hj⟩ := this
      rw [bu_1 hj, if_neg (show ¬ (1 : Int32) = 0 by decide), c30, c3, if_neg (show ¬ nI 6 < 6 by decide)]
