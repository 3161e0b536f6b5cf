/-! ===== one call: those that change something ===== -/
theorem CB_tc {L L' : List Nat} {a b : Int32} {W : List (Nat × Nat × Nat)} {z : Nat} {C : List (Nat × Nat × Nat)} {cp : Nat} {O : List od_} {P : pl_} {F : List fa_} {T st : Nat} {TR : tp_} {A : air_} {n : Nat} {m m1 : fm_} (hO : O.length ≤ 6) (h : CB_ L a b W z C cp O P F T st TR A n m) {w : List (Nat × Nat × Nat)} (hs : sa_ w m m1) (hd : dj_ (flcd_ ++ kc8d_ ++ twrd_ ++ trcd_ ++ rcd_) w = true) (hk : tc_ L' m1) : CB_ L' a b W z C cp O P F T st TR A n m1 := by
  have ha := sa_ag hd hs
  obtain ⟨h1, h2, h3, h4, h5, h6⟩ := h
  exact ⟨hk, fxc_ag h2 (ag_sb (by decide) ha), kc8_ag hO h3 (ag_sb (by decide) ha), twr_ag h4 (ag_sb (by decide) ha), trc_ag h5 (ag_sb (by decide) ha), rc_g h6 (ag_sb (by decide) ha)⟩
theorem MB_tm {L L' : List Nat} {a b : Int32} {W : List (Nat × Nat × Nat)} {z : Nat} {C : List (Nat × Nat × Nat)} {cp : Nat} {O : List od_} {P : pl_} {F : List fa_} {T : Nat} {TR : tp_} {A : air_} {n : Nat} {m m1 : fm_} (h : MB_ L a b W z C cp O P F T TR A n m) {w : List (Nat × Nat × Nat)} (hs : sa_ w m m1) (hd : dj_ (flmd_ ++ km9d_ ++ twqd_ ++ trmd_ ++ rmd_) w = true) (hk : tm_ L' m1) : MB_ L' a b W z C cp O P F T TR A n m1 := by
  have ha := sa_ag hd hs
  obtain ⟨h1, h2, h3, h4, h5, h6⟩ := h
  exact ⟨hk, fxm_ag h2 (ag_sb (by decide) ha), km9_ag h3 (ag_sb (by decide) ha), twq_ag h4 (ag_sb (by decide) ha), trm_ag h5 (ag_sb (by decide) ha), rm_g h6 (ag_sb (by decide) ha)⟩
theorem MB_k9 {L : List Nat} {a b : Int32} {W : List (Nat × Nat × Nat)} {z : Nat} {C : List (Nat × Nat × Nat)} {cp : Nat} {O : List od_} {P P' : pl_} {F F' : List fa_} {T T' : Nat} {TR : tp_} {A : air_} {n : Nat} {m m1 : fm_} (h : MB_ L a b W z C cp O P F T TR A n m) {w : List (Nat × Nat × Nat)} (hs : sa_ w m m1) (hd : dj_ (tmd_ ++ flmd_ ++ twqd_ ++ trmd_ ++ rmd_) w = true) (hk : km9_ W z P' F' T' C O m1) : MB_ L a b W z C cp O P' F' T' TR A n m1 := by
  have ha := sa_ag hd hs
  obtain ⟨h1, h2, h3, h4, h5, h6⟩ := h
  exact ⟨tm_ag h1 (ag_sb (by decide) ha), fxm_ag h2 (ag_sb (by decide) ha), hk, twq_ag h4 (ag_sb (by decide) ha), trm_ag h5 (ag_sb (by decide) ha), rm_g h6 (ag_sb (by decide) ha)⟩
theorem sim_account (x y w v : Int32) : sm_ J_ (f_X11_account x y w v) (f_X12_account x y w v) := sm_i fun k L a b W z C cp O P F T st TR A n m hk ho hst hc hm => by
  obtain ⟨m1, e1, e2⟩ := account_c ho.1 ho.2.1 ho.2.2.1 ho.2.2.2.2.1 (by omega) hc.2.2.1 x y w v
  have s1 := fr_X11_account e1
  have hm1 := MB_hi hm (sa_ag (by decide) s1)
  obtain ⟨m2, f1, _⟩ := account_m ho.1 ho.2.1 ho.2.2.1 ho.2.2.2.2.1 hm1.2.2.1 hc.2.2.1.1.1.2.1 x y w v
  have s2 := fr_X12_account f1
  exact ⟨_, m1, m2, e1, f1, L, a, b, W, z, C, cp, O, P, F, T, st, TR, A, n, ho, by omega, CB_lo ho.2.2.2.2.1.1.1 (CB_k8 hc s1 (by decide) e2) (sa_ag (by decide) s2), MB_fr hm1 s2 (by decide)⟩
theorem sim_back (x y w v l : Int32) : sm_ J_ (f_X11_back x y w v l) (f_X12_back x y w v l) := sm_i fun k L a b W z C cp O P F T st TR A n m hk ho hst hc hm => by
  obtain ⟨m1, e1, e2⟩ := back_c ho.1 ho.2.1 ho.2.2.1 ho.2.2.2.2.1 (by omega) hc.2.2.1 x y w v l
  have s1 := fr_X11_back e1
  have hm1 := MB_hi hm (sa_ag (by decide) s1)
  obtain ⟨m2, f1, _⟩ := back_m ho.1 ho.2.1 ho.2.2.1 ho.2.2.2.2.1 hm1.2.2.1 hc.2.2.1.1.1.2.1 x y w v l
  have s2 := fr_X12_back f1
  exact ⟨_, m1, m2, e1, f1, L, a, b, W, z, C, cp, O, P, F, T, st, TR, A, n, ho, by omega, CB_lo ho.2.2.2.2.1.1.1 (CB_k8 hc s1 (by decide) e2) (sa_ag (by decide) s2), MB_fr hm1 s2 (by decide)⟩
theorem sim_isDouble (x y v : Int32) : sm_ J_ (f_X11_isDouble x y v) (f_X12_isDouble x y v) := sm_i fun k L a b W z C cp O P F T st TR A n m hk ho hst hc hm => by
  obtain ⟨r, m1, e1, e2, _⟩ := double_c ho.1 hc.2.2.1.1 x y v
  have s1 := fr_X11_isDouble e1
  have hm1 := MB_hi hm (sa_ag (by decide) s1)
  obtain ⟨r2, f1, f2⟩ := double_m ho.1 hm1.2.2.1.1 x y v
  have := sdo_u e2 f2
  subst this
  exact ⟨r, m1, m1, e1, f1, L, a, b, W, z, C, cp, O, P, F, T, st, TR, A, n, ho, by omega, CB_fr ho.2.2.2.2.1.1.1 hc s1 (by decide), hm1⟩
theorem sim_feed (x1 x2 x3 x4 x5 : Int32) : sm_ J_ (f_X11_feed x1 x2 x3 x4 x5) (f_X12_feed x1 x2 x3 x4 x5) := sm_i fun k L a b W z C cp O P F T st TR A n m hk ho hst hc hm => by
  obtain ⟨m1, e1, e2⟩ := tc_feed hc.1 x1 x2 x3 x4 x5
  have s1 := fr_X11_feed e1
  have hm1 := MB_hi hm (sa_ag (by decide) s1)
  obtain ⟨m2, f1, f2⟩ := tm_feed hc.1.1 hm1.1 x1 x2 x3 x4 x5
  have s2 := fr_X12_feed f1
  exact ⟨_, m1, m2, e1, f1, _, a, b, W, z, C, cp, O, P, F, T, st, TR, A, n, ho, by omega, CB_lo ho.2.2.2.2.1.1.1 (CB_tc ho.2.2.2.2.1.1.1 hc s1 (by decide) e2) (sa_ag (by decide) s2), MB_tm hm1 s2 (by decide) f2⟩
theorem sim_end (x : Int32) : sm_ J_ (f_X11_end x) (f_X12_end x) := sm_i fun k L a b W z C cp O P F T st TR A n m hk ho hst hc hm => by
  obtain ⟨m1, e1, e2⟩ := tc_end hc.1 x
  have s1 := fr_X11_end e1
  have hm1 := MB_hi hm (sa_ag (by decide) s1)
  obtain ⟨m2, f1, f2⟩ := tm_end hc.1.1 hm1.1 x
  have s2 := fr_X12_end f1
  exact ⟨_, m1, m2, e1, f1, _, a, b, W, z, C, cp, O, P, F, T, st, TR, A, n, ho, by omega, CB_lo ho.2.2.2.2.1.1.1 (CB_tc ho.2.2.2.2.1.1.1 hc s1 (by decide) e2) (sa_ag (by decide) s2), MB_tm hm1 s2 (by decide) f2⟩
theorem sim_plate (x : Int64) (f : Int32) : sm_ J_ (f_X11_plate x f) (f_X12_plate x f) := sm_i fun k L a b W z C cp O P F T st TR A n m hk ho hst hc hm => by
  obtain ⟨m1, st1, e1, e2, e3⟩ := platek_c ho.1 ho.2.2.2.2.1 (by omega) hc.2.2.1 x f
  have s1 := fr_X11_plate e1
  have hm1 := MB_hi hm (sa_ag (by decide) s1)
  obtain ⟨m2, f1, f2⟩ := platek_m ho.1 hm1.2.2.1 x f
  have s2 := fr_X12_plate f1
  exact ⟨_, m1, m2, e1, f1, L, a, b, W, z, C, cp, O, (spl_ P x f).2, F, T, st1, TR, A, n, ⟨⟨ho.1.1, spl_len ho.1.2.1 x f, ho.1.2.2⟩, ho.2⟩, by omega, CB_lo ho.2.2.2.2.1.1.1 (CB_k8 hc s1 (by decide) e2) (sa_ag (by decide) s2), MB_k9 hm1 s2 (by decide) f2⟩
theorem sim_papers (p1 p2 p3 p4 p5 p6 : Int32) : sm_ J_ (f_X11_papers p1 p2 p3 p4 p5 p6) (f_X12_papers p1 p2 p3 p4 p5 p6) := sm_i fun k L a b W z C cp O P F T st TR A n m hk ho hst hc hm => by
  obtain ⟨m1, e1, e2⟩ := papers_c ho.1 ho.2.2.2.2.1 hc.2.2.1 p1 p2 p3 p4 p5 p6
  have s1 := fr_X11_papers e1
  have hm1 := MB_hi hm (sa_ag (by decide) s1)
  obtain ⟨m2, f1, f2⟩ := papers_m ho.1 hm1.2.2.1 p1 p2 p3 p4 p5 p6
  have s2 := fr_X12_papers f1
  have hk2 := cs_kok ho.1 ho.2.1 (spap_cs ho.1.2.2.1.2.1 ho.1.2.1 p1 p2 p3 p4 p5 p6)
  exact ⟨_, m1, m2, e1, f1, L, a, b, W, z, C, cp, O, P, _, T, st, TR, A, n, ⟨hk2.1, hk2.2, ho.2.2⟩, by omega, CB_lo ho.2.2.2.2.1.1.1 (CB_k8 hc s1 (by decide) e2) (sa_ag (by decide) s2), MB_k9 hm1 s2 (by decide) f2⟩
theorem sim_appeal (p1 p2 : Int32) : sm_ J_ (f_X11_appeal p1 p2) (f_X12_appeal p1 p2) := sm_i fun k L a b W z C cp O P F T st TR A n m hk ho hst hc hm => by
  obtain ⟨m1, e1, e2⟩ := appeal_c ho.1 ho.2.2.2.2.1 hc.2.2.1 p1 p2
  have s1 := fr_X11_appeal e1
  have hm1 := MB_hi hm (sa_ag (by decide) s1)
  obtain ⟨m2, f1, f2⟩ := appeal_m ho.1 hm1.2.2.1 p1 p2
  have s2 := fr_X12_appeal f1
  have hk2 := cs_kok ho.1 ho.2.1 (sapp_cs ho.1.2.2.1.2.1 ho.1.2.1 p1 p2)
  exact ⟨_, m1, m2, e1, f1, L, a, b, W, z, C, cp, O, P, _, T, st, TR, A, n, ⟨hk2.1, hk2.2, ho.2.2⟩, by omega, CB_lo ho.2.2.2.2.1.1.1 (CB_k8 hc s1 (by decide) e2) (sa_ag (by decide) s2), MB_k9 hm1 s2 (by decide) f2⟩
theorem sim_later (x : Int32) : sm_ J_ (f_X11_later x) (f_X12_later x) := sm_i fun k L a b W z C cp O P F T st TR A n m hk ho hst hc hm => by
  obtain ⟨m1, e1, e2, e3⟩ := laterk_c ho.1 ho.2.2.2.2.1 hc.2.2.1 x
  have s1 := fr_X11_later e1
  have hm1 := MB_hi hm (sa_ag (by decide) s1)
  obtain ⟨m2, f1, f2⟩ := laterk_m ho.1 hm1.2.2.1 x
  have s2 := fr_X12_later f1
  exact ⟨_, m1, m2, e1, f1, L, a, b, W, z, C, cp, O, P, F, _, st, TR, A, n, ⟨e3, ho.2⟩, by omega, CB_lo ho.2.2.2.2.1.1.1 (CB_k8 hc s1 (by decide) e2) (sa_ag (by decide) s2), MB_k9 hm1 s2 (by decide) f2⟩
theorem sim_untell (x : Int32) : sm_ J_ (f_X11_untell x) (f_X12_untell x) := sm_i fun k L a b W z C cp O P F T st TR A n m hk ho hst hc hm => by
  obtain ⟨m1, e1, e2⟩ := untellk_c ho.1 ho.2.2.2.2.1 (by omega) hc.2.2.1 x
  have s1 := fr_X11_untell e1
  have hm1 := MB_hi hm (sa_ag (by decide) s1)
  obtain ⟨m2, f1, f2⟩ := untellk_m ho.1 hm1.2.2.1 x
  have s2 := fr_X12_untell f1
  have hk2 := same_kok (same_un (T := T) ho.1.2.2.1.1 x) (fw_un ho.1.2.2.1 x) ho.1 ho.2.1
  exact ⟨_, m1, m2, e1, f1, L, a, b, W, z, C, cp, O, P, _, T, st + 1, TR, A, n, ⟨hk2.1, hk2.2, ho.2.2⟩, by omega, CB_lo ho.2.2.2.2.1.1.1 (CB_k8 hc s1 (by decide) e2) (sa_ag (by decide) s2), MB_k9 hm1 s2 (by decide) f2⟩
theorem sim_read (x y w : Int32) (v : Int64) : sm_ J_ (f_X11_read x y w v) (f_X12_read x y w v) := sm_i fun k L a b W z C cp O P F T st TR A n m hk ho hst hc hm => by
  obtain ⟨m1, st1, e1, e2, e3, e4⟩ := read_c ho.1 (by omega) hc.2.2.1.1 hc.2.2.1.2.2.2 x y w v
  have s1 := fr_X11_read e1
  have hm1 := MB_hi hm (sa_ag (by decide) s1)
  obtain ⟨m2, f1, f2⟩ := read_m ho.1 hm1.2.2.1.1 x y w v
  have s2 := fr_X12_read f1
  have hk2 := kok_rd ho.1 ho.2.1 x y w v
  exact ⟨_, m1, m2, e1, f1, L, a, b, W, z, C, cp, O, P, _, T, st1, TR, A, n, ⟨hk2.1, hk2.2, ho.2.2⟩, by omega, CB_lo ho.2.2.2.2.1.1.1 (CB_k8 hc s1 (by decide) (k8_o ho.2.2.2.2.1.1.1 hc.2.2.1 s1 (by decide) e2 e3)) (sa_ag (by decide) s2), MB_k9 hm1 s2 (by decide) ⟨f2, (sa_gi s2 (by rfl)).trans hm1.2.2.1.2.1, lom_ag hm1.2.2.1.2.2 (sa_ag (by decide) s2)⟩⟩
theorem nat_lt {x : Int32} {n j : Nat} (hn : n < 2 ^ 31) (h : nat_ x n = some j) : j < n := by
  rcases nat_ix x hn with ⟨e, _⟩ | ⟨i, hi, _, e, _⟩
  · rw [e] at h; cases h
  · rw [e] at h
    injection h with h
    omega
theorem sair_ok {A : air_} (h : ∀ c q, A c = some q → q.1 < 4 ∧ q.2 < 1000) (n : Nat) (p1 p2 p3 p4 : Int32) : ∀ c q, (sair_ A n p1 p2 p3 p4).2.1 c = some q → q.1 < 4 ∧ q.2 < 1000 := by
  intro c q
  unfold sair_
  cases e1 : nat_ p1 2 with
  | none => exact h c q
  | some s =>
    cases e2 : nat_ p2 100 with
    | none => exact h c q
    | some d =>
      cases e3 : nat_ p3 4 with
      | none => exact h c q
      | some w =>
        cases e4 : nat_ p4 1000 with
        | none => exact h c q
        | some v =>
          show (sa1_ A n (100 * s + d) w v).2.1 c = some q → _
          unfold sa1_
          by_cases c1 : 120 ≤ n
          · rw [if_pos c1]; exact h c q
          · rw [if_neg c1]
            cases e5 : A (100 * s + d) with
            | some y => exact h c q
            | none =>
              show ua_ A (100 * s + d) (w, v) c = some q → _
              unfold ua_
              by_cases c2 : c = 100 * s + d
              · rw [if_pos c2]
                intro hq
                injection hq with hq
                subst hq
                exact ⟨nat_lt (by omega) e3, nat_lt (by omega) e4⟩
              · rw [if_neg c2]; exact h c q
theorem sim_air (p1 p2 p3 p4 : Int32) : sm_ J_ (f_X11_air p1 p2 p3 p4) (f_X12_air p1 p2 p3 p4) := sm_i fun k L a b W z C cp O P F T st TR A n m hk ho hst hc hm => by
  obtain ⟨m1, e1, e2⟩ := air_c hc.2.2.2.2.2 p1 p2 p3 p4
  have s1 := fr_X11_air e1
  have hm1 := MB_hi hm (sa_ag (by decide) s1)
  obtain ⟨m2, f1, f2⟩ := air_m hc.2.2.2.2.2.1 hm1.2.2.2.2.2 p1 p2 p3 p4
  have s2 := fr_X12_air f1
  have g1 : CB_ L a b W z C cp O P F T st TR (sair_ A n p1 p2 p3 p4).2.1 (sair_ A n p1 p2 p3 p4).2.2 m1 := by
    obtain ⟨h1, h2, h3, h4, h5, h6⟩ := hc
    exact ⟨tc_ag h1 (sa_ag (by decide) s1), fxc_ag h2 (sa_ag (by decide) s1), kc8_ag ho.2.2.2.2.1.1.1 h3 (sa_ag (by decide) s1), twr_ag h4 (sa_ag (by decide) s1), trc_ag h5 (sa_ag (by decide) s1), e2⟩
  have g2 : MB_ L a b W z C cp O P F T TR (sair_ A n p1 p2 p3 p4).2.1 (sair_ A n p1 p2 p3 p4).2.2 m2 := by
    obtain ⟨h1, h2, h3, h4, h5, h6⟩ := hm1
    exact ⟨tm_ag h1 (sa_ag (by decide) s2), fxm_ag h2 (sa_ag (by decide) s2), km9_ag h3 (sa_ag (by decide) s2), twq_ag h4 (sa_ag (by decide) s2), trm_ag h5 (sa_ag (by decide) s2), f2⟩
  exact ⟨_, m1, m2, e1, f1, L, a, b, W, z, C, cp, O, P, F, T, st, TR, _, _, ⟨ho.1, ho.2.1, ho.2.2.1, ho.2.2.2.1, ho.2.2.2.2.1, ho.2.2.2.2.2.1, sair_ok ho.2.2.2.2.2.2 n p1 p2 p3 p4⟩, by omega, CB_lo ho.2.2.2.2.1.1.1 g1 (sa_ag (by decide) s2), g2⟩
theorem sim_trip (p1 p2 p3 p4 p5 : Int32) : sm_ J_ (f_X11_trip p1 p2 p3 p4 p5) (f_X12_trip p1 p2 p3 p4 p5) := sm_i fun k L a b W z C cp O P F T st TR A n m hk ho hst hc hm => by
  have hT := ho.2.2.2.2.2.1
  obtain ⟨m1, e1, e2⟩ := trip_c ho.1.1 hT.1 hc.2.2.2.2.1 hc.2.2.1.1.2.2.2.2 p1 p2 p3 p4 p5
  have s1 := fr_X11_trip e1
  have hm1 := MB_hi hm (sa_ag (by decide) s1)
  obtain ⟨m2, f1, f2⟩ := trip_m ho.1.1 hT.1 hm1.2.2.2.2.1 hm1.2.2.1.1.2.2.2 p1 p2 p3 p4 p5
  have s2 := fr_X12_trip f1
  have g1 : CB_ L a b W z C cp O P F T st (strp_ W TR p1 p2 p3 p4 p5).2 A n m1 := by
    obtain ⟨h1, h2, h3, h4, h5, h6⟩ := hc
    exact ⟨tc_ag h1 (sa_ag (by decide) s1), fxc_ag h2 (sa_ag (by decide) s1), kc8_ag ho.2.2.2.2.1.1.1 h3 (sa_ag (by decide) s1), twr_ag h4 (sa_ag (by decide) s1), e2, rc_g h6 (sa_ag (by decide) s1)⟩
  have g2 : MB_ L a b W z C cp O P F T (strp_ W TR p1 p2 p3 p4 p5).2 A n m2 := by
    obtain ⟨h1, h2, h3, h4, h5, h6⟩ := hm1
    exact ⟨tm_ag h1 (sa_ag (by decide) s2), fxm_ag h2 (sa_ag (by decide) s2), km9_ag h3 (sa_ag (by decide) s2), twq_ag h4 (sa_ag (by decide) s2), f2, rm_g h6 (sa_ag (by decide) s2)⟩
  exact ⟨_, m1, m2, e1, f1, L, a, b, W, z, C, cp, O, P, F, T, st, _, A, n, ⟨ho.1, ho.2.1, ho.2.2.1, ho.2.2.2.1, ho.2.2.2.2.1, strp_ok hT p1 p2 p3 p4 p5, ho.2.2.2.2.2.2⟩, by omega, CB_lo ho.2.2.2.2.1.1.1 g1 (sa_ag (by decide) s2), g2⟩
theorem J_up : ∀ k m, J_ k m → J_ (k + 1) m := by
  intro k m ⟨L, a, b, W, z, C, cp, O, P, F, T, st, TR, A, n, h1, h2, h3, h4⟩
  exact ⟨L, a, b, W, z, C, cp, O, P, F, T, st, TR, A, n, h1, by omega, h3, h4⟩
