/-! ===== one call: those that only ask ===== -/
theorem ag_r {d : List (Nat × Nat × Nat)} {m : fm_} : ag_ d m m := fun _ _ _ => ⟨rfl, rfl⟩
def CBD_ : List (Nat × Nat × Nat) := tcd_ ++ flcd_ ++ kc8d_ ++ twrd_ ++ trcd_ ++ rcd_
def MBD_ : List (Nat × Nat × Nat) := tmd_ ++ flmd_ ++ km9d_ ++ twqd_ ++ trmd_ ++ rmd_
theorem CB_fr {L : List Nat} {a b : Int32} {W : List (Nat × Nat × Nat)} {z : Nat} {C : List (Nat × Nat × Nat)} {cp : Nat} {O : List od_} {P : pl_} {F : List fa_} {T st : Nat} {TR : tp_} {A : air_} {n : Nat} {m m1 : fm_} (hO : O.length ≤ 6) (h : CB_ L a b W z C cp O P F T st TR A n m) {w : List (Nat × Nat × Nat)} (hs : sa_ w m m1) (hd : dj_ CBD_ w = true) : CB_ L a b W z C cp O P F T st TR A n m1 := by
  have ha := sa_ag hd hs
  obtain ⟨h1, h2, h3, h4, h5, h6⟩ := h
  exact ⟨tc_ag h1 (ag_sb (by decide) ha), fxc_ag h2 (ag_sb (by decide) ha), kc8_ag hO h3 (ag_sb (by decide) ha), twr_ag h4 (ag_sb (by decide) ha), trc_ag h5 (ag_sb (by decide) ha), rc_g h6 (ag_sb (by decide) ha)⟩
theorem MB_fr {L : List Nat} {a b : Int32} {W : List (Nat × Nat × Nat)} {z : Nat} {C : List (Nat × Nat × Nat)} {cp : Nat} {O : List od_} {P : pl_} {F : List fa_} {T : Nat} {TR : tp_} {A : air_} {n : Nat} {m m1 : fm_} (h : MB_ L a b W z C cp O P F T TR A n m) {w : List (Nat × Nat × Nat)} (hs : sa_ w m m1) (hd : dj_ MBD_ w = true) : MB_ L a b W z C cp O P F T TR A n m1 := by
  have ha := sa_ag hd hs
  obtain ⟨h1, h2, h3, h4, h5, h6⟩ := h
  exact ⟨tm_ag h1 (ag_sb (by decide) ha), fxm_ag h2 (ag_sb (by decide) ha), km9_ag h3 (ag_sb (by decide) ha), twq_ag h4 (ag_sb (by decide) ha), trm_ag h5 (ag_sb (by decide) ha), rm_g h6 (ag_sb (by decide) ha)⟩
/-- the cache may have changed -/
def CBQ_ : List (Nat × Nat × Nat) := tcd_ ++ flcd_ ++ twrd_ ++ trcd_ ++ rcd_
theorem CB_k8 {L : List Nat} {a b : Int32} {W : List (Nat × Nat × Nat)} {z : Nat} {C : List (Nat × Nat × Nat)} {cp : Nat} {O : List od_} {P P' : pl_} {F F' : List fa_} {T T' st st' : Nat} {TR : tp_} {A : air_} {n : Nat} {m m1 : fm_} (h : CB_ L a b W z C cp O P F T st TR A n m) {w : List (Nat × Nat × Nat)} (hs : sa_ w m m1) (hd : dj_ CBQ_ w = true) (hk : kc8_ W z P' F' T' C O st' m1) : CB_ L a b W z C cp O P' F' T' st' TR A n m1 := by
  have ha := sa_ag hd hs
  obtain ⟨h1, h2, h3, h4, h5, h6⟩ := h
  exact ⟨tc_ag h1 (ag_sb (by decide) ha), fxc_ag h2 (ag_sb (by decide) ha), hk, twr_ag h4 (ag_sb (by decide) ha), trc_ag h5 (ag_sb (by decide) ha), rc_g h6 (ag_sb (by decide) ha)⟩
theorem dwc_o {L : List Nat} {a b : Int32} {W : List (Nat × Nat × Nat)} {z : Nat} {C : List (Nat × Nat × Nat)} {cp : Nat} {O : List od_} {P : pl_} {F : List fa_} {T st : Nat} {TR : tp_} {A : air_} {n : Nat} {m : fm_} (h : CB_ L a b W z C cp O P F T st TR A n m) : dwc_ W z O TR m := ⟨⟨h.2.2.2.1.1, h.2.2.1.2.1, h.2.2.1.1.2.2.2.2, h.2.2.2.1.2.1, h.2.2.2.1.2.2.1⟩, h.2.2.1.2.2.1.1, h.2.2.2.2.1⟩
theorem dwm_o {L : List Nat} {a b : Int32} {W : List (Nat × Nat × Nat)} {z : Nat} {C : List (Nat × Nat × Nat)} {cp : Nat} {O : List od_} {P : pl_} {F : List fa_} {T : Nat} {TR : tp_} {A : air_} {n : Nat} {m : fm_} (h : MB_ L a b W z C cp O P F T TR A n m) : dwm_ W z O TR m := ⟨h.2.2.2.1.1, h.2.2.1.2.1, ⟨h.2.2.1.1.2.2.2, h.2.2.2.1.2.1⟩, h.2.2.1.2.2.1, h.2.2.2.2.1⟩
theorem dwok_o {W : List (Nat × Nat × Nat)} {z : Nat} {C : List (Nat × Nat × Nat)} {cp : Nat} {O : List od_} {P : pl_} {F : List fa_} {T : Nat} {TR : tp_} {A : air_} (h : OB_ W z C cp O P F T TR A) : dwok_ W z O TR := ⟨h.1.1, h.2.2.1, h.2.2.2.2.1.1, h.2.2.2.2.2.1⟩
theorem sim_fault (x : Int32) : sm_ J_ (f_X11_fault x) (f_X12_fault x) := sm_q fun _ a b _ _ _ _ _ _ _ _ _ _ _ _ _ _ => ⟨sfl_ a b x, fun m h => ⟨m, fault_c h.2.1.1 h.2.1.2 x, h, ag_r⟩, fun m h => ⟨m, fault_m h.2.1.1 h.2.1.2 x, h, ag_r⟩⟩
theorem sim_between (x y : Int32) : sm_ J_ (f_X11_between x y) (f_X12_between x y) := sm_q fun _ _ _ W _ _ _ _ _ _ _ _ _ _ _ ho _ => ⟨sbt_ W x y, fun m h => ⟨m, bet_c ho.1.1 h.2.2.1.1.2.2.2.2 x y, h, ag_r⟩, fun m h => ⟨m, bet_m ho.1.1 h.2.2.1.1.2.2.2 x y, h, ag_r⟩⟩
theorem sim_like (x y : Int32) : sm_ J_ (f_X11_like x y) (f_X12_like x y) := sm_q fun _ _ _ _ _ _ _ _ P F _ _ _ _ _ ho _ => ⟨slk_ F P x y, fun m h => ⟨m, like_c ho.1.2.2.1 h.2.2.1.1.2.1 h.2.2.1.1.1 x y, h, ag_r⟩, fun m h => ⟨m, like_m ho.1.2.2.1 h.2.2.1.1.2.1 ho.1.2.1 h.2.2.1.1.1 x y, h, ag_r⟩⟩
theorem sim_about (x : Int32) : sm_ J_ (f_X11_about x) (f_X12_about x) := sm_q fun L _ _ W z C _ O P F T _ TR _ n ho _ => ⟨sab_ W.length z C.length O.length P.length F.length T TR.length n L.length x, fun m h => ⟨m, about_c ho.2.2.1 h.2.2.2.1.1.1.1 h.2.2.1.2.1 h.2.2.1.1.2.2.2.1.1 h.2.2.1.2.2.1.1.1 h.2.2.1.1.1.2.2.1 h.2.2.1.1.2.1.1 h.2.2.1.1.2.1.2.1 h.2.2.2.2.1.1 h.2.2.2.2.2.2.1 h.1.2.2.1 x, h, ag_r⟩, fun m h => ⟨m, about_m ho.2.2.1 h.2.2.2.1.1.1 h.2.2.1.2.1 h.2.2.1.1.2.2.1.1 h.2.2.1.2.2.1.1 h.2.2.1.1.1.1 h.2.2.1.1.2.1.1 h.2.2.1.1.2.1.2.1 h.2.2.2.2.1.1 h.2.2.2.2.2.1 h.1.1 x, h, ag_r⟩⟩
theorem sim_classOf (x y k : Int32) : sm_ J_ (f_X11_classOf x y k) (f_X12_classOf x y k) := sm_q fun _ _ _ _ _ _ _ O P F _ _ _ _ _ ho _ => ⟨scl_ O P F x y k, fun m h => by
    obtain ⟨m1, e1⟩ := clo_c ho.2.2.2.2.1 ho.1.2.2.1 ho.1.2.1 h.2.2.1.2.2.1 h.2.2.1.1.2.1 h.2.2.1.1.1 x y k
    have s := fr_X11_classOf e1
    exact ⟨m1, e1, CB_fr ho.2.2.2.2.1.1.1 h s (by decide), sa_ag (by decide) s⟩, fun m h => by
    obtain ⟨m1, e1⟩ := clo_m ho.2.2.2.2.1 ho.1.2.2.1 ho.1.2.1 h.2.2.1.2.2 h.2.2.1.1.2.1 h.2.2.1.1.1 x y k
    have s := fr_X12_classOf e1
    exact ⟨m1, e1, MB_fr h s (by decide), sa_ag (by decide) s⟩⟩
theorem sim_effect (x : Int32) : sm_ J_ (f_X11_effect x) (f_X12_effect x) := sm_q fun _ _ _ _ _ _ _ _ _ _ _ _ _ A _ ho _ => ⟨seff_ A x, fun m h => by
    obtain ⟨m1, e1, _⟩ := eff_c h.2.2.2.2.2 x
    have s := fr_X11_effect e1
    exact ⟨m1, e1, CB_fr ho.2.2.2.2.1.1.1 h s (by decide), sa_ag (by decide) s⟩, fun m h => by
    obtain ⟨m1, e1, _⟩ := eff_m ho.2.2.2.2.2.2 h.2.2.2.2.2 x
    have s := fr_X12_effect e1
    exact ⟨m1, e1, MB_fr h s (by decide), sa_ag (by decide) s⟩⟩
theorem sim_doubtOf (x y : Int32) : sm_ J_ (f_X11_doubtOf x y) (f_X12_doubtOf x y) := sm_q fun _ _ _ _ _ _ _ _ _ _ _ _ _ A _ ho _ => ⟨sdo2_ A x y, fun m h => by
    obtain ⟨m1, e1, _⟩ := doubtOf_c h.2.2.2.2.2 x y
    have s := fr_X11_doubtOf e1
    exact ⟨m1, e1, CB_fr ho.2.2.2.2.1.1.1 h s (by decide), sa_ag (by decide) s⟩, fun m h => by
    obtain ⟨m1, e1, _⟩ := doubtOf_m ho.2.2.2.2.2.2 h.2.2.2.2.2 x y
    have s := fr_X12_doubtOf e1
    exact ⟨m1, e1, MB_fr h s (by decide), sa_ag (by decide) s⟩⟩
theorem b01_c {x : Int32} (h : x = 0 ∨ x = 1) : ∃ b, x = b01_ b := by
  rcases h with e | e
  · exact ⟨false, e⟩
  · exact ⟨true, e⟩
theorem sim_minutes (x y : Int32) (c : Int32) (hc : c = 0 ∨ c = 1) : sm_ J_ (f_X11_minutes x y c) (f_X12_minutes x y c) := by
  obtain ⟨q, rfl⟩ := b01_c hc
  exact sm_q fun _ _ _ W z _ _ O _ _ _ _ TR _ _ ho _ => ⟨smin_ W z O TR x y q, fun m h => by
    obtain ⟨m1, e1, _⟩ := min_c (dwok_o ho) (dwc_o h) x y q
    have s := fr_X11_minutes e1
    exact ⟨m1, e1, CB_fr ho.2.2.2.2.1.1.1 h s (by decide), sa_ag (by decide) s⟩, fun m h => by
    obtain ⟨m1, e1, _⟩ := min_m (dwok_o ho) (dwm_o h) x y q
    have s := fr_X12_minutes e1
    exact ⟨m1, e1, MB_fr h s (by decide), sa_ag (by decide) s⟩⟩
theorem sim_via (x y : Int32) (c : Int32) (v : Int32) (hc : c = 0 ∨ c = 1) : sm_ J_ (f_X11_via x y c v) (f_X12_via x y c v) := by
  obtain ⟨q, rfl⟩ := b01_c hc
  exact sm_q fun _ _ _ W z _ _ O _ _ _ _ TR _ _ ho _ => ⟨svia_ W z O TR x y q v, fun m h => by
    obtain ⟨m1, e1, _⟩ := via_c (dwok_o ho) (dwc_o h) x y q v
    have s := fr_X11_via e1
    exact ⟨m1, e1, CB_fr ho.2.2.2.2.1.1.1 h s (by decide), sa_ag (by decide) s⟩, fun m h => by
    obtain ⟨m1, e1, _⟩ := via_m (dwok_o ho) (dwm_o h) x y q v
    have s := fr_X12_via e1
    exact ⟨m1, e1, MB_fr h s (by decide), sa_ag (by decide) s⟩⟩
theorem sim_load (x y : Int32) (c : Int32) (hc : c = 0 ∨ c = 1) : sm_ J_ (f_X11_load x y c) (f_X12_load x y c) := by
  obtain ⟨q, rfl⟩ := b01_c hc
  exact sm_q fun _ _ _ W z _ _ O _ _ _ _ TR _ _ ho _ => ⟨sld_ W z O TR x y q, fun m h => by
    obtain ⟨m1, e1, _⟩ := load_c (dwok_o ho) (dwc_o h) x y q
    have s := fr_X11_load e1
    exact ⟨m1, e1, CB_fr ho.2.2.2.2.1.1.1 h s (by decide), sa_ag (by decide) s⟩, fun m h => by
    obtain ⟨m1, e1, _⟩ := load_m (dwok_o ho) (dwm_o h) x y q
    have s := fr_X12_load e1
    exact ⟨m1, e1, MB_fr h s (by decide), sa_ag (by decide) s⟩⟩
theorem sim_around (x : Int32) : sm_ J_ (f_X11_around x) (f_X12_around x) := sm_q fun _ _ _ W z _ _ O _ _ _ _ TR _ _ ho _ => ⟨saro_ W z O TR x, fun m h => by
    obtain ⟨m1, e1, _⟩ := aro_c (dwok_o ho) (dwc_o h) x
    have s := fr_X11_around e1
    exact ⟨m1, e1, CB_fr ho.2.2.2.2.1.1.1 h s (by decide), sa_ag (by decide) s⟩, fun m h => by
    obtain ⟨m1, e1, _⟩ := aro_m (dwok_o ho) (dwm_o h) x
    have s := fr_X12_around e1
    exact ⟨m1, e1, MB_fr h s (by decide), sa_ag (by decide) s⟩⟩
theorem sim_view (x y : Int32) : sm_ J_ (f_X11_view x y) (f_X12_view x y) := sm_q fun _ _ _ W z _ cp O _ _ _ _ TR _ _ ho _ => ⟨svw_ W z O TR cp x y true, fun m h => by
    obtain ⟨m1, e1, _⟩ := view_c (dwok_o ho) ho.2.2.2.1 (dwc_o h) h.2.2.2.1.2.2.2.2 x y
    have s := fr_X11_view e1
    exact ⟨m1, e1, CB_fr ho.2.2.2.2.1.1.1 h s (by decide), sa_ag (by decide) s⟩, fun m h => by
    obtain ⟨m1, e1, _⟩ := view_m (dwok_o ho) ho.2.2.2.1 (dwm_o h) h.2.2.2.1.2.2 x y
    have s := fr_X12_view e1
    exact ⟨m1, e1, MB_fr h s (by decide), sa_ag (by decide) s⟩⟩
theorem sim_seen (x y : Int32) : sm_ J_ (f_X11_seen x y) (f_X12_seen x y) := sm_q fun _ _ _ W z _ cp O _ _ _ _ TR _ _ ho _ => ⟨svw_ W z O TR cp x y false, fun m h => by
    obtain ⟨m1, e1, _⟩ := seen_c (dwok_o ho) ho.2.2.2.1 (dwc_o h) h.2.2.2.1.2.2.2.2 x y
    have s := fr_X11_seen e1
    exact ⟨m1, e1, CB_fr ho.2.2.2.2.1.1.1 h s (by decide), sa_ag (by decide) s⟩, fun m h => by
    obtain ⟨m1, e1, _⟩ := seen_m (dwok_o ho) ho.2.2.2.1 (dwm_o h) h.2.2.2.1.2.2 x y
    have s := fr_X12_seen e1
    exact ⟨m1, e1, MB_fr h s (by decide), sa_ag (by decide) s⟩⟩
theorem k8_o {W : List (Nat × Nat × Nat)} {z : Nat} {P P' : pl_} {F F' : List fa_} {T T' : Nat} {C : List (Nat × Nat × Nat)} {O : List od_} (hO : O.length ≤ 6) {st st' : Nat} {m m1 : fm_} (h : kc8_ W z P F T C O st m) {w : List (Nat × Nat × Nat)} (hs : sa_ w m m1) (hd : dj_ ([(6, 6, 5)] ++ locd_) w = true) (h1 : kwc_ W P' F' T' C m1) (h2 : cch_ W P' F' C st' m1) : kc8_ W z P' F' T' C O st' m1 := by
  have ha := sa_ag hd hs
  exact ⟨h1, (ha 6 4 rfl).1.trans h.2.1, loc_ag hO h.2.2.1 (ag_sb (by decide) ha), h2⟩
theorem sim_whose (x k : Int32) : sm_ J_ (f_X11_whose x k) (f_X12_whose x k) := sm_q fun _ _ _ W _ C _ _ P F _ _ _ _ _ ho hst => ⟨swh_ W P F C x k, fun m h => by
    obtain ⟨m1, e1, e2, e3⟩ := whose_c ho.1 hst h.2.2.1.1 h.2.2.1.2.2.2 x k
    have s := fr_X11_whose e1
    exact ⟨m1, e1, CB_k8 h s (by decide) (k8_o ho.2.2.2.2.1.1.1 h.2.2.1 s (by decide) e2 e3), sa_ag (by decide) s⟩, fun m h => by
    obtain ⟨m1, e1, _⟩ := whose_m ho.1 h.2.2.1.1 x k
    have s := fr_X12_whose e1
    exact ⟨m1, e1, MB_fr h s (by decide), sa_ag (by decide) s⟩⟩
theorem sim_doubt (x k : Int32) : sm_ J_ (f_X11_doubt x k) (f_X12_doubt x k) := sm_q fun _ _ _ W _ C _ _ P F _ _ _ _ _ ho hst => ⟨sdb_ W P F C x k, fun m h => by
    obtain ⟨m1, e1, e2, e3⟩ := doubt_c ho.1 hst h.2.2.1.1 h.2.2.1.2.2.2 x k
    have s := fr_X11_doubt e1
    exact ⟨m1, e1, CB_k8 h s (by decide) (k8_o ho.2.2.2.2.1.1.1 h.2.2.1 s (by decide) e2 e3), sa_ag (by decide) s⟩, fun m h => by
    obtain ⟨m1, e1, _⟩ := doubt_m ho.1 h.2.2.1.1 x k
    have s := fr_X12_doubt e1
    exact ⟨m1, e1, MB_fr h s (by decide), sa_ag (by decide) s⟩⟩
theorem sim_inside (x y : Int32) (c : Int32) (k : Int32) (hc : c = 0 ∨ c = 1) : sm_ J_ (f_X11_inside x y c k) (f_X12_inside x y c k) := by
  obtain ⟨q, rfl⟩ := b01_c hc
  exact sm_q fun _ _ _ W z C _ _ P F _ _ _ _ _ ho hst => ⟨sin_ W z P F C x y q k, fun m h => by
    obtain ⟨m1, e1, e2, e3⟩ := ins_c ho.1 ho.2.2.1 hst h.2.2.1.1 ⟨h.2.2.1.2.1, h.2.2.2.1.2.2.1, h.2.2.2.1.2.2.2.1⟩ h.2.2.1.2.2.2 x y q k
    have s := fr_X11_inside e1
    exact ⟨m1, e1, CB_k8 h s (by decide) (k8_o ho.2.2.2.2.1.1.1 h.2.2.1 s (by decide) e2 e3), sa_ag (by decide) s⟩, fun m h => by
    obtain ⟨m1, e1, _⟩ := ins_m ho.1 ho.2.2.1 h.2.2.1.1 h.2.2.1.2.1 x y q k
    have s := fr_X12_inside e1
    exact ⟨m1, e1, MB_fr h s (by decide), sa_ag (by decide) s⟩⟩
theorem sim_entries (x y k : Int32) : sm_ J_ (f_X11_entries x y k) (f_X12_entries x y k) := sm_q fun _ _ _ W z C _ O P F _ _ _ _ _ ho hst => ⟨sen_ W z P F C O x y k, fun m h => by
    obtain ⟨m1, e1, e2⟩ := entries_c ho.1 ho.2.1 ho.2.2.1 ho.2.2.2.2.1 hst h.2.2.1 x y k
    have s := fr_X11_entries e1
    exact ⟨m1, e1, CB_k8 h s (by decide) e2, sa_ag (by decide) s⟩, fun m h => by
    obtain ⟨m1, e1, _⟩ := entries_m ho.1 ho.2.1 ho.2.2.1 ho.2.2.2.2.1 h.2.2.1 x y k
    have s := fr_X12_entries e1
    exact ⟨m1, e1, MB_fr h s (by decide), sa_ag (by decide) s⟩⟩
theorem sim_charge (x y k : Int32) : sm_ J_ (f_X11_charge x y k) (f_X12_charge x y k) := sm_q fun _ _ _ W z C _ O P F _ _ _ _ _ ho hst => ⟨sch_ W z P F C O x y k, fun m h => by
    obtain ⟨m1, e1, e2⟩ := charge_c ho.1 ho.2.1 ho.2.2.1 ho.2.2.2.2.1 hst h.2.2.1 x y k
    have s := fr_X11_charge e1
    exact ⟨m1, e1, CB_k8 h s (by decide) e2, sa_ag (by decide) s⟩, fun m h => by
    obtain ⟨m1, e1, _⟩ := charge_m ho.1 ho.2.1 ho.2.2.1 ho.2.2.2.2.1 h.2.2.1 x y k
    have s := fr_X12_charge e1
    exact ⟨m1, e1, MB_fr h s (by decide), sa_ag (by decide) s⟩⟩
