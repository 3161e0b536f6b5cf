/-! ===== plates, papers, appeals, what is untold, later, about: the reference ===== -/
theorem nr_m {W : List (Nat × Nat × Nat)} {z : Nat} {P : pl_} {F G : List fa_} {T : Nat} {C : List (Nat × Nat × Nat)} {O : List od_} {m m1 : fm_} (h : km9_ W z P F T C O m) (hf : fm1s_ G T m1) (hs : sa_ w_X12_papers m m1) : km9_ W z P G T C O m1 := by
  obtain ⟨⟨k1, k2, k3, k4⟩, hz, hl⟩ := h
  exact ⟨⟨pm_ag k1 (sa_ag (by rfl) hs), hf, camm_ag k3 (sa_ag (by rfl) hs), tb_sa k4 hs (fun k => by rfl)⟩, (sa_gi hs (by rfl)).trans hz, lom_ag hl (sa_ag (by rfl) hs)⟩
theorem papers_m {W : List (Nat × Nat × Nat)} {P : pl_} {F : List fa_} {T : Nat} {C : List (Nat × Nat × Nat)} (hk : kok_ W P F T C) {z : Nat} {O : List od_} {m : fm_} (hm : km9_ W z P F T C O m) (p1 p2 p3 p4 p5 p6 : Int32) : ∃ m1, f_X12_papers p1 p2 p3 p4 p5 p6 m = some ((spap_ F T P.length p1 p2 p3 p4 p5 p6).1, m1) ∧ km9_ W z P (spap_ F T P.length p1 p2 p3 p4 p5 p6).2 T C O m1 := by
  obtain ⟨m1, e1, f1⟩ := pap_m hk.2.2.1 hm.1.2.1 hk.2.1 hm.1.1 p1 p2 p3 p4 p5 p6
  exact ⟨m1, e1, nr_m hm f1 (fr_X12_papers e1)⟩
theorem appeal_m {W : List (Nat × Nat × Nat)} {P : pl_} {F : List fa_} {T : Nat} {C : List (Nat × Nat × Nat)} (hk : kok_ W P F T C) {z : Nat} {O : List od_} {m : fm_} (hm : km9_ W z P F T C O m) (p1 p2 : Int32) : ∃ m1, f_X12_appeal p1 p2 m = some ((sapp_ F T P.length p1 p2).1, m1) ∧ km9_ W z P (sapp_ F T P.length p1 p2).2 T C O m1 := by
  obtain ⟨m1, e1, f1⟩ := app_m hk.2.2.1 hm.1.2.1 hk.2.1 hm.1.1 p1 p2
  exact ⟨m1, e1, nr_m hm f1 (sa_up (by rfl) (fr_X12_appeal e1))⟩
theorem untellk_m {W : List (Nat × Nat × Nat)} {P : pl_} {F : List fa_} {T : Nat} {C : List (Nat × Nat × Nat)} (hk : kok_ W P F T C) {z : Nat} {O : List od_} {m : fm_} (hm : km9_ W z P F T C O m) (x : Int32) : ∃ m1, f_X12_untell x m = some ((sun_ F T x).1, m1) ∧ km9_ W z P (sun_ F T x).2 T C O m1 := by
  obtain ⟨m1, e1, f1⟩ := untell_m hk.2.2.1 hm.1.2.1 x
  exact ⟨m1, e1, nr_m hm f1 (sa_up (by rfl) (fr_X12_untell e1))⟩
theorem laterk_m {W : List (Nat × Nat × Nat)} {P : pl_} {F : List fa_} {T : Nat} {C : List (Nat × Nat × Nat)} (hk : kok_ W P F T C) {z : Nat} {O : List od_} {m : fm_} (hm : km9_ W z P F T C O m) (x : Int32) : ∃ m1, f_X12_later x m = some ((lt_ T x).1, m1) ∧ km9_ W z P F (lt_ T x).2 C O m1 := by
  obtain ⟨⟨k1, k2, k3, k4⟩, hz, hl⟩ := hm
  obtain ⟨m1, e1, f1⟩ := later_m hk.2.2.1.2.1 k2.2.1 x
  have hs := fr_X12_later e1
  refine ⟨m1, e1, ⟨pm_ag k1 (sa_ag (by rfl) hs), ⟨(sa_gi hs (by rfl)).trans k2.1, f1, fun j q hj => ?_⟩, camm_ag k3 (sa_ag (by rfl) hs), tb_sa k4 hs (fun k => by rfl)⟩, (sa_gi hs (by rfl)).trans hz, lom_ag hl (sa_ag (by rfl) hs)⟩
  have := k2.2.2 j q hj
  unfold fm1_ at this ⊢
  rw [sa_gi hs (a := 141) (k := j) (by rfl), sa_gi hs (a := 142) (k := j) (by rfl), sa_gi hs (a := 143) (k := j) (by rfl), sa_gi hs (a := 144) (k := j) (by rfl), sa_gi hs (a := 145) (k := j) (by rfl), sa_gi hs (a := 146) (k := j) (by rfl), sa_gi hs (a := 147) (k := j) (by rfl), sa_gi hs (a := 148) (k := j) (by rfl), sa_gi hs (a := 149) (k := j) (by rfl), sa_gi hs (a := 150) (k := j) (by rfl), sa_gl hs (a := 139) (k := j) (by rfl)]
  exact this
theorem platek_m {W : List (Nat × Nat × Nat)} {P : pl_} {F : List fa_} {T : Nat} {C : List (Nat × Nat × Nat)} (hk : kok_ W P F T C) {z : Nat} {O : List od_} {m : fm_} (hm : km9_ W z P F T C O m) (x : Int64) (f : Int32) : ∃ m1, f_X12_plate x f m = some ((spl_ P x f).1, m1) ∧ km9_ W z (spl_ P x f).2 F T C O m1 := by
  obtain ⟨⟨k1, k2, k3, k4⟩, hz, hl⟩ := hm
  obtain ⟨m1, e1, f1⟩ := plate_m hk.2.1 k1 x f
  have hs := fr_X12_plate e1
  exact ⟨m1, e1, ⟨f1, fm1s_ag k2 (sa_ag (by rfl) hs), camm_ag k3 (sa_ag (by rfl) hs), tb_sa k4 hs (fun k => by rfl)⟩, (sa_gi hs (by rfl)).trans hz, lom_ag hl (sa_ag (by rfl) hs)⟩
/-! about -/
def sab_ (a z c o p f t g v n : Nat) (x : Int32) : Int32 := if x = 0 then nI a else if x = 1 then nI (pop_ z) else if x = 2 then nI c else if x = 3 then nI o else if x = 4 then nI p else if x = 5 then nI f else if x = 6 then nI t else if x = 7 then nI g else if x = 8 then nI v else if x = 9 then nI n else -1
theorem about_c {a z c o p f t g v n : Nat} (hz : z < 4096) {m : fm_} (h0 : gi_ m 6 3 = nI a) (h1 : gi_ m 6 4 = nI z) (h2 : gi_ m 6 8 = nI c) (h3 : gi_ m 30 1 = nI o) (h4 : gi_ m 69 2 = nI p) (h5 : gi_ m 72 7 = nI f) (h6 : gi_ m 72 8 = nI t) (h7 : gi_ m 98 7 = nI g) (h8 : gi_ m 94 2 = nI v) (h9 : gi_ m 1 4 = nI n) (x : Int32) : f_X11_about x m = some (sab_ a z c o p f t g v n x, m) := by
  unfold f_X11_about sab_
  rw [h0, h1, h2, h3, h4, h5, h6, h7, h8, h9, bc_ hz]
  repeat (first | rfl | split)
theorem about_m {a z c o p f t g v n : Nat} (hz : z < 4096) {m : fm_} (h0 : gi_ m 106 29 = nI a) (h1 : gi_ m 106 31 = nI z) (h2 : gi_ m 106 30 = nI c) (h3 : gi_ m 106 33 = nI o) (h4 : gi_ m 106 57 = nI p) (h5 : gi_ m 106 58 = nI f) (h6 : gi_ m 106 59 = nI t) (h7 : gi_ m 106 87 = nI g) (h8 : gi_ m 106 81 = nI v) (h9 : gi_ m 106 1 = nI n) (x : Int32) : f_X12_about x m = some (sab_ a z c o p f t g v n x, m) := by
  unfold f_X12_about sab_
  rw [h0, h1, h2, h3, h4, h5, h6, h7, h8, h9, bits_m hz]
  repeat (first | rfl | split)
