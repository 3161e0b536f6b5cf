def w_X12_go : List (Nat × Nat × Nat) := [(106, 106, 96), (165, 165, 0), (166, 166, 0)]
set_option maxRecDepth 100000 in
theorem fr_X12_go {p1 : Int32} {p2 : Int32} {p3 : Int32} {m : fm_} {q : Int32 × fm_} (h : f_X12_go p1 p2 p3 m = some q) : sa_ w_X12_go m q.2 :=
  (fq_if h (fun h1 => (fq_rt h1 sa_rf)) (fun h1 => (fq_if h1 (fun h2 => (fq_rt h2 sa_rf)) (fun h2 => (fh_bd h2 fun q3 e4 h5 => (fq_if h5 (fun h6 => (fq_rt h6 (sa_t sa_rf (sa_ui [] rfl (fr_X12_isDay e4))))) (fun h6 => (fh_bd h6 fun q7 e8 h9 => (fq_if h9 (fun h10 => (fh_bd h10 fun q11 e12 h13 => (fq_rt h13 (sa_t (sa_t (sa_t sa_rf (sa_ui [] rfl (fr_X12_isDay e4))) (sa_ui [] rfl (fr_X12_inForce e8))) (sa_ui [0, 1, 2] rfl (fr_X12_travel e12)))))) (fun h10 => (fq_if h10 (fun h14 => (fh_gd h14 fun g16 h15 => (fh_gd h15 fun g18 h17 => (fh_bd h17 fun q19 e20 h21 => (fq_rt h21 (sa_t (sa_t (sa_t sa_rf (sa_ui [] rfl (fr_X12_isDay e4))) (sa_ui [] rfl (fr_X12_inForce e8))) (sa_ui [0, 1, 2] rfl (fr_X12_travel e20)))))))) (fun h14 => (fh_bd h14 fun q22 e23 h24 => (fq_rt h24 (sa_t (sa_t (sa_t sa_rf (sa_ui [] rfl (fr_X12_isDay e4))) (sa_ui [] rfl (fr_X12_inForce e8))) (sa_ui [0, 1, 2] rfl (fr_X12_travel e23)))))))))))))))))
def w_X12_minutes : List (Nat × Nat × Nat) := [(106, 106, 96), (165, 165, 0), (166, 166, 0)]
def PF_X12_minutes (s : S_X12_minutes) (q : Int32 × fm_) : Prop := match s with
  | (x1, x2, x3, x4, x5, m) => sa_ w_X12_minutes m q.2
theorem fl_X12_minutes (s : S_X12_minutes) (q : Int32 × fm_) (h : am_lp (st_X12_minutes) s = some q) : PF_X12_minutes s q :=
  am_lp_snd (P := PF_X12_minutes) (fun K hK s q h => match s, h with
    | (x1, x2, x3, x4, x5, m), h => (fr_if h (fun h1 => (fr_rt h1 sa_rf)) (fun h1 => (fj_gd h1 fun g3 h2 => (fj_gd h2 fun g5 h4 => (fj_gd h4 fun g7 h6 => (sa_t sa_rf (hK _ _ h6)))))))) s q h
set_option maxRecDepth 100000 in
theorem fr_X12_minutes {p1 : Int32} {p2 : Int32} {p3 : Int32} {m : fm_} {q : Int32 × fm_} (h : f_X12_minutes p1 p2 p3 m = some q) : sa_ w_X12_minutes m q.2 :=
  (fh_bd h fun q1 e2 h3 => (fq_if h3 (fun h4 => (fq_rt h4 (sa_t sa_rf (sa_ui [0, 1, 2] rfl (fr_X12_go e2))))) (fun h4 => (sa_t (sa_t sa_rf (sa_ui [0, 1, 2] rfl (fr_X12_go e2))) (fl_X12_minutes _ _ h4)))))
def w_X12_via : List (Nat × Nat × Nat) := [(106, 106, 96), (165, 165, 0), (166, 166, 0)]
set_option maxRecDepth 100000 in
theorem fr_X12_via {p1 : Int32} {p2 : Int32} {p3 : Int32} {p4 : Int32} {m : fm_} {q : Int32 × fm_} (h : f_X12_via p1 p2 p3 p4 m = some q) : sa_ w_X12_via m q.2 :=
  (fh_bd h fun q1 e2 h3 => (fq_if h3 (fun h4 => (fq_rt h4 (sa_t sa_rf (sa_ui [0, 1, 2] rfl (fr_X12_go e2))))) (fun h4 => (fq_if h4 (fun h5 => (fq_rt h5 (sa_t sa_rf (sa_ui [0, 1, 2] rfl (fr_X12_go e2))))) (fun h5 => (fq_if h5 (fun h6 => (fq_rt h6 (sa_t sa_rf (sa_ui [0, 1, 2] rfl (fr_X12_go e2))))) (fun h6 => (fh_gd h6 fun g8 h7 => (fq_rt h7 (sa_t sa_rf (sa_ui [0, 1, 2] rfl (fr_X12_go e2))))))))))))
def w_X12_wayOf : List (Nat × Nat × Nat) := []
def PF_X12_wayOf (s : S_X12_wayOf) (q : Int32 × fm_) : Prop := match s with
  | (x1, x2, x3, m) => sa_ w_X12_wayOf m q.2
theorem fl_X12_wayOf (s : S_X12_wayOf) (q : Int32 × fm_) (h : am_lp (st_X12_wayOf) s = some q) : PF_X12_wayOf s q :=
  am_lp_snd (P := PF_X12_wayOf) (fun K hK s q h => match s, h with
    | (x1, x2, x3, m), h => (fj_gd h fun g2 h1 => (fj_gd h1 fun g4 h3 => (fr_if h3 (fun h5 => (fj_gd h5 fun g7 h6 => (fr_if h6 (fun h8 => (fj_gd h8 fun g16 h15 => (fr_if h15 (fun h17 => (fr_rt h17 sa_rf)) (fun h17 => (fj_gd h17 fun g19 h18 => (fr_if h18 (fun h20 => (fj_gd h20 fun g22 h21 => (fr_if h21 (fun h23 => (fr_rt h23 sa_rf)) (fun h23 => (sa_t sa_rf (hK _ _ h23)))))) (fun h20 => (sa_t sa_rf (hK _ _ h20))))))))) (fun h8 => (fj_gd h8 fun g10 h9 => (fr_if h9 (fun h11 => (fj_gd h11 fun g13 h12 => (fr_if h12 (fun h14 => (fr_rt h14 sa_rf)) (fun h14 => (sa_t sa_rf (hK _ _ h14)))))) (fun h11 => (sa_t sa_rf (hK _ _ h11))))))))) (fun h5 => (sa_t sa_rf (hK _ _ h5))))))) s q h
set_option maxRecDepth 100000 in
theorem fr_X12_wayOf {p1 : Int32} {p2 : Int32} {m : fm_} {q : Int32 × fm_} (h : f_X12_wayOf p1 p2 m = some q) : sa_ w_X12_wayOf m q.2 :=
  (sa_t sa_rf (fl_X12_wayOf _ _ h))
def w_X12_load : List (Nat × Nat × Nat) := [(106, 106, 96), (165, 165, 0), (166, 166, 0)]
def PF_X12_load (s : S_X12_load) (q : Int32 × fm_) : Prop := match s with
  | Sum.inl ((x1, x2, x3, x4, x5, m)) => sa_ w_X12_load m q.2
  | Sum.inr ((x1, x2, x3, x4, x5, x6, m)) => sa_ w_X12_load m q.2
theorem fl_X12_load (s : S_X12_load) (q : Int32 × fm_) (h : am_lp (st_X12_load) s = some q) : PF_X12_load s q :=
  am_lp_snd (P := PF_X12_load) (fun K hK s q h => match s, h with
    | Sum.inl ((x1, x2, x3, x4, x5, m)), h => (fr_if h (fun h1 => (fr_rt h1 sa_rf)) (fun h1 => (fj_bd h1 fun q2 e3 h4 => (sa_t (sa_t sa_rf (sa_ui [0, 1, 2] rfl (fr_X12_go e3))) (hK _ _ h4)))))
    | Sum.inr ((x1, x2, x3, x4, x5, x6, m)), h => (fr_if h (fun h1 => (sa_t sa_rf (hK _ _ h1))) (fun h1 => (fj_gd h1 fun g3 h2 => (fj_gd h2 fun g5 h4 => (fj_bd h4 fun q6 e7 h8 => (fr_if h8 (fun h9 => (fj_gd h9 fun g11 h10 => (sa_t (sa_t sa_rf (sa_ui [] rfl (fr_X12_wayOf e7))) (hK _ _ h10)))) (fun h9 => (sa_t (sa_t sa_rf (sa_ui [] rfl (fr_X12_wayOf e7))) (hK _ _ h9)))))))))) s q h
set_option maxRecDepth 100000 in
theorem fr_X12_load {p1 : Int32} {p2 : Int32} {p3 : Int32} {m : fm_} {q : Int32 × fm_} (h : f_X12_load p1 p2 p3 m = some q) : sa_ w_X12_load m q.2 :=
  (fq_if h (fun h1 => (fq_rt h1 sa_rf)) (fun h1 => (fq_if h1 (fun h2 => (fq_rt h2 sa_rf)) (fun h2 => (fh_bd h2 fun q3 e4 h5 => (fq_if h5 (fun h6 => (fq_rt h6 (sa_t sa_rf (sa_ui [] rfl (fr_X12_isDay e4))))) (fun h6 => (sa_t (sa_t sa_rf (sa_ui [] rfl (fr_X12_isDay e4))) (fl_X12_load _ _ h6)))))))))
def w_X12_gone : List (Nat × Nat × Nat) := []
def PF_X12_gone (s : S_X12_gone) (q : Int32 × fm_) : Prop := match s with
  | (x1, x2, m) => sa_ w_X12_gone m q.2
theorem fl_X12_gone (s : S_X12_gone) (q : Int32 × fm_) (h : am_lp (st_X12_gone) s = some q) : PF_X12_gone s q :=
  am_lp_snd (P := PF_X12_gone) (fun K hK s q h => match s, h with
    | (x1, x2, m), h => (fr_if h (fun h1 => (fr_rt h1 sa_rf)) (fun h1 => (fj_gd h1 fun g3 h2 => (sa_t sa_rf (hK _ _ h2)))))) s q h
set_option maxRecDepth 100000 in
theorem fr_X12_gone  {m : fm_} {q : Int32 × fm_} (h : f_X12_gone  m = some q) : sa_ w_X12_gone m q.2 :=
  (sa_t sa_rf (fl_X12_gone _ _ h))
def w_X12_around : List (Nat × Nat × Nat) := [(106, 106, 96), (165, 165, 0), (166, 166, 0)]
def PF_X12_around (s : S_X12_around) (q : Int32 × fm_) : Prop := match s with
  | (x1, x2, x3, m) => sa_ w_X12_around m q.2
theorem fl_X12_around (s : S_X12_around) (q : Int32 × fm_) (h : am_lp (st_X12_around) s = some q) : PF_X12_around s q :=
  am_lp_snd (P := PF_X12_around) (fun K hK s q h => match s, h with
    | (x1, x2, x3, m), h => (fr_if h (fun h1 => (fr_rt h1 sa_rf)) (fun h1 => (fj_bd h1 fun q2 e3 h4 => (fj_bd h4 fun q5 e6 h7 => (fr_if h7 (fun h8 => (fj_bd h8 fun q9 e10 h11 => (sa_t (sa_t (sa_t (sa_t sa_rf (sa_ui [0, 1, 2] rfl (fr_X12_go e3))) (sa_ui [] rfl (fr_X12_gone e6))) (sa_ui [0, 1, 2] rfl (fr_X12_go e10))) (hK _ _ h11)))) (fun h8 => (fj_bd h8 fun q12 e13 h14 => (fj_bd h14 fun q15 e16 h17 => (fr_if h17 (fun h18 => (fj_gd h18 fun g20 h19 => (sa_t (sa_t (sa_t (sa_t (sa_t sa_rf (sa_ui [0, 1, 2] rfl (fr_X12_go e3))) (sa_ui [] rfl (fr_X12_gone e6))) (sa_ui [0, 1, 2] rfl (fr_X12_go e13))) (sa_ui [] rfl (fr_X12_gone e16))) (hK _ _ h19)))) (fun h18 => (sa_t (sa_t (sa_t (sa_t (sa_t sa_rf (sa_ui [0, 1, 2] rfl (fr_X12_go e3))) (sa_ui [] rfl (fr_X12_gone e6))) (sa_ui [0, 1, 2] rfl (fr_X12_go e13))) (sa_ui [] rfl (fr_X12_gone e16))) (hK _ _ h18))))))))))))) s q h
set_option maxRecDepth 100000 in
theorem fr_X12_around {p1 : Int32} {m : fm_} {q : Int32 × fm_} (h : f_X12_around p1 m = some q) : sa_ w_X12_around m q.2 :=
  (fh_bd h fun q1 e2 h3 => (fq_if h3 (fun h4 => (fq_rt h4 (sa_t sa_rf (sa_ui [] rfl (fr_X12_isDay e2))))) (fun h4 => (sa_t (sa_t sa_rf (sa_ui [] rfl (fr_X12_isDay e2))) (fl_X12_around _ _ h4)))))
def w_X12_bitsOf : List (Nat × Nat × Nat) := []
def PF_X12_bitsOf (s : S_X12_bitsOf) (q : Int32 × fm_) : Prop := match s with
  | (x0, x1, x2, m) => sa_ w_X12_bitsOf m q.2
theorem fl_X12_bitsOf (s : S_X12_bitsOf) (q : Int32 × fm_) (h : am_lp (st_X12_bitsOf) s = some q) : PF_X12_bitsOf s q :=
  am_lp_snd (P := PF_X12_bitsOf) (fun K hK s q h => match s, h with
    | (x0, x1, x2, m), h => (fr_if h (fun h1 => (fr_rt h1 sa_rf)) (fun h1 => (sa_t sa_rf (hK _ _ h1))))) s q h
set_option maxRecDepth 100000 in
theorem fr_X12_bitsOf {p1 : Int32} {m : fm_} {q : Int32 × fm_} (h : f_X12_bitsOf p1 m = some q) : sa_ w_X12_bitsOf m q.2 :=
  (sa_t sa_rf (fl_X12_bitsOf _ _ h))
def w_X12_look : List (Nat × Nat × Nat) := [(106, 106, 96), (106, 106, 98), (106, 106, 99), (165, 165, 0), (166, 166, 0), (167, 167, 0)]
def PF_X12_look (s : S_X12_look) (q : Int32 × fm_) : Prop := match s with
  | Sum.inl ((x1, x2, x3, m)) => sa_ w_X12_look m q.2
  | Sum.inr (Sum.inl ((x1, x2, x3, m))) => sa_ w_X12_look m q.2
  | Sum.inr (Sum.inr ((x1, x2, x3, x4, x5, m))) => sa_ w_X12_look m q.2
theorem fl_X12_look (s : S_X12_look) (q : Int32 × fm_) (h : am_lp (st_X12_look) s = some q) : PF_X12_look s q :=
  am_lp_snd (P := PF_X12_look) (fun K hK s q h => match s, h with
    | Sum.inl ((x1, x2, x3, m)), h => (fr_if h (fun h1 => (sa_t (sa_si (wi_at 2 rfl (Or.inr rfl)) (sa_si (wi_at 1 rfl (Or.inr rfl)) sa_rf)) (hK _ _ h1))) (fun h1 => (fj_bd h1 fun q2 e3 h4 => (fj_bd h4 fun q5 e6 h7 => (fj_gd h7 fun g9 h8 => (sa_t (sa_si (wi_at 5 rfl (Or.inl rfl)) (sa_t (sa_t sa_rf (sa_ui [0, 3, 4] rfl (fr_X12_go e3))) (sa_ui [] rfl (fr_X12_gone e6)))) (hK _ _ h8)))))))
    | Sum.inr (Sum.inl ((x1, x2, x3, m))), h => (fr_if h (fun h1 => (fr_rt h1 sa_rf)) (fun h1 => (fr_if h1 (fun h2 => (fj_bd h2 fun q3 e4 h5 => (fr_if h5 (fun h6 => (sa_t (sa_t sa_rf (sa_ui [] rfl (fr_X12_bitsOf e4))) (hK _ _ h6))) (fun h6 => (sa_t (sa_t sa_rf (sa_ui [] rfl (fr_X12_bitsOf e4))) (hK _ _ h6)))))) (fun h2 => (sa_t sa_rf (hK _ _ h2))))))
    | Sum.inr (Sum.inr ((x1, x2, x3, x4, x5, m))), h => (fr_if h (fun h1 => (fr_if h1 (fun h2 => (sa_t sa_rf (hK _ _ h2))) (fun h2 => (fr_if h2 (fun h3 => (fj_bd h3 fun q4 e5 h6 => (fj_bd h6 fun q7 e8 h9 => (fr_if h9 (fun h10 => (sa_t (sa_si (wi_at 2 rfl (Or.inr rfl)) (sa_si (wi_at 1 rfl (Or.inr rfl)) (sa_t (sa_t sa_rf (sa_ui [] rfl (fr_X12_bitsOf e5))) (sa_ui [] rfl (fr_X12_bitsOf e8))))) (hK _ _ h10))) (fun h10 => (sa_t (sa_t (sa_t sa_rf (sa_ui [] rfl (fr_X12_bitsOf e5))) (sa_ui [] rfl (fr_X12_bitsOf e8))) (hK _ _ h10))))))) (fun h3 => (sa_t (sa_si (wi_at 2 rfl (Or.inr rfl)) (sa_si (wi_at 1 rfl (Or.inr rfl)) sa_rf)) (hK _ _ h3))))))) (fun h1 => (fj_gd h1 fun g12 h11 => (fr_if h11 (fun h13 => (fj_gd h13 fun g15 h14 => (fr_if h14 (fun h16 => (sa_t sa_rf (hK _ _ h16))) (fun h16 => (fj_gd h16 fun g18 h17 => (sa_t sa_rf (hK _ _ h17))))))) (fun h13 => (sa_t sa_rf (hK _ _ h13)))))))) s q h
set_option maxRecDepth 100000 in
theorem fr_X12_look {p1 : Int32} {p2 : Int32} {m : fm_} {q : Int32 × fm_} (h : f_X12_look p1 p2 m = some q) : sa_ w_X12_look m q.2 :=
  (fh_bd h fun q1 e2 h3 => (fq_if h3 (fun h4 => (fq_rt h4 (sa_t sa_rf (sa_ui [] rfl (fr_X12_isDay e2))))) (fun h4 => (fq_if h4 (fun h5 => (fq_rt h5 (sa_t sa_rf (sa_ui [] rfl (fr_X12_isDay e2))))) (fun h5 => (fq_if h5 (fun h6 => (sa_t (sa_t sa_rf (sa_ui [] rfl (fr_X12_isDay e2))) (fl_X12_look _ _ h6))) (fun h6 => (fq_rt h6 (sa_t sa_rf (sa_ui [] rfl (fr_X12_isDay e2)))))))))))
def w_X12_view : List (Nat × Nat × Nat) := [(106, 106, 96), (106, 106, 98), (106, 106, 99), (165, 165, 0), (166, 166, 0), (167, 167, 0)]
set_option maxRecDepth 100000 in
theorem fr_X12_view {p1 : Int32} {p2 : Int32} {m : fm_} {q : Int32 × fm_} (h : f_X12_view p1 p2 m = some q) : sa_ w_X12_view m q.2 :=
  (fh_bd h fun q1 e2 h3 => (fq_if h3 (fun h4 => (fq_rt h4 (sa_t sa_rf (sa_ui [0, 1, 2, 3, 4, 5] rfl (fr_X12_look e2))))) (fun h4 => (fq_rt h4 (sa_t sa_rf (sa_ui [0, 1, 2, 3, 4, 5] rfl (fr_X12_look e2)))))))
def w_X12_seen : List (Nat × Nat × Nat) := [(106, 106, 96), (106, 106, 98), (106, 106, 99), (165, 165, 0), (166, 166, 0), (167, 167, 0)]
set_option maxRecDepth 100000 in
theorem fr_X12_seen {p1 : Int32} {p2 : Int32} {m : fm_} {q : Int32 × fm_} (h : f_X12_seen p1 p2 m = some q) : sa_ w_X12_seen m q.2 :=
  (fh_bd h fun q1 e2 h3 => (fq_if h3 (fun h4 => (fq_rt h4 (sa_t sa_rf (sa_ui [0, 1, 2, 3, 4, 5] rfl (fr_X12_look e2))))) (fun h4 => (fq_rt h4 (sa_t sa_rf (sa_ui [0, 1, 2, 3, 4, 5] rfl (fr_X12_look e2)))))))
def w_X12_about : List (Nat × Nat × Nat) := []
set_option maxRecDepth 100000 in
theorem fr_X12_about {p1 : Int32} {m : fm_} {q : Int32 × fm_} (h : f_X12_about p1 m = some q) : sa_ w_X12_about m q.2 :=
  (fq_if h (fun h1 => (fq_rt h1 sa_rf)) (fun h1 => (fq_if h1 (fun h2 => (fh_bd h2 fun q3 e4 h5 => (fq_rt h5 (sa_t sa_rf (sa_ui [] rfl (fr_X12_bitsOf e4)))))) (fun h2 => (fq_if h2 (fun h6 => (fq_rt h6 sa_rf)) (fun h6 => (fq_if h6 (fun h7 => (fq_rt h7 sa_rf)) (fun h7 => (fq_if h7 (fun h8 => (fq_rt h8 sa_rf)) (fun h8 => (fq_if h8 (fun h9 => (fq_rt h9 sa_rf)) (fun h9 => (fq_if h9 (fun h10 => (fq_rt h10 sa_rf)) (fun h10 => (fq_if h10 (fun h11 => (fq_rt h11 sa_rf)) (fun h11 => (fq_if h11 (fun h12 => (fq_rt h12 sa_rf)) (fun h12 => (fq_if h12 (fun h13 => (fq_rt h13 sa_rf)) (fun h13 => (fq_rt h13 sa_rf)))))))))))))))))))))
