def w_X12_account : List (Nat × Nat × Nat) := [(106, 106, 78), (106, 106, 79), (136, 136, 0), (137, 137, 0), (151, 151, 0), (152, 152, 0), (153, 153, 0), (154, 154, 0)]
def PF_X12_account (s : S_X12_account) (q : Int32 × fm_) : Prop := match s with
  | Sum.inl ((x1, x2, x3, x4, x5, x6, m)) => sa_ w_X12_account m q.2
  | Sum.inr ((x1, x2, x3, x4, x5, x6, x7, x8, m)) => sa_ w_X12_account m q.2
theorem fl_X12_account (s : S_X12_account) (q : Int32 × fm_) (h : am_lp (st_X12_account) s = some q) : PF_X12_account s q :=
  am_lp_snd (P := PF_X12_account) (fun K hK s q h => match s, h with
    | Sum.inl ((x1, x2, x3, x4, x5, x6, m)), h => (fr_if h (fun h1 => (fr_rt h1 sa_rf)) (fun h1 => (sa_t sa_rf (hK _ _ h1 :))))
    | Sum.inr ((x1, x2, x3, x4, x5, x6, x7, x8, m)), h => (fr_if h (fun h1 => (sa_t sa_rf (hK _ _ h1 :))) (fun h1 => (fj_gd h1 fun g3 h2 => (fr_if h2 (fun h4 => (fj_bd h4 fun q5 e6 h7 => (fr_if h7 (fun h8 => (fr_if h8 (fun h9 => (sa_t (sa_t sa_rf (sa_ui [0, 1, 4, 5, 6, 7] rfl (fr_X12_enteredAt (q := q5) e6))) (hK _ _ h9 :))) (fun h9 => (sa_t (sa_t sa_rf (sa_ui [0, 1, 4, 5, 6, 7] rfl (fr_X12_enteredAt (q := q5) e6))) (hK _ _ h9 :))))) (fun h8 => (fj_bd h8 fun q10 e11 h12 => (fr_if h12 (fun h13 => (sa_t (sa_t (sa_t sa_rf (sa_ui [0, 1, 4, 5, 6, 7] rfl (fr_X12_enteredAt (q := q5) e6))) (sa_ui [2, 3] rfl (fr_X12_chargeOf (q := q10) e11))) (hK _ _ h13 :))) (fun h13 => (sa_t (sa_t (sa_t sa_rf (sa_ui [0, 1, 4, 5, 6, 7] rfl (fr_X12_enteredAt (q := q5) e6))) (sa_ui [2, 3] rfl (fr_X12_chargeOf (q := q10) e11))) (hK _ _ h13 :))))))))) (fun h4 => (sa_t sa_rf (hK _ _ h4 :)))))))) s q h
set_option maxRecDepth 100000 in
theorem fr_X12_account {p1 : Int32} {p2 : Int32} {p3 : Int32} {p4 : Int32} {m : fm_} {q : Int32 × fm_} (h : f_X12_account p1 p2 p3 p4 m = some q) : sa_ w_X12_account m q.2 :=
  (fh_bd h fun q1 e2 h3 => (fq_if h3 (fun h4 => (fq_rt h4 (sa_t sa_rf (sa_ui [] rfl (fr_X12_isSmall (q := q1) e2))))) (fun h4 => (fh_bd h4 fun q5 e6 h7 => (fq_if h7 (fun h8 => (fq_rt h8 (sa_t (sa_t sa_rf (sa_ui [] rfl (fr_X12_isSmall (q := q1) e2))) (sa_ui [] rfl (fr_X12_isDay (q := q5) e6))))) (fun h8 => (fh_bd h8 fun q9 e10 h11 => (fq_if h11 (fun h12 => (fq_rt h12 (sa_t (sa_t (sa_t sa_rf (sa_ui [] rfl (fr_X12_isSmall (q := q1) e2))) (sa_ui [] rfl (fr_X12_isDay (q := q5) e6))) (sa_ui [] rfl (fr_X12_isDay (q := q9) e10))))) (fun h12 => (fq_if h12 (fun h13 => (sa_t (sa_t (sa_t (sa_t sa_rf (sa_ui [] rfl (fr_X12_isSmall (q := q1) e2))) (sa_ui [] rfl (fr_X12_isDay (q := q5) e6))) (sa_ui [] rfl (fr_X12_isDay (q := q9) e10))) (fl_X12_account _ _ h13 :))) (fun h13 => (fq_rt h13 (sa_t (sa_t (sa_t sa_rf (sa_ui [] rfl (fr_X12_isSmall (q := q1) e2))) (sa_ui [] rfl (fr_X12_isDay (q := q5) e6))) (sa_ui [] rfl (fr_X12_isDay (q := q9) e10)))))))))))))))
def w_X12_back : List (Nat × Nat × Nat) := [(106, 106, 78), (106, 106, 79), (136, 136, 0), (137, 137, 0), (151, 151, 0), (152, 152, 0), (153, 153, 0), (154, 154, 0)]
set_option maxRecDepth 100000 in
theorem fr_X12_back {p1 : Int32} {p2 : Int32} {p3 : Int32} {p4 : Int32} {p5 : Int32} {m : fm_} {q : Int32 × fm_} (h : f_X12_back p1 p2 p3 p4 p5 m = some q) : sa_ w_X12_back m q.2 :=
  (fh_bd h fun q1 e2 h3 => (fq_if h3 (fun h4 => (fq_rt h4 (sa_t sa_rf (sa_ui [] rfl (fr_X12_isSmall (q := q1) e2))))) (fun h4 => (fh_bd h4 fun q5 e6 h7 => (fq_if h7 (fun h8 => (fq_rt h8 (sa_t (sa_t sa_rf (sa_ui [] rfl (fr_X12_isSmall (q := q1) e2))) (sa_ui [] rfl (fr_X12_isDay (q := q5) e6))))) (fun h8 => (fh_bd h8 fun q9 e10 h11 => (fq_if h11 (fun h12 => (fq_rt h12 (sa_t (sa_t (sa_t sa_rf (sa_ui [] rfl (fr_X12_isSmall (q := q1) e2))) (sa_ui [] rfl (fr_X12_isDay (q := q5) e6))) (sa_ui [] rfl (fr_X12_isDay (q := q9) e10))))) (fun h12 => (fq_if h12 (fun h13 => (fh_bd h13 fun q14 e15 h16 => (fh_bd h16 fun q17 e18 h19 => (fq_rt h19 (sa_t (sa_t (sa_t (sa_t (sa_t sa_rf (sa_ui [] rfl (fr_X12_isSmall (q := q1) e2))) (sa_ui [] rfl (fr_X12_isDay (q := q5) e6))) (sa_ui [] rfl (fr_X12_isDay (q := q9) e10))) (sa_ui [0, 1, 2, 3, 4, 5, 6, 7] rfl (fr_X12_account (q := q14) e15))) (sa_ui [0, 1, 2, 3, 4, 5, 6, 7] rfl (fr_X12_account (q := q17) e18))))))) (fun h13 => (fq_rt h13 (sa_t (sa_t (sa_t sa_rf (sa_ui [] rfl (fr_X12_isSmall (q := q1) e2))) (sa_ui [] rfl (fr_X12_isDay (q := q5) e6))) (sa_ui [] rfl (fr_X12_isDay (q := q9) e10)))))))))))))))
def w_X12_air : List (Nat × Nat × Nat) := [(106, 106, 82), (156, 156, 0), (157, 157, 0), (159, 159, 0)]
set_option maxRecDepth 100000 in
theorem fr_X12_air {p1 : Int32} {p2 : Int32} {p3 : Int32} {p4 : Int32} {m : fm_} {q : Int32 × fm_} (h : f_X12_air p1 p2 p3 p4 m = some q) : sa_ w_X12_air m q.2 :=
  (fq_if h (fun h1 => (fq_rt h1 sa_rf)) (fun h1 => (fq_if h1 (fun h2 => (fq_rt h2 sa_rf)) (fun h2 => (fq_if h2 (fun h3 => (fq_rt h3 sa_rf)) (fun h3 => (fh_bd h3 fun q4 e5 h6 => (fq_if h6 (fun h7 => (fq_rt h7 (sa_t sa_rf (sa_ui [] rfl (fr_X12_isDay (q := q4) e5))))) (fun h7 => (fq_if h7 (fun h8 => (fq_rt h8 (sa_t sa_rf (sa_ui [] rfl (fr_X12_isDay (q := q4) e5))))) (fun h8 => (fq_if h8 (fun h9 => (fq_rt h9 (sa_t sa_rf (sa_ui [] rfl (fr_X12_isDay (q := q4) e5))))) (fun h9 => (fq_if h9 (fun h10 => (fq_rt h10 (sa_t sa_rf (sa_ui [] rfl (fr_X12_isDay (q := q4) e5))))) (fun h10 => (fq_if h10 (fun h11 => (fq_rt h11 (sa_t sa_rf (sa_ui [] rfl (fr_X12_isDay (q := q4) e5))))) (fun h11 => (fh_gd h11 fun g13 h12 => (fq_if h12 (fun h14 => (fh_gd h14 fun g16 h15 => (fh_gd h15 fun g18 h17 => (fh_gd h17 fun g20 h19 => (fq_rt h19 (sa_si (wi_at 0 rfl (Or.inr rfl)) (sa_si (wi_at 2 rfl (Or.inl rfl)) (sa_si (wi_at 1 rfl (Or.inl rfl)) (sa_si (wi_at 3 rfl (Or.inl rfl)) (sa_t sa_rf (sa_ui [] rfl (fr_X12_isDay (q := q4) e5)))))))))))) (fun h14 => (fq_rt h14 (sa_t sa_rf (sa_ui [] rfl (fr_X12_isDay (q := q4) e5))))))))))))))))))))))))
def w_X12_isPair : List (Nat × Nat × Nat) := []
set_option maxRecDepth 100000 in
theorem fr_X12_isPair {p1 : Int32} {p2 : Int32} {m : fm_} {q : Int32 × fm_} (h : f_X12_isPair p1 p2 m = some q) : sa_ w_X12_isPair m q.2 :=
  (fh_gd h fun g2 h1 => (fq_if h1 (fun h3 => (fq_rt h3 sa_rf)) (fun h3 => (fh_gd h3 fun g5 h4 => (fq_if h4 (fun h6 => (fq_rt h6 sa_rf)) (fun h6 => (fh_gd h6 fun g8 h7 => (fq_if h7 (fun h9 => (fh_gd h9 fun g11 h10 => (fq_if h10 (fun h12 => (fq_rt h12 sa_rf)) (fun h12 => (fq_rt h12 sa_rf))))) (fun h9 => (fq_rt h9 sa_rf))))))))))
def w_X12_nextPair : List (Nat × Nat × Nat) := []
def PF_X12_nextPair (s : S_X12_nextPair) (q : Int32 × fm_) : Prop := match s with
  | (x1, x2, x3, x4, m) => sa_ w_X12_nextPair m q.2
theorem fl_X12_nextPair (s : S_X12_nextPair) (q : Int32 × fm_) (h : am_lp (st_X12_nextPair) s = some q) : PF_X12_nextPair s q :=
  am_lp_snd (P := PF_X12_nextPair) (fun K hK s q h => match s, h with
    | (x1, x2, x3, x4, m), h => (fr_if h (fun h1 => (fr_rt h1 sa_rf)) (fun h1 => (fj_bd h1 fun q2 e3 h4 => (fr_if h4 (fun h5 => (sa_t (sa_t sa_rf (sa_ui [] rfl (fr_X12_isPair (q := q2) e3))) (hK _ _ h5 :))) (fun h5 => (fr_rt h5 (sa_t sa_rf (sa_ui [] rfl (fr_X12_isPair (q := q2) e3)))))))))) s q h
set_option maxRecDepth 100000 in
theorem fr_X12_nextPair {p1 : Int32} {p2 : Int32} {p3 : Int32} {m : fm_} {q : Int32 × fm_} (h : f_X12_nextPair p1 p2 p3 m = some q) : sa_ w_X12_nextPair m q.2 :=
  (sa_t sa_rf (fl_X12_nextPair _ _ h :))
def w_X12_join : List (Nat × Nat × Nat) := [(106, 106, 87), (158, 158, 0)]
def PF_X12_join (s : S_X12_join) (q : Int32 × fm_) : Prop := match s with
  | Sum.inl ((x1, x2, m)) => sa_ w_X12_join m q.2
  | Sum.inr ((x1, x2, x3, x4, m)) => sa_ w_X12_join m q.2
theorem fl_X12_join (s : S_X12_join) (q : Int32 × fm_) (h : am_lp (st_X12_join) s = some q) : PF_X12_join s q :=
  am_lp_snd (P := PF_X12_join) (fun K hK s q h => match s, h with
    | Sum.inl ((x1, x2, m)), h => (fr_if h (fun h1 => (fr_rt h1 sa_rf)) (fun h1 => (fj_bd h1 fun q2 e3 h4 => (fj_bd h4 fun q5 e6 h7 => (sa_t (sa_t (sa_t sa_rf (sa_ui [] rfl (fr_X12_nextPair (q := q2) e3))) (sa_ui [] rfl (fr_X12_nextPair (q := q5) e6))) (hK _ _ h7 :))))))
    | Sum.inr ((x1, x2, x3, x4, m)), h => (fr_if h (fun h1 => (sa_t sa_rf (hK _ _ h1 :))) (fun h1 => (fr_if h1 (fun h2 => (sa_t sa_rf (hK _ _ h2 :))) (fun h2 => (fr_if h2 (fun h3 => (sa_t sa_rf (hK _ _ h3 :))) (fun h3 => (fj_gd h3 fun g5 h4 => (fj_gd h4 fun g7 h6 => (fj_gd h6 fun g9 h8 => (fj_gd h8 fun g11 h10 => (fj_gd h10 fun g13 h12 => (fj_bd h12 fun q14 e15 h16 => (fj_bd h16 fun q17 e18 h19 => (sa_t (sa_t (sa_t (sa_si (wi_at 0 rfl (Or.inr rfl)) (sa_si (wi_at 1 rfl (Or.inl rfl)) sa_rf)) (sa_ui [] rfl (fr_X12_nextPair (q := q14) e15))) (sa_ui [] rfl (fr_X12_nextPair (q := q17) e18))) (hK _ _ h19 :)))))))))))))))) s q h
set_option maxRecDepth 100000 in
theorem fr_X12_join {p1 : Int32} {m : fm_} {q : Int32 × fm_} (h : f_X12_join p1 m = some q) : sa_ w_X12_join m q.2 :=
  (sa_t (sa_si (wi_at 0 rfl (Or.inr rfl)) sa_rf) (fl_X12_join _ _ h :))
def w_X12_sum : List (Nat × Nat × Nat) := []
def PF_X12_sum (s : S_X12_sum) (q : Int32 × fm_) : Prop := match s with
  | (x1, x2, x3, m) => sa_ w_X12_sum m q.2
theorem fl_X12_sum (s : S_X12_sum) (q : Int32 × fm_) (h : am_lp (st_X12_sum) s = some q) : PF_X12_sum s q :=
  am_lp_snd (P := PF_X12_sum) (fun K hK s q h => match s, h with
    | (x1, x2, x3, m), h => (fr_if h (fun h1 => (fr_rt h1 sa_rf)) (fun h1 => (fr_if h1 (fun h2 => (fj_gd h2 fun g6 h5 => (sa_t sa_rf (hK _ _ h5 :)))) (fun h2 => (fj_gd h2 fun g4 h3 => (sa_t sa_rf (hK _ _ h3 :)))))))) s q h
set_option maxRecDepth 100000 in
theorem fr_X12_sum {p1 : Int32} {m : fm_} {q : Int32 × fm_} (h : f_X12_sum p1 m = some q) : sa_ w_X12_sum m q.2 :=
  (sa_t sa_rf (fl_X12_sum _ _ h :))
def w_X12_effect : List (Nat × Nat × Nat) := [(106, 106, 87), (158, 158, 0)]
set_option maxRecDepth 100000 in
theorem fr_X12_effect {p1 : Int32} {m : fm_} {q : Int32 × fm_} (h : f_X12_effect p1 m = some q) : sa_ w_X12_effect m q.2 :=
  (fh_bd h fun q1 e2 h3 => (fq_if h3 (fun h4 => (fq_rt h4 (sa_t sa_rf (sa_ui [] rfl (fr_X12_isDay (q := q1) e2))))) (fun h4 => (fh_bd h4 fun q5 e6 h7 => (fh_bd h7 fun q8 e9 h10 => (fq_rt h10 (sa_t (sa_t (sa_t sa_rf (sa_ui [] rfl (fr_X12_isDay (q := q1) e2))) (sa_ui [0, 1] rfl (fr_X12_join (q := q5) e6))) (sa_ui [] rfl (fr_X12_sum (q := q8) e9)))))))))
def w_X12_doubtOf : List (Nat × Nat × Nat) := [(106, 106, 87), (158, 158, 0)]
def PF_X12_doubtOf (s : S_X12_doubtOf) (q : Int32 × fm_) : Prop := match s with
  | (x1, x2, x3, x4, x5, m) => sa_ w_X12_doubtOf m q.2
theorem fl_X12_doubtOf (s : S_X12_doubtOf) (q : Int32 × fm_) (h : am_lp (st_X12_doubtOf) s = some q) : PF_X12_doubtOf s q :=
  am_lp_snd (P := PF_X12_doubtOf) (fun K hK s q h => match s, h with
    | (x1, x2, x3, x4, x5, m), h => (fr_if h (fun h1 => (fr_if h1 (fun h2 => (fr_rt h2 sa_rf)) (fun h2 => (fr_rt h2 sa_rf)))) (fun h1 => (fj_bd h1 fun q3 e4 h5 => (fr_if h5 (fun h6 => (sa_t (sa_t sa_rf (sa_ui [] rfl (fr_X12_sum (q := q3) e4))) (hK _ _ h6 :))) (fun h6 => (fj_bd h6 fun q7 e8 h9 => (fr_if h9 (fun h10 => (sa_t (sa_t (sa_t sa_rf (sa_ui [] rfl (fr_X12_sum (q := q3) e4))) (sa_ui [] rfl (fr_X12_sum (q := q7) e8))) (hK _ _ h10 :))) (fun h10 => (sa_t (sa_t (sa_t sa_rf (sa_ui [] rfl (fr_X12_sum (q := q3) e4))) (sa_ui [] rfl (fr_X12_sum (q := q7) e8))) (hK _ _ h10 :))))))))))) s q h
set_option maxRecDepth 100000 in
theorem fr_X12_doubtOf {p1 : Int32} {p2 : Int32} {m : fm_} {q : Int32 × fm_} (h : f_X12_doubtOf p1 p2 m = some q) : sa_ w_X12_doubtOf m q.2 :=
  (fh_bd h fun q1 e2 h3 => (fq_if h3 (fun h4 => (fq_rt h4 (sa_t sa_rf (sa_ui [] rfl (fr_X12_isDay (q := q1) e2))))) (fun h4 => (fq_if h4 (fun h5 => (fq_rt h5 (sa_t sa_rf (sa_ui [] rfl (fr_X12_isDay (q := q1) e2))))) (fun h5 => (fq_if h5 (fun h6 => (fh_bd h6 fun q7 e8 h9 => (fh_bd h9 fun q10 e11 h12 => (fq_if h12 (fun h13 => (fh_bd h13 fun q14 e15 h16 => (sa_t (sa_t (sa_t (sa_t (sa_t sa_rf (sa_ui [] rfl (fr_X12_isDay (q := q1) e2))) (sa_ui [0, 1] rfl (fr_X12_join (q := q7) e8))) (sa_ui [] rfl (fr_X12_sum (q := q10) e11))) (sa_ui [] rfl (fr_X12_sum (q := q14) e15))) (fl_X12_doubtOf _ _ h16 :)))) (fun h13 => (fh_bd h13 fun q17 e18 h19 => (sa_t (sa_t (sa_t (sa_t (sa_t sa_rf (sa_ui [] rfl (fr_X12_isDay (q := q1) e2))) (sa_ui [0, 1] rfl (fr_X12_join (q := q7) e8))) (sa_ui [] rfl (fr_X12_sum (q := q10) e11))) (sa_ui [] rfl (fr_X12_sum (q := q17) e18))) (fl_X12_doubtOf _ _ h19 :)))))))) (fun h6 => (fq_rt h6 (sa_t sa_rf (sa_ui [] rfl (fr_X12_isDay (q := q1) e2)))))))))))
def w_X12_trip : List (Nat × Nat × Nat) := [(106, 106, 88), (160, 160, 0), (161, 161, 0), (162, 162, 0), (163, 163, 0), (164, 164, 0)]
set_option maxRecDepth 100000 in
theorem fr_X12_trip {p1 : Int32} {p2 : Int32} {p3 : Int32} {p4 : Int32} {p5 : Int32} {m : fm_} {q : Int32 × fm_} (h : f_X12_trip p1 p2 p3 p4 p5 m = some q) : sa_ w_X12_trip m q.2 :=
  (fq_if h (fun h1 => (fq_rt h1 sa_rf)) (fun h1 => (fh_bd h1 fun q2 e3 h4 => (fq_if h4 (fun h5 => (fq_rt h5 (sa_t sa_rf (sa_ui [] rfl (fr_X12_isPoint (q := q2) e3))))) (fun h5 => (fh_bd h5 fun q6 e7 h8 => (fq_if h8 (fun h9 => (fq_rt h9 (sa_t (sa_t sa_rf (sa_ui [] rfl (fr_X12_isPoint (q := q2) e3))) (sa_ui [] rfl (fr_X12_isPoint (q := q6) e7))))) (fun h9 => (fq_if h9 (fun h10 => (fq_rt h10 (sa_t (sa_t sa_rf (sa_ui [] rfl (fr_X12_isPoint (q := q2) e3))) (sa_ui [] rfl (fr_X12_isPoint (q := q6) e7))))) (fun h10 => (fh_gd h10 fun g12 h11 => (fq_if h11 (fun h13 => (fq_rt h13 (sa_t (sa_t sa_rf (sa_ui [] rfl (fr_X12_isPoint (q := q2) e3))) (sa_ui [] rfl (fr_X12_isPoint (q := q6) e7))))) (fun h13 => (fq_if h13 (fun h14 => (fq_rt h14 (sa_t (sa_t sa_rf (sa_ui [] rfl (fr_X12_isPoint (q := q2) e3))) (sa_ui [] rfl (fr_X12_isPoint (q := q6) e7))))) (fun h14 => (fq_if h14 (fun h15 => (fq_rt h15 (sa_t (sa_t sa_rf (sa_ui [] rfl (fr_X12_isPoint (q := q2) e3))) (sa_ui [] rfl (fr_X12_isPoint (q := q6) e7))))) (fun h15 => (fq_if h15 (fun h16 => (fq_rt h16 (sa_t (sa_t sa_rf (sa_ui [] rfl (fr_X12_isPoint (q := q2) e3))) (sa_ui [] rfl (fr_X12_isPoint (q := q6) e7))))) (fun h16 => (fq_if h16 (fun h17 => (fq_rt h17 (sa_t (sa_t sa_rf (sa_ui [] rfl (fr_X12_isPoint (q := q2) e3))) (sa_ui [] rfl (fr_X12_isPoint (q := q6) e7))))) (fun h17 => (fh_bd h17 fun q18 e19 h20 => (fq_if h20 (fun h21 => (fq_rt h21 (sa_t (sa_t (sa_t sa_rf (sa_ui [] rfl (fr_X12_isPoint (q := q2) e3))) (sa_ui [] rfl (fr_X12_isPoint (q := q6) e7))) (sa_ui [] rfl (fr_X12_isSmall (q := q18) e19))))) (fun h21 => (fh_gd h21 fun g23 h22 => (fh_gd h22 fun g25 h24 => (fh_gd h24 fun g27 h26 => (fh_gd h26 fun g29 h28 => (fh_gd h28 fun g31 h30 => (fq_rt h30 (sa_si (wi_at 0 rfl (Or.inr rfl)) (sa_si (wi_at 5 rfl (Or.inl rfl)) (sa_si (wi_at 4 rfl (Or.inl rfl)) (sa_si (wi_at 3 rfl (Or.inl rfl)) (sa_si (wi_at 2 rfl (Or.inl rfl)) (sa_si (wi_at 1 rfl (Or.inl rfl)) (sa_t (sa_t (sa_t sa_rf (sa_ui [] rfl (fr_X12_isPoint (q := q2) e3))) (sa_ui [] rfl (fr_X12_isPoint (q := q6) e7))) (sa_ui [] rfl (fr_X12_isSmall (q := q18) e19)))))))))))))))))))))))))))))))))))))))
def w_X12_onBy : List (Nat × Nat × Nat) := []
set_option maxRecDepth 100000 in
theorem fr_X12_onBy {p1 : Int32} {p2 : Int32} {p3 : Int32} {p4 : Int32} {p5 : Int32} {m : fm_} {q : Int32 × fm_} (h : f_X12_onBy p1 p2 p3 p4 p5 m = some q) : sa_ w_X12_onBy m q.2 :=
  (fh_gd h fun g2 h1 => (fq_if h1 (fun h3 => (fq_if h3 (fun h4 => (fh_bd h4 fun q12 e13 h14 => (fq_if h14 (fun h15 => (fh_gd h15 fun g17 h16 => (fq_if h16 (fun h18 => (fh_gd h18 fun g20 h19 => (fh_gd h19 fun g22 h21 => (fq_rt h21 (sa_t sa_rf (sa_ui [] rfl (fr_X12_isInZone (q := q12) e13))))))) (fun h18 => (fq_rt h18 (sa_t sa_rf (sa_ui [] rfl (fr_X12_isInZone (q := q12) e13)))))))) (fun h15 => (fh_gd h15 fun g24 h23 => (fq_if h23 (fun h25 => (fh_gd h25 fun g27 h26 => (fh_gd h26 fun g29 h28 => (fq_rt h28 (sa_t sa_rf (sa_ui [] rfl (fr_X12_isInZone (q := q12) e13))))))) (fun h25 => (fq_rt h25 (sa_t sa_rf (sa_ui [] rfl (fr_X12_isInZone (q := q12) e13))))))))))) (fun h4 => (fh_gd h4 fun g6 h5 => (fq_if h5 (fun h7 => (fh_gd h7 fun g9 h8 => (fh_gd h8 fun g11 h10 => (fq_rt h10 sa_rf)))) (fun h7 => (fq_rt h7 sa_rf))))))) (fun h3 => (fq_rt h3 sa_rf))))
def w_X12_travel : List (Nat × Nat × Nat) := [(106, 106, 96), (165, 165, 0), (166, 166, 0)]
def PF_X12_travel (s : S_X12_travel) (q : Int32 × fm_) : Prop := match s with
  | Sum.inl ((x1, x2, x3, m)) => sa_ w_X12_travel m q.2
  | Sum.inr (Sum.inl ((x1, x2, x3, m))) => sa_ w_X12_travel m q.2
  | Sum.inr (Sum.inr (Sum.inl ((x1, x2, x3, x4, m)))) => sa_ w_X12_travel m q.2
  | Sum.inr (Sum.inr (Sum.inr (Sum.inl ((x1, x2, x3, x4, x5, m))))) => sa_ w_X12_travel m q.2
  | Sum.inr (Sum.inr (Sum.inr (Sum.inr (Sum.inl ((x1, x2, x3, x4, x5, m)))))) => sa_ w_X12_travel m q.2
  | Sum.inr (Sum.inr (Sum.inr (Sum.inr (Sum.inr ((x1, x2, x3, x4, x5, x6, m)))))) => sa_ w_X12_travel m q.2
theorem fl_X12_travel (s : S_X12_travel) (q : Int32 × fm_) (h : am_lp (st_X12_travel) s = some q) : PF_X12_travel s q :=
  am_lp_snd (P := PF_X12_travel) (fun K hK s q h => match s, h with
    | Sum.inl ((x1, x2, x3, m)), h => (fr_if h (fun h1 => (sa_t sa_rf (hK _ _ h1 :))) (fun h1 => (fj_gd h1 fun g3 h2 => (fr_if h2 (fun h4 => (fj_gd h4 fun g8 h7 => (sa_t (sa_si (wi_at 1 rfl (Or.inl rfl)) sa_rf) (hK _ _ h7 :)))) (fun h4 => (fj_gd h4 fun g6 h5 => (sa_t (sa_si (wi_at 1 rfl (Or.inl rfl)) sa_rf) (hK _ _ h5 :))))))))
    | Sum.inr (Sum.inl ((x1, x2, x3, m))), h => (fr_if h (fun h1 => (fj_gd h1 fun g3 h2 => (fj_bd h2 fun q4 e5 h6 => (fr_if h6 (fun h7 => (fj_gd h7 fun g9 h8 => (sa_t (sa_si (wi_at 0 rfl (Or.inr rfl)) (sa_si (wi_at 2 rfl (Or.inl rfl)) (sa_t sa_rf (sa_ui [] rfl (fr_X12_isInZone (q := q4) e5))))) (hK _ _ h8 :)))) (fun h7 => (fj_gd h7 fun g11 h10 => (sa_t (sa_si (wi_at 0 rfl (Or.inr rfl)) (sa_si (wi_at 2 rfl (Or.inl rfl)) (sa_t sa_rf (sa_ui [] rfl (fr_X12_isInZone (q := q4) e5))))) (hK _ _ h10 :)))))))) (fun h1 => (sa_t sa_rf (hK _ _ h1 :))))
    | Sum.inr (Sum.inr (Sum.inl ((x1, x2, x3, x4, m)))), h => (fr_if h (fun h1 => (sa_t sa_rf (hK _ _ h1 :))) (fun h1 => (sa_t sa_rf (hK _ _ h1 :))))
    | Sum.inr (Sum.inr (Sum.inr (Sum.inl ((x1, x2, x3, x4, x5, m))))), h => (fr_if h (fun h1 => (sa_t sa_rf (hK _ _ h1 :))) (fun h1 => (fj_bd h1 fun q2 e3 h4 => (fj_gd h4 fun g6 h5 => (fr_if h5 (fun h7 => (fj_gd h7 fun g9 h8 => (sa_t (sa_si (wi_at 1 rfl (Or.inl rfl)) (sa_t sa_rf (sa_ui [] rfl (fr_X12_onBy (q := q2) e3)))) (hK _ _ h8 :)))) (fun h7 => (sa_t (sa_t sa_rf (sa_ui [] rfl (fr_X12_onBy (q := q2) e3))) (hK _ _ h7 :))))))))
    | Sum.inr (Sum.inr (Sum.inr (Sum.inr (Sum.inl ((x1, x2, x3, x4, x5, m)))))), h => (fj_gd h fun g2 h1 => (fr_if h1 (fun h3 => (fr_rt h3 sa_rf)) (fun h3 => (sa_t sa_rf (hK _ _ h3 :)))))
    | Sum.inr (Sum.inr (Sum.inr (Sum.inr (Sum.inr ((x1, x2, x3, x4, x5, x6, m)))))), h => (fj_bd h fun q1 e2 h3 => (fj_gd h3 fun g5 h4 => (fr_if h4 (fun h6 => (fj_bd h6 fun q7 e8 h9 => (fr_if h9 (fun h10 => (fj_gd h10 fun g12 h11 => (sa_t (sa_si (wi_at 0 rfl (Or.inr rfl)) (sa_si (wi_at 2 rfl (Or.inl rfl)) (sa_t (sa_t sa_rf (sa_ui [] rfl (fr_X12_onBy (q := q1) e2))) (sa_ui [] rfl (fr_X12_isInZone (q := q7) e8))))) (hK _ _ h11 :)))) (fun h10 => (fj_gd h10 fun g14 h13 => (sa_t (sa_si (wi_at 0 rfl (Or.inr rfl)) (sa_si (wi_at 2 rfl (Or.inl rfl)) (sa_t (sa_t sa_rf (sa_ui [] rfl (fr_X12_onBy (q := q1) e2))) (sa_ui [] rfl (fr_X12_isInZone (q := q7) e8))))) (hK _ _ h13 :))))))) (fun h6 => (sa_t (sa_t sa_rf (sa_ui [] rfl (fr_X12_onBy (q := q1) e2))) (hK _ _ h6 :))))))) s q h
set_option maxRecDepth 100000 in
theorem fr_X12_travel {p1 : Int32} {p2 : Int32} {m : fm_} {q : Int32 × fm_} (h : f_X12_travel p1 p2 m = some q) : sa_ w_X12_travel m q.2 :=
  (sa_t sa_rf (fl_X12_travel _ _ h :))
def w_X12_go : List (Nat × Nat × Nat) := [(106, 106, 96), (165, 165, 0), (166, 166, 0)]
set_option maxRecDepth 100000 in
theorem fr_X12_go {p1 : Int32} {p2 : Int32} {p3 : Int32} {m : fm_} {q : Int32 × fm_} (h : f_X12_go p1 p2 p3 m = some q) : sa_ w_X12_go m q.2 :=
  (fq_if h (fun h1 => (fq_rt h1 sa_rf)) (fun h1 => (fq_if h1 (fun h2 => (fq_rt h2 sa_rf)) (fun h2 => (fh_bd h2 fun q3 e4 h5 => (fq_if h5 (fun h6 => (fq_rt h6 (sa_t sa_rf (sa_ui [] rfl (fr_X12_isDay (q := q3) e4))))) (fun h6 => (fh_bd h6 fun q7 e8 h9 => (fq_if h9 (fun h10 => (fh_bd h10 fun q11 e12 h13 => (fq_rt h13 (sa_t (sa_t (sa_t sa_rf (sa_ui [] rfl (fr_X12_isDay (q := q3) e4))) (sa_ui [] rfl (fr_X12_inForce (q := q7) e8))) (sa_ui [0, 1, 2] rfl (fr_X12_travel (q := q11) e12)))))) (fun h10 => (fq_if h10 (fun h14 => (fh_gd h14 fun g16 h15 => (fh_gd h15 fun g18 h17 => (fh_bd h17 fun q19 e20 h21 => (fq_rt h21 (sa_t (sa_t (sa_t sa_rf (sa_ui [] rfl (fr_X12_isDay (q := q3) e4))) (sa_ui [] rfl (fr_X12_inForce (q := q7) e8))) (sa_ui [0, 1, 2] rfl (fr_X12_travel (q := q19) e20)))))))) (fun h14 => (fh_bd h14 fun q22 e23 h24 => (fq_rt h24 (sa_t (sa_t (sa_t sa_rf (sa_ui [] rfl (fr_X12_isDay (q := q3) e4))) (sa_ui [] rfl (fr_X12_inForce (q := q7) e8))) (sa_ui [0, 1, 2] rfl (fr_X12_travel (q := q22) e23)))))))))))))))))
def w_X12_minutes : List (Nat × Nat × Nat) := [(106, 106, 96), (165, 165, 0), (166, 166, 0)]
def PF_X12_minutes (s : S_X12_minutes) (q : Int32 × fm_) : Prop := match s with
  | (x1, x2, x3, x4, x5, m) => sa_ w_X12_minutes m q.2
theorem fl_X12_minutes (s : S_X12_minutes) (q : Int32 × fm_) (h : am_lp (st_X12_minutes) s = some q) : PF_X12_minutes s q :=
  am_lp_snd (P := PF_X12_minutes) (fun K hK s q h => match s, h with
    | (x1, x2, x3, x4, x5, m), h => (fr_if h (fun h1 => (fr_rt h1 sa_rf)) (fun h1 => (fj_gd h1 fun g3 h2 => (fj_gd h2 fun g5 h4 => (fj_gd h4 fun g7 h6 => (sa_t sa_rf (hK _ _ h6 :)))))))) s q h
set_option maxRecDepth 100000 in
theorem fr_X12_minutes {p1 : Int32} {p2 : Int32} {p3 : Int32} {m : fm_} {q : Int32 × fm_} (h : f_X12_minutes p1 p2 p3 m = some q) : sa_ w_X12_minutes m q.2 :=
  (fh_bd h fun q1 e2 h3 => (fq_if h3 (fun h4 => (fq_rt h4 (sa_t sa_rf (sa_ui [0, 1, 2] rfl (fr_X12_go (q := q1) e2))))) (fun h4 => (sa_t (sa_t sa_rf (sa_ui [0, 1, 2] rfl (fr_X12_go (q := q1) e2))) (fl_X12_minutes _ _ h4 :)))))
def w_X12_via : List (Nat × Nat × Nat) := [(106, 106, 96), (165, 165, 0), (166, 166, 0)]
set_option maxRecDepth 100000 in
theorem fr_X12_via {p1 : Int32} {p2 : Int32} {p3 : Int32} {p4 : Int32} {m : fm_} {q : Int32 × fm_} (h : f_X12_via p1 p2 p3 p4 m = some q) : sa_ w_X12_via m q.2 :=
  (fh_bd h fun q1 e2 h3 => (fq_if h3 (fun h4 => (fq_rt h4 (sa_t sa_rf (sa_ui [0, 1, 2] rfl (fr_X12_go (q := q1) e2))))) (fun h4 => (fq_if h4 (fun h5 => (fq_rt h5 (sa_t sa_rf (sa_ui [0, 1, 2] rfl (fr_X12_go (q := q1) e2))))) (fun h5 => (fq_if h5 (fun h6 => (fq_rt h6 (sa_t sa_rf (sa_ui [0, 1, 2] rfl (fr_X12_go (q := q1) e2))))) (fun h6 => (fh_gd h6 fun g8 h7 => (fq_rt h7 (sa_t sa_rf (sa_ui [0, 1, 2] rfl (fr_X12_go (q := q1) e2))))))))))))
def w_X12_wayOf : List (Nat × Nat × Nat) := []
def PF_X12_wayOf (s : S_X12_wayOf) (q : Int32 × fm_) : Prop := match s with
  | (x1, x2, x3, m) => sa_ w_X12_wayOf m q.2
theorem fl_X12_wayOf (s : S_X12_wayOf) (q : Int32 × fm_) (h : am_lp (st_X12_wayOf) s = some q) : PF_X12_wayOf s q :=
  am_lp_snd (P := PF_X12_wayOf) (fun K hK s q h => match s, h with
    | (x1, x2, x3, m), h => (fj_gd h fun g2 h1 => (fj_gd h1 fun g4 h3 => (fr_if h3 (fun h5 => (fj_gd h5 fun g7 h6 => (fr_if h6 (fun h8 => (fj_gd h8 fun g16 h15 => (fr_if h15 (fun h17 => (fr_rt h17 sa_rf)) (fun h17 => (fj_gd h17 fun g19 h18 => (fr_if h18 (fun h20 => (fj_gd h20 fun g22 h21 => (fr_if h21 (fun h23 => (fr_rt h23 sa_rf)) (fun h23 => (sa_t sa_rf (hK _ _ h23 :)))))) (fun h20 => (sa_t sa_rf (hK _ _ h20 :))))))))) (fun h8 => (fj_gd h8 fun g10 h9 => (fr_if h9 (fun h11 => (fj_gd h11 fun g13 h12 => (fr_if h12 (fun h14 => (fr_rt h14 sa_rf)) (fun h14 => (sa_t sa_rf (hK _ _ h14 :)))))) (fun h11 => (sa_t sa_rf (hK _ _ h11 :))))))))) (fun h5 => (sa_t sa_rf (hK _ _ h5 :))))))) s q h
set_option maxRecDepth 100000 in
theorem fr_X12_wayOf {p1 : Int32} {p2 : Int32} {m : fm_} {q : Int32 × fm_} (h : f_X12_wayOf p1 p2 m = some q) : sa_ w_X12_wayOf m q.2 :=
  (sa_t sa_rf (fl_X12_wayOf _ _ h :))
def w_X12_load : List (Nat × Nat × Nat) := [(106, 106, 96), (165, 165, 0), (166, 166, 0)]
def PF_X12_load (s : S_X12_load) (q : Int32 × fm_) : Prop := match s with
  | Sum.inl ((x1, x2, x3, x4, x5, m)) => sa_ w_X12_load m q.2
  | Sum.inr ((x1, x2, x3, x4, x5, x6, m)) => sa_ w_X12_load m q.2
theorem fl_X12_load (s : S_X12_load) (q : Int32 × fm_) (h : am_lp (st_X12_load) s = some q) : PF_X12_load s q :=
  am_lp_snd (P := PF_X12_load) (fun K hK s q h => match s, h with
    | Sum.inl ((x1, x2, x3, x4, x5, m)), h => (fr_if h (fun h1 => (fr_rt h1 sa_rf)) (fun h1 => (fj_bd h1 fun q2 e3 h4 => (sa_t (sa_t sa_rf (sa_ui [0, 1, 2] rfl (fr_X12_go (q := q2) e3))) (hK _ _ h4 :)))))
    | Sum.inr ((x1, x2, x3, x4, x5, x6, m)), h => (fr_if h (fun h1 => (sa_t sa_rf (hK _ _ h1 :))) (fun h1 => (fj_gd h1 fun g3 h2 => (fj_gd h2 fun g5 h4 => (fj_bd h4 fun q6 e7 h8 => (fr_if h8 (fun h9 => (fj_gd h9 fun g11 h10 => (sa_t (sa_t sa_rf (sa_ui [] rfl (fr_X12_wayOf (q := q6) e7))) (hK _ _ h10 :)))) (fun h9 => (sa_t (sa_t sa_rf (sa_ui [] rfl (fr_X12_wayOf (q := q6) e7))) (hK _ _ h9 :)))))))))) s q h
set_option maxRecDepth 100000 in
theorem fr_X12_load {p1 : Int32} {p2 : Int32} {p3 : Int32} {m : fm_} {q : Int32 × fm_} (h : f_X12_load p1 p2 p3 m = some q) : sa_ w_X12_load m q.2 :=
  (fq_if h (fun h1 => (fq_rt h1 sa_rf)) (fun h1 => (fq_if h1 (fun h2 => (fq_rt h2 sa_rf)) (fun h2 => (fh_bd h2 fun q3 e4 h5 => (fq_if h5 (fun h6 => (fq_rt h6 (sa_t sa_rf (sa_ui [] rfl (fr_X12_isDay (q := q3) e4))))) (fun h6 => (sa_t (sa_t sa_rf (sa_ui [] rfl (fr_X12_isDay (q := q3) e4))) (fl_X12_load _ _ h6 :)))))))))
def w_X12_gone : List (Nat × Nat × Nat) := []
def PF_X12_gone (s : S_X12_gone) (q : Int32 × fm_) : Prop := match s with
  | (x1, x2, m) => sa_ w_X12_gone m q.2
theorem fl_X12_gone (s : S_X12_gone) (q : Int32 × fm_) (h : am_lp (st_X12_gone) s = some q) : PF_X12_gone s q :=
  am_lp_snd (P := PF_X12_gone) (fun K hK s q h => match s, h with
    | (x1, x2, m), h => (fr_if h (fun h1 => (fr_rt h1 sa_rf)) (fun h1 => (fj_gd h1 fun g3 h2 => (sa_t sa_rf (hK _ _ h2 :)))))) s q h
set_option maxRecDepth 100000 in
theorem fr_X12_gone  {m : fm_} {q : Int32 × fm_} (h : f_X12_gone  m = some q) : sa_ w_X12_gone m q.2 :=
  (sa_t sa_rf (fl_X12_gone _ _ h :))
def w_X12_around : List (Nat × Nat × Nat) := [(106, 106, 96), (165, 165, 0), (166, 166, 0)]
def PF_X12_around (s : S_X12_around) (q : Int32 × fm_) : Prop := match s with
  | (x1, x2, x3, m) => sa_ w_X12_around m q.2
theorem fl_X12_around (s : S_X12_around) (q : Int32 × fm_) (h : am_lp (st_X12_around) s = some q) : PF_X12_around s q :=
  am_lp_snd (P := PF_X12_around) (fun K hK s q h => match s, h with
    | (x1, x2, x3, m), h => (fr_if h (fun h1 => (fr_rt h1 sa_rf)) (fun h1 => (fj_bd h1 fun q2 e3 h4 => (fj_bd h4 fun q5 e6 h7 => (fr_if h7 (fun h8 => (fj_bd h8 fun q9 e10 h11 => (sa_t (sa_t (sa_t (sa_t sa_rf (sa_ui [0, 1, 2] rfl (fr_X12_go (q := q2) e3))) (sa_ui [] rfl (fr_X12_gone (q := q5) e6))) (sa_ui [0, 1, 2] rfl (fr_X12_go (q := q9) e10))) (hK _ _ h11 :)))) (fun h8 => (fj_bd h8 fun q12 e13 h14 => (fj_bd h14 fun q15 e16 h17 => (fr_if h17 (fun h18 => (fj_gd h18 fun g20 h19 => (sa_t (sa_t (sa_t (sa_t (sa_t sa_rf (sa_ui [0, 1, 2] rfl (fr_X12_go (q := q2) e3))) (sa_ui [] rfl (fr_X12_gone (q := q5) e6))) (sa_ui [0, 1, 2] rfl (fr_X12_go (q := q12) e13))) (sa_ui [] rfl (fr_X12_gone (q := q15) e16))) (hK _ _ h19 :)))) (fun h18 => (sa_t (sa_t (sa_t (sa_t (sa_t sa_rf (sa_ui [0, 1, 2] rfl (fr_X12_go (q := q2) e3))) (sa_ui [] rfl (fr_X12_gone (q := q5) e6))) (sa_ui [0, 1, 2] rfl (fr_X12_go (q := q12) e13))) (sa_ui [] rfl (fr_X12_gone (q := q15) e16))) (hK _ _ h18 :))))))))))))) s q h
set_option maxRecDepth 100000 in
theorem fr_X12_around {p1 : Int32} {m : fm_} {q : Int32 × fm_} (h : f_X12_around p1 m = some q) : sa_ w_X12_around m q.2 :=
  (fh_bd h fun q1 e2 h3 => (fq_if h3 (fun h4 => (fq_rt h4 (sa_t sa_rf (sa_ui [] rfl (fr_X12_isDay (q := q1) e2))))) (fun h4 => (sa_t (sa_t sa_rf (sa_ui [] rfl (fr_X12_isDay (q := q1) e2))) (fl_X12_around _ _ h4 :)))))
def w_X12_bitsOf : List (Nat × Nat × Nat) := []
def PF_X12_bitsOf (s : S_X12_bitsOf) (q : Int32 × fm_) : Prop := match s with
  | (x0, x1, x2, m) => sa_ w_X12_bitsOf m q.2
theorem fl_X12_bitsOf (s : S_X12_bitsOf) (q : Int32 × fm_) (h : am_lp (st_X12_bitsOf) s = some q) : PF_X12_bitsOf s q :=
  am_lp_snd (P := PF_X12_bitsOf) (fun K hK s q h => match s, h with
    | (x0, x1, x2, m), h => (fr_if h (fun h1 => (fr_rt h1 sa_rf)) (fun h1 => (sa_t sa_rf (hK _ _ h1 :))))) s q h
set_option maxRecDepth 100000 in
theorem fr_X12_bitsOf {p1 : Int32} {m : fm_} {q : Int32 × fm_} (h : f_X12_bitsOf p1 m = some q) : sa_ w_X12_bitsOf m q.2 :=
  (sa_t sa_rf (fl_X12_bitsOf _ _ h :))
def w_X12_look : List (Nat × Nat × Nat) := [(106, 106, 96), (106, 106, 98), (106, 106, 99), (165, 165, 0), (166, 166, 0), (167, 167, 0)]
def PF_X12_look (s : S_X12_look) (q : Int32 × fm_) : Prop := match s with
  | Sum.inl ((x1, x2, x3, m)) => sa_ w_X12_look m q.2
  | Sum.inr (Sum.inl ((x1, x2, x3, m))) => sa_ w_X12_look m q.2
  | Sum.inr (Sum.inr ((x1, x2, x3, x4, x5, m))) => sa_ w_X12_look m q.2
theorem fl_X12_look (s : S_X12_look) (q : Int32 × fm_) (h : am_lp (st_X12_look) s = some q) : PF_X12_look s q :=
  am_lp_snd (P := PF_X12_look) (fun K hK s q h => match s, h with
    | Sum.inl ((x1, x2, x3, m)), h => (fr_if h (fun h1 => (sa_t (sa_si (wi_at 2 rfl (Or.inr rfl)) (sa_si (wi_at 1 rfl (Or.inr rfl)) sa_rf)) (hK _ _ h1 :))) (fun h1 => (fj_bd h1 fun q2 e3 h4 => (fj_bd h4 fun q5 e6 h7 => (fj_gd h7 fun g9 h8 => (sa_t (sa_si (wi_at 5 rfl (Or.inl rfl)) (sa_t (sa_t sa_rf (sa_ui [0, 3, 4] rfl (fr_X12_go (q := q2) e3))) (sa_ui [] rfl (fr_X12_gone (q := q5) e6)))) (hK _ _ h8 :)))))))
    | Sum.inr (Sum.inl ((x1, x2, x3, m))), h => (fr_if h (fun h1 => (fr_rt h1 sa_rf)) (fun h1 => (fr_if h1 (fun h2 => (fj_bd h2 fun q3 e4 h5 => (fr_if h5 (fun h6 => (sa_t (sa_t sa_rf (sa_ui [] rfl (fr_X12_bitsOf (q := q3) e4))) (hK _ _ h6 :))) (fun h6 => (sa_t (sa_t sa_rf (sa_ui [] rfl (fr_X12_bitsOf (q := q3) e4))) (hK _ _ h6 :)))))) (fun h2 => (sa_t sa_rf (hK _ _ h2 :))))))
    | Sum.inr (Sum.inr ((x1, x2, x3, x4, x5, m))), h => (fr_if h (fun h1 => (fr_if h1 (fun h2 => (sa_t sa_rf (hK _ _ h2 :))) (fun h2 => (fr_if h2 (fun h3 => (fj_bd h3 fun q4 e5 h6 => (fj_bd h6 fun q7 e8 h9 => (fr_if h9 (fun h10 => (sa_t (sa_si (wi_at 2 rfl (Or.inr rfl)) (sa_si (wi_at 1 rfl (Or.inr rfl)) (sa_t (sa_t sa_rf (sa_ui [] rfl (fr_X12_bitsOf (q := q4) e5))) (sa_ui [] rfl (fr_X12_bitsOf (q := q7) e8))))) (hK _ _ h10 :))) (fun h10 => (sa_t (sa_t (sa_t sa_rf (sa_ui [] rfl (fr_X12_bitsOf (q := q4) e5))) (sa_ui [] rfl (fr_X12_bitsOf (q := q7) e8))) (hK _ _ h10 :))))))) (fun h3 => (sa_t (sa_si (wi_at 2 rfl (Or.inr rfl)) (sa_si (wi_at 1 rfl (Or.inr rfl)) sa_rf)) (hK _ _ h3 :))))))) (fun h1 => (fj_gd h1 fun g12 h11 => (fr_if h11 (fun h13 => (fj_gd h13 fun g15 h14 => (fr_if h14 (fun h16 => (sa_t sa_rf (hK _ _ h16 :))) (fun h16 => (fj_gd h16 fun g18 h17 => (sa_t sa_rf (hK _ _ h17 :))))))) (fun h13 => (sa_t sa_rf (hK _ _ h13 :)))))))) s q h
set_option maxRecDepth 100000 in
theorem fr_X12_look {p1 : Int32} {p2 : Int32} {m : fm_} {q : Int32 × fm_} (h : f_X12_look p1 p2 m = some q) : sa_ w_X12_look m q.2 :=
  (fh_bd h fun q1 e2 h3 => (fq_if h3 (fun h4 => (fq_rt h4 (sa_t sa_rf (sa_ui [] rfl (fr_X12_isDay (q := q1) e2))))) (fun h4 => (fq_if h4 (fun h5 => (fq_rt h5 (sa_t sa_rf (sa_ui [] rfl (fr_X12_isDay (q := q1) e2))))) (fun h5 => (fq_if h5 (fun h6 => (sa_t (sa_t sa_rf (sa_ui [] rfl (fr_X12_isDay (q := q1) e2))) (fl_X12_look _ _ h6 :))) (fun h6 => (fq_rt h6 (sa_t sa_rf (sa_ui [] rfl (fr_X12_isDay (q := q1) e2)))))))))))
def w_X12_view : List (Nat × Nat × Nat) := [(106, 106, 96), (106, 106, 98), (106, 106, 99), (165, 165, 0), (166, 166, 0), (167, 167, 0)]
set_option maxRecDepth 100000 in
theorem fr_X12_view {p1 : Int32} {p2 : Int32} {m : fm_} {q : Int32 × fm_} (h : f_X12_view p1 p2 m = some q) : sa_ w_X12_view m q.2 :=
  (fh_bd h fun q1 e2 h3 => (fq_if h3 (fun h4 => (fq_rt h4 (sa_t sa_rf (sa_ui [0, 1, 2, 3, 4, 5] rfl (fr_X12_look (q := q1) e2))))) (fun h4 => (fq_rt h4 (sa_t sa_rf (sa_ui [0, 1, 2, 3, 4, 5] rfl (fr_X12_look (q := q1) e2)))))))
def w_X12_seen : List (Nat × Nat × Nat) := [(106, 106, 96), (106, 106, 98), (106, 106, 99), (165, 165, 0), (166, 166, 0), (167, 167, 0)]
set_option maxRecDepth 100000 in
theorem fr_X12_seen {p1 : Int32} {p2 : Int32} {m : fm_} {q : Int32 × fm_} (h : f_X12_seen p1 p2 m = some q) : sa_ w_X12_seen m q.2 :=
  (fh_bd h fun q1 e2 h3 => (fq_if h3 (fun h4 => (fq_rt h4 (sa_t sa_rf (sa_ui [0, 1, 2, 3, 4, 5] rfl (fr_X12_look (q := q1) e2))))) (fun h4 => (fq_rt h4 (sa_t sa_rf (sa_ui [0, 1, 2, 3, 4, 5] rfl (fr_X12_look (q := q1) e2)))))))
def w_X12_about : List (Nat × Nat × Nat) := []
set_option maxRecDepth 100000 in
theorem fr_X12_about {p1 : Int32} {m : fm_} {q : Int32 × fm_} (h : f_X12_about p1 m = some q) : sa_ w_X12_about m q.2 :=
  (fq_if h (fun h1 => (fq_rt h1 sa_rf)) (fun h1 => (fq_if h1 (fun h2 => (fh_bd h2 fun q3 e4 h5 => (fq_rt h5 (sa_t sa_rf (sa_ui [] rfl (fr_X12_bitsOf (q := q3) e4)))))) (fun h2 => (fq_if h2 (fun h6 => (fq_rt h6 sa_rf)) (fun h6 => (fq_if h6 (fun h7 => (fq_rt h7 sa_rf)) (fun h7 => (fq_if h7 (fun h8 => (fq_rt h8 sa_rf)) (fun h8 => (fq_if h8 (fun h9 => (fq_rt h9 sa_rf)) (fun h9 => (fq_if h9 (fun h10 => (fq_rt h10 sa_rf)) (fun h10 => (fq_if h10 (fun h11 => (fq_rt h11 sa_rf)) (fun h11 => (fq_if h11 (fun h12 => (fq_rt h12 sa_rf)) (fun h12 => (fq_if h12 (fun h13 => (fq_rt h13 sa_rf)) (fun h13 => (fq_rt h13 sa_rf)))))))))))))))))))))
