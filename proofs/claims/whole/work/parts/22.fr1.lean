def w_X5_readOne (o : Nat) : List (Nat × Nat × Nat) := [(o, o, 3), (o + 1, o + 1, 0), (1, 1, 7), (1, 1, 8), (1, 1, 9), (68, 68, 4)]
def PF_X5_readOne (o : Nat) (s : S_X5_readOne) (q : Int32 × fm_) : Prop := match s with
  | Sum.inl ((x1, x2, m)) => sa_ (w_X5_readOne o) m q.2
  | Sum.inr ((x1, x2, x3, x4, m)) => sa_ (w_X5_readOne o) m q.2
theorem fl_X5_readOne {f : Nat → Int32 → fm_ → Option (Int32 × fm_)} {o : Nat} (hE : ∀ (o : Nat) (p : Int32) (m : fm_) (q : Int32 × fm_), f o p m = some q → sa_ (w_X5_readOne o) m q.2) (s : S_X5_readOne) (q : Int32 × fm_) (h : am_lp (st_X5_readOne f o) s = some q) : PF_X5_readOne o s q :=
  am_lp_snd (P := PF_X5_readOne o) (fun K hK s q h => match s, h with
    | Sum.inl ((x1, x2, m)), h => (fr_if h (fun h1 => (fj_bd h1 fun q2 e3 h4 => (fr_if h4 (fun h5 => (fr_if h5 (fun h6 => (fj_bd h6 fun q7 e8 h9 => (fj_bd h9 fun q10 e11 h12 => (fr_if h12 (fun h13 => (fr_rt h13 (sa_t (sa_t (sa_t sa_rf (sa_ui [] rfl (fr_X8_kind e3))) (sa_ui [2] rfl (fr_X8_step e8))) (sa_ui [0, 1, 2, 3, 4, 5] rfl (hE _ _ _ _ e11))))) (fun h13 => (fj_bd h13 fun q14 e15 h16 => (fr_if h16 (fun h17 => (fr_rt h17 (sa_t (sa_t (sa_t (sa_t sa_rf (sa_ui [] rfl (fr_X8_kind e3))) (sa_ui [2] rfl (fr_X8_step e8))) (sa_ui [0, 1, 2, 3, 4, 5] rfl (hE _ _ _ _ e11))) (sa_ui [2, 3, 4] rfl (fr_X8_take e15))))) (fun h17 => (sa_t (sa_t (sa_t (sa_t (sa_t sa_rf (sa_ui [] rfl (fr_X8_kind e3))) (sa_ui [2] rfl (fr_X8_step e8))) (sa_ui [0, 1, 2, 3, 4, 5] rfl (hE _ _ _ _ e11))) (sa_ui [2, 3, 4] rfl (fr_X8_take e15))) (hK _ _ h17)))))))))) (fun h6 => (fj_bd h6 fun q18 e19 h20 => (fj_gd h20 fun g22 h21 => (fr_rt h21 (sa_t (sa_t sa_rf (sa_ui [] rfl (fr_X8_kind e3))) (sa_ui [3, 4] rfl (fr_X8_fail e19))))))))) (fun h5 => (fj_bd h5 fun q23 e24 h25 => (fr_if h25 (fun h26 => (fr_if h26 (fun h31 => (fj_bd h31 fun q32 e33 h34 => (fj_bd h34 fun q35 e36 h37 => (fr_if h37 (fun h38 => (fr_rt h38 (sa_t (sa_t (sa_t (sa_t sa_rf (sa_ui [] rfl (fr_X8_kind e3))) (sa_ui [] rfl (fr_X8_kind e24))) (sa_ui [2] rfl (fr_X8_step e33))) (sa_ui [0, 1, 2, 3, 4, 5] rfl (hE _ _ _ _ e36))))) (fun h38 => (fj_bd h38 fun q39 e40 h41 => (fr_if h41 (fun h42 => (fr_rt h42 (sa_t (sa_t (sa_t (sa_t (sa_t sa_rf (sa_ui [] rfl (fr_X8_kind e3))) (sa_ui [] rfl (fr_X8_kind e24))) (sa_ui [2] rfl (fr_X8_step e33))) (sa_ui [0, 1, 2, 3, 4, 5] rfl (hE _ _ _ _ e36))) (sa_ui [2, 3, 4] rfl (fr_X8_take e40))))) (fun h42 => (sa_t (sa_t (sa_t (sa_t (sa_t (sa_t sa_rf (sa_ui [] rfl (fr_X8_kind e3))) (sa_ui [] rfl (fr_X8_kind e24))) (sa_ui [2] rfl (fr_X8_step e33))) (sa_ui [0, 1, 2, 3, 4, 5] rfl (hE _ _ _ _ e36))) (sa_ui [2, 3, 4] rfl (fr_X8_take e40))) (hK _ _ h42)))))))))) (fun h31 => (fj_bd h31 fun q43 e44 h45 => (fj_gd h45 fun g47 h46 => (fr_rt h46 (sa_t (sa_t (sa_t sa_rf (sa_ui [] rfl (fr_X8_kind e3))) (sa_ui [] rfl (fr_X8_kind e24))) (sa_ui [3, 4] rfl (fr_X8_fail e44))))))))) (fun h26 => (fj_bd h26 fun q27 e28 h29 => (fr_if h29 (fun h30 => (fr_rt h30 (sa_t (sa_t (sa_t sa_rf (sa_ui [] rfl (fr_X8_kind e3))) (sa_ui [] rfl (fr_X8_kind e24))) (sa_ui [0, 1, 2, 3, 4, 5] rfl (fr_X5_readComparison e28))))) (fun h30 => (sa_t (sa_t (sa_t (sa_t sa_rf (sa_ui [] rfl (fr_X8_kind e3))) (sa_ui [] rfl (fr_X8_kind e24))) (sa_ui [0, 1, 2, 3, 4, 5] rfl (fr_X5_readComparison e28))) (hK _ _ h30)))))))))))) (fun h1 => (fj_bd h1 fun q48 e49 h50 => (fr_if h50 (fun h51 => (fj_bd h51 fun q98 e99 h100 => (sa_t (sa_t (sa_t sa_rf (sa_ui [] rfl (fr_X8_kind e49))) (sa_ui [2] rfl (fr_X8_step e99))) (hK _ _ h100)))) (fun h51 => (fj_bd h51 fun q52 e53 h54 => (fr_if h54 (fun h55 => (fr_if h55 (fun h56 => (fj_bd h56 fun q57 e58 h59 => (fj_bd h59 fun q60 e61 h62 => (fr_if h62 (fun h63 => (fr_rt h63 (sa_t (sa_t (sa_t (sa_t sa_rf (sa_ui [] rfl (fr_X8_kind e49))) (sa_ui [] rfl (fr_X8_kind e53))) (sa_ui [2] rfl (fr_X8_step e58))) (sa_ui [0, 1, 2, 3, 4, 5] rfl (hE _ _ _ _ e61))))) (fun h63 => (fj_bd h63 fun q64 e65 h66 => (fr_if h66 (fun h67 => (fr_rt h67 (sa_t (sa_t (sa_t (sa_t (sa_t sa_rf (sa_ui [] rfl (fr_X8_kind e49))) (sa_ui [] rfl (fr_X8_kind e53))) (sa_ui [2] rfl (fr_X8_step e58))) (sa_ui [0, 1, 2, 3, 4, 5] rfl (hE _ _ _ _ e61))) (sa_ui [2, 3, 4] rfl (fr_X8_take e65))))) (fun h67 => (sa_t (sa_t (sa_t (sa_t (sa_t (sa_t sa_rf (sa_ui [] rfl (fr_X8_kind e49))) (sa_ui [] rfl (fr_X8_kind e53))) (sa_ui [2] rfl (fr_X8_step e58))) (sa_ui [0, 1, 2, 3, 4, 5] rfl (hE _ _ _ _ e61))) (sa_ui [2, 3, 4] rfl (fr_X8_take e65))) (hK _ _ h67)))))))))) (fun h56 => (fj_bd h56 fun q68 e69 h70 => (fj_gd h70 fun g72 h71 => (fr_rt h71 (sa_t (sa_t (sa_t sa_rf (sa_ui [] rfl (fr_X8_kind e49))) (sa_ui [] rfl (fr_X8_kind e53))) (sa_ui [3, 4] rfl (fr_X8_fail e69))))))))) (fun h55 => (fj_bd h55 fun q73 e74 h75 => (fr_if h75 (fun h76 => (fr_if h76 (fun h81 => (fj_bd h81 fun q82 e83 h84 => (fj_bd h84 fun q85 e86 h87 => (fr_if h87 (fun h88 => (fr_rt h88 (sa_t (sa_t (sa_t (sa_t (sa_t sa_rf (sa_ui [] rfl (fr_X8_kind e49))) (sa_ui [] rfl (fr_X8_kind e53))) (sa_ui [] rfl (fr_X8_kind e74))) (sa_ui [2] rfl (fr_X8_step e83))) (sa_ui [0, 1, 2, 3, 4, 5] rfl (hE _ _ _ _ e86))))) (fun h88 => (fj_bd h88 fun q89 e90 h91 => (fr_if h91 (fun h92 => (fr_rt h92 (sa_t (sa_t (sa_t (sa_t (sa_t (sa_t sa_rf (sa_ui [] rfl (fr_X8_kind e49))) (sa_ui [] rfl (fr_X8_kind e53))) (sa_ui [] rfl (fr_X8_kind e74))) (sa_ui [2] rfl (fr_X8_step e83))) (sa_ui [0, 1, 2, 3, 4, 5] rfl (hE _ _ _ _ e86))) (sa_ui [2, 3, 4] rfl (fr_X8_take e90))))) (fun h92 => (sa_t (sa_t (sa_t (sa_t (sa_t (sa_t (sa_t sa_rf (sa_ui [] rfl (fr_X8_kind e49))) (sa_ui [] rfl (fr_X8_kind e53))) (sa_ui [] rfl (fr_X8_kind e74))) (sa_ui [2] rfl (fr_X8_step e83))) (sa_ui [0, 1, 2, 3, 4, 5] rfl (hE _ _ _ _ e86))) (sa_ui [2, 3, 4] rfl (fr_X8_take e90))) (hK _ _ h92)))))))))) (fun h81 => (fj_bd h81 fun q93 e94 h95 => (fj_gd h95 fun g97 h96 => (fr_rt h96 (sa_t (sa_t (sa_t (sa_t sa_rf (sa_ui [] rfl (fr_X8_kind e49))) (sa_ui [] rfl (fr_X8_kind e53))) (sa_ui [] rfl (fr_X8_kind e74))) (sa_ui [3, 4] rfl (fr_X8_fail e94))))))))) (fun h76 => (fj_bd h76 fun q77 e78 h79 => (fr_if h79 (fun h80 => (fr_rt h80 (sa_t (sa_t (sa_t (sa_t sa_rf (sa_ui [] rfl (fr_X8_kind e49))) (sa_ui [] rfl (fr_X8_kind e53))) (sa_ui [] rfl (fr_X8_kind e74))) (sa_ui [0, 1, 2, 3, 4, 5] rfl (fr_X5_readComparison e78))))) (fun h80 => (sa_t (sa_t (sa_t (sa_t (sa_t sa_rf (sa_ui [] rfl (fr_X8_kind e49))) (sa_ui [] rfl (fr_X8_kind e53))) (sa_ui [] rfl (fr_X8_kind e74))) (sa_ui [0, 1, 2, 3, 4, 5] rfl (fr_X5_readComparison e78))) (hK _ _ h80))))))))))))))))
    | Sum.inr ((x1, x2, x3, x4, m)), h => (fr_if h (fun h1 => (fr_rt h1 sa_rf)) (fun h1 => (fj_bd h1 fun q2 e3 h4 => (sa_t (sa_t sa_rf (sa_ui [0, 1] rfl (fr_X4_addStep e3))) (hK _ _ h4)))))) s q h
set_option maxRecDepth 100000 in
theorem fr_X5_readOne {f : Nat → Int32 → fm_ → Option (Int32 × fm_)} {o : Nat} (hE : ∀ (o : Nat) (p : Int32) (m : fm_) (q : Int32 × fm_), f o p m = some q → sa_ (w_X5_readOne o) m q.2) {p1 : Int32} {m : fm_} {q : Int32 × fm_} (h : f_X5_readOne f o p1 m = some q) : sa_ (w_X5_readOne o) m q.2 :=
  (sa_t sa_rf (fl_X5_readOne hE _ _ h))
def w_X5_readEither (o : Nat) : List (Nat × Nat × Nat) := [(o, o, 3), (o + 1, o + 1, 0), (1, 1, 7), (1, 1, 8), (1, 1, 9), (68, 68, 4)]
def PF_X5_readEither (o : Nat) (s : S_X5_readEither) (q : Int32 × fm_) : Prop := match s with
  | (x1, x2, x3, x4, m) => sa_ (w_X5_readEither o) m q.2
theorem fl_X5_readEither {f : Nat → Int32 → fm_ → Option (Int32 × fm_)} {o : Nat} (hE : ∀ (o : Nat) (p : Int32) (m : fm_) (q : Int32 × fm_), f o p m = some q → sa_ (w_X5_readEither o) m q.2) (s : S_X5_readEither) (q : Int32 × fm_) (h : am_lp (st_X5_readEither f o) s = some q) : PF_X5_readEither o s q :=
  am_lp_snd (P := PF_X5_readEither o) (fun K hK s q h => match s, h with
    | (x1, x2, x3, x4, m), h => (fr_if h (fun h1 => (fr_rt h1 sa_rf)) (fun h1 => (fj_bd h1 fun q2 e3 h4 => (fr_if h4 (fun h5 => (fr_rt h5 (sa_t sa_rf (sa_ui [0, 1, 2, 3, 4, 5] rfl (hE _ _ _ _ e3))))) (fun h5 => (fr_if h5 (fun h6 => (fj_bd h6 fun q7 e8 h9 => (fr_if h9 (fun h10 => (fr_if h10 (fun h29 => (fj_bd h29 fun q30 e31 h32 => (sa_t (sa_t (sa_t (sa_t sa_rf (sa_ui [0, 1, 2, 3, 4, 5] rfl (hE _ _ _ _ e3))) (sa_ui [] rfl (fr_X8_kind e8))) (sa_ui [2] rfl (fr_X8_step e31))) (hK _ _ h32)))) (fun h29 => (fj_bd h29 fun q33 e34 h35 => (sa_t (sa_t (sa_t (sa_t sa_rf (sa_ui [0, 1, 2, 3, 4, 5] rfl (hE _ _ _ _ e3))) (sa_ui [] rfl (fr_X8_kind e8))) (sa_ui [2] rfl (fr_X8_step e34))) (hK _ _ h35)))))) (fun h10 => (fr_if h10 (fun h11 => (fj_bd h11 fun q12 e13 h14 => (fr_if h14 (fun h15 => (fj_bd h15 fun q16 e17 h18 => (sa_t (sa_t (sa_t (sa_t (sa_t sa_rf (sa_ui [0, 1, 2, 3, 4, 5] rfl (hE _ _ _ _ e3))) (sa_ui [] rfl (fr_X8_kind e8))) (sa_ui [] rfl (fr_X8_kind e13))) (sa_ui [2] rfl (fr_X8_step e17))) (hK _ _ h18)))) (fun h15 => (fr_rt h15 (sa_t (sa_t (sa_t sa_rf (sa_ui [0, 1, 2, 3, 4, 5] rfl (hE _ _ _ _ e3))) (sa_ui [] rfl (fr_X8_kind e8))) (sa_ui [] rfl (fr_X8_kind e13)))))))) (fun h11 => (fj_bd h11 fun q19 e20 h21 => (fj_bd h21 fun q22 e23 h24 => (fr_if h24 (fun h25 => (fj_bd h25 fun q26 e27 h28 => (sa_t (sa_t (sa_t (sa_t (sa_t (sa_t sa_rf (sa_ui [0, 1, 2, 3, 4, 5] rfl (hE _ _ _ _ e3))) (sa_ui [] rfl (fr_X8_kind e8))) (sa_ui [0, 1] rfl (fr_X4_addStep e20))) (sa_ui [] rfl (fr_X8_kind e23))) (sa_ui [2] rfl (fr_X8_step e27))) (hK _ _ h28)))) (fun h25 => (fr_rt h25 (sa_t (sa_t (sa_t (sa_t sa_rf (sa_ui [0, 1, 2, 3, 4, 5] rfl (hE _ _ _ _ e3))) (sa_ui [] rfl (fr_X8_kind e8))) (sa_ui [0, 1] rfl (fr_X4_addStep e20))) (sa_ui [] rfl (fr_X8_kind e23)))))))))))))) (fun h6 => (fj_bd h6 fun q36 e37 h38 => (fj_bd h38 fun q39 e40 h41 => (fr_if h41 (fun h42 => (fr_if h42 (fun h61 => (fj_bd h61 fun q62 e63 h64 => (sa_t (sa_t (sa_t (sa_t (sa_t sa_rf (sa_ui [0, 1, 2, 3, 4, 5] rfl (hE _ _ _ _ e3))) (sa_ui [0, 1] rfl (fr_X4_addStep e37))) (sa_ui [] rfl (fr_X8_kind e40))) (sa_ui [2] rfl (fr_X8_step e63))) (hK _ _ h64)))) (fun h61 => (fj_bd h61 fun q65 e66 h67 => (sa_t (sa_t (sa_t (sa_t (sa_t sa_rf (sa_ui [0, 1, 2, 3, 4, 5] rfl (hE _ _ _ _ e3))) (sa_ui [0, 1] rfl (fr_X4_addStep e37))) (sa_ui [] rfl (fr_X8_kind e40))) (sa_ui [2] rfl (fr_X8_step e66))) (hK _ _ h67)))))) (fun h42 => (fr_if h42 (fun h43 => (fj_bd h43 fun q44 e45 h46 => (fr_if h46 (fun h47 => (fj_bd h47 fun q48 e49 h50 => (sa_t (sa_t (sa_t (sa_t (sa_t (sa_t sa_rf (sa_ui [0, 1, 2, 3, 4, 5] rfl (hE _ _ _ _ e3))) (sa_ui [0, 1] rfl (fr_X4_addStep e37))) (sa_ui [] rfl (fr_X8_kind e40))) (sa_ui [] rfl (fr_X8_kind e45))) (sa_ui [2] rfl (fr_X8_step e49))) (hK _ _ h50)))) (fun h47 => (fr_rt h47 (sa_t (sa_t (sa_t (sa_t sa_rf (sa_ui [0, 1, 2, 3, 4, 5] rfl (hE _ _ _ _ e3))) (sa_ui [0, 1] rfl (fr_X4_addStep e37))) (sa_ui [] rfl (fr_X8_kind e40))) (sa_ui [] rfl (fr_X8_kind e45)))))))) (fun h43 => (fj_bd h43 fun q51 e52 h53 => (fj_bd h53 fun q54 e55 h56 => (fr_if h56 (fun h57 => (fj_bd h57 fun q58 e59 h60 => (sa_t (sa_t (sa_t (sa_t (sa_t (sa_t (sa_t sa_rf (sa_ui [0, 1, 2, 3, 4, 5] rfl (hE _ _ _ _ e3))) (sa_ui [0, 1] rfl (fr_X4_addStep e37))) (sa_ui [] rfl (fr_X8_kind e40))) (sa_ui [0, 1] rfl (fr_X4_addStep e52))) (sa_ui [] rfl (fr_X8_kind e55))) (sa_ui [2] rfl (fr_X8_step e59))) (hK _ _ h60)))) (fun h57 => (fr_rt h57 (sa_t (sa_t (sa_t (sa_t (sa_t sa_rf (sa_ui [0, 1, 2, 3, 4, 5] rfl (hE _ _ _ _ e3))) (sa_ui [0, 1] rfl (fr_X4_addStep e37))) (sa_ui [] rfl (fr_X8_kind e40))) (sa_ui [0, 1] rfl (fr_X4_addStep e52))) (sa_ui [] rfl (fr_X8_kind e55)))))))))))))))))))))) s q h
set_option maxRecDepth 100000 in
theorem fr_X5_readEither {f : Nat → Int32 → fm_ → Option (Int32 × fm_)} {o : Nat} (hE : ∀ (o : Nat) (p : Int32) (m : fm_) (q : Int32 × fm_), f o p m = some q → sa_ (w_X5_readEither o) m q.2) {p1 : Int32} {m : fm_} {q : Int32 × fm_} (h : f_X5_readEither f o p1 m = some q) : sa_ (w_X5_readEither o) m q.2 :=
  (sa_t sa_rf (fl_X5_readEither hE _ _ h))
theorem fr_rdE : ∀ (d : Nat) {o : Nat} {p : Int32} {m : fm_} {q : Int32 × fm_}, rd_E d o p m = some q → sa_ (w_X5_readEither o) m q.2
  | 0, _, _, _, _, h => by cases h
  | d + 1, _, _, _, _, h => fr_X5_readEither (fun o p m q h => sa_ui [0, 1, 2, 3, 4, 5] rfl (fr_X5_readOne (fun o p m q h => sa_ui [0, 1, 2, 3, 4, 5] rfl (fr_rdE d h)) h)) h
def w_X5_readWhen (o : Nat) : List (Nat × Nat × Nat) := [(o, o, 3), (o + 1, o + 1, 0), (1, 1, 7), (1, 1, 8), (1, 1, 9), (68, 68, 4)]
set_option maxRecDepth 100000 in
theorem fr_X5_readWhen {o : Nat}  {m : fm_} {q : Int32 × fm_} (h : f_X5_readWhen o  m = some q) : sa_ (w_X5_readWhen o) m q.2 :=
  (fh_bd h fun q1 e2 h3 => (fq_if h3 (fun h4 => (fq_rt h4 (sa_t sa_rf (sa_ui [2, 3, 4] rfl (fr_X8_take e2))))) (fun h4 => (fh_bd h4 fun q5 e6 h7 => (fq_if h7 (fun h8 => (fq_rt h8 (sa_t (sa_t sa_rf (sa_ui [2, 3, 4] rfl (fr_X8_take e2))) (sa_ui [0, 1, 2, 3, 4, 5] rfl (fr_rdE 9 e6))))) (fun h8 => (fh_bd h8 fun q9 e10 h11 => (fq_rt h11 (sa_t (sa_t (sa_t sa_rf (sa_ui [2, 3, 4] rfl (fr_X8_take e2))) (sa_ui [0, 1, 2, 3, 4, 5] rfl (fr_rdE 9 e6))) (sa_ui [0, 1] rfl (fr_X4_addStep e10)))))))))))
def w_X5_readLines (o : Nat) : List (Nat × Nat × Nat) := [(o, o, 10), (o, o, 11), (o, o, 12), (o, o, 3), (o, o, 6), (o, o, 8), (o, o, 9), (o + 1, o + 1, 0), (o + 2, o + 2, 0), (o + 3, o + 3, 0), (o + 4, o + 4, 0), (1, 1, 7), (1, 1, 8), (1, 1, 9), (68, 68, 3), (68, 68, 4)]
def PF_X5_readLines (o : Nat) (s : S_X5_readLines) (q : Int32 × fm_) : Prop := match s with
  | (x2, m) => sa_ (w_X5_readLines o) m q.2
theorem fl_X5_readLines {o : Nat} (s : S_X5_readLines) (q : Int32 × fm_) (h : am_lp (st_X5_readLines o) s = some q) : PF_X5_readLines o s q :=
  am_lp_snd (P := PF_X5_readLines o) (fun K hK s q h => match s, h with
    | (x2, m), h => (fr_if h (fun h1 => (fr_rt h1 sa_rf)) (fun h1 => (fj_bd h1 fun q2 e3 h4 => (fr_if h4 (fun h5 => (fr_rt h5 (sa_t sa_rf (sa_ui [] rfl (fr_X8_kind e3))))) (fun h5 => (fj_bd h5 fun q6 e7 h8 => (fr_if h8 (fun h9 => (fj_bd h9 fun q10 e11 h12 => (fr_if h12 (fun h13 => (fr_rt h13 (sa_t (sa_si (wi_at 14 rfl (Or.inr rfl)) (sa_t (sa_t sa_rf (sa_ui [] rfl (fr_X8_kind e3))) (sa_ui [] rfl (fr_X8_kind e7)))) (sa_ui [0, 1, 2, 4, 5, 6, 8, 9, 10, 11, 12, 13] rfl (fr_X5_readHead e11))))) (fun h13 => (fj_bd h13 fun q14 e15 h16 => (fr_if h16 (fun h17 => (fr_rt h17 (sa_t (sa_t (sa_si (wi_at 14 rfl (Or.inr rfl)) (sa_t (sa_t sa_rf (sa_ui [] rfl (fr_X8_kind e3))) (sa_ui [] rfl (fr_X8_kind e7)))) (sa_ui [0, 1, 2, 4, 5, 6, 8, 9, 10, 11, 12, 13] rfl (fr_X5_readHead e11))) (sa_ui [3, 7, 11, 12, 13, 15] rfl (fr_X5_readWhen e15))))) (fun h17 => (fj_bd h17 fun q18 e19 h20 => (fr_if h20 (fun h21 => (fr_rt h21 (sa_t (sa_t (sa_t (sa_si (wi_at 14 rfl (Or.inr rfl)) (sa_t (sa_t sa_rf (sa_ui [] rfl (fr_X8_kind e3))) (sa_ui [] rfl (fr_X8_kind e7)))) (sa_ui [0, 1, 2, 4, 5, 6, 8, 9, 10, 11, 12, 13] rfl (fr_X5_readHead e11))) (sa_ui [3, 7, 11, 12, 13, 15] rfl (fr_X5_readWhen e15))) (sa_ui [11, 12, 13] rfl (fr_X8_take e19))))) (fun h21 => (sa_t (sa_t (sa_t (sa_t (sa_si (wi_at 14 rfl (Or.inr rfl)) (sa_t (sa_t sa_rf (sa_ui [] rfl (fr_X8_kind e3))) (sa_ui [] rfl (fr_X8_kind e7)))) (sa_ui [0, 1, 2, 4, 5, 6, 8, 9, 10, 11, 12, 13] rfl (fr_X5_readHead e11))) (sa_ui [3, 7, 11, 12, 13, 15] rfl (fr_X5_readWhen e15))) (sa_ui [11, 12, 13] rfl (fr_X8_take e19))) (hK _ _ h21)))))))))))) (fun h9 => (fr_if h9 (fun h22 => (fj_bd h22 fun q23 e24 h25 => (fr_if h25 (fun h26 => (fr_rt h26 (sa_t (sa_si (wi_at 14 rfl (Or.inr rfl)) (sa_t (sa_t sa_rf (sa_ui [] rfl (fr_X8_kind e3))) (sa_ui [] rfl (fr_X8_kind e7)))) (sa_ui [0, 1, 2, 4, 5, 6, 8, 9, 10, 11, 12, 13] rfl (fr_X5_readHead e24))))) (fun h26 => (fj_bd h26 fun q27 e28 h29 => (fr_if h29 (fun h30 => (fr_rt h30 (sa_t (sa_t (sa_si (wi_at 14 rfl (Or.inr rfl)) (sa_t (sa_t sa_rf (sa_ui [] rfl (fr_X8_kind e3))) (sa_ui [] rfl (fr_X8_kind e7)))) (sa_ui [0, 1, 2, 4, 5, 6, 8, 9, 10, 11, 12, 13] rfl (fr_X5_readHead e24))) (sa_ui [3, 7, 11, 12, 13, 15] rfl (fr_X5_readWhen e28))))) (fun h30 => (fj_bd h30 fun q31 e32 h33 => (fr_if h33 (fun h34 => (fr_rt h34 (sa_t (sa_t (sa_t (sa_si (wi_at 14 rfl (Or.inr rfl)) (sa_t (sa_t sa_rf (sa_ui [] rfl (fr_X8_kind e3))) (sa_ui [] rfl (fr_X8_kind e7)))) (sa_ui [0, 1, 2, 4, 5, 6, 8, 9, 10, 11, 12, 13] rfl (fr_X5_readHead e24))) (sa_ui [3, 7, 11, 12, 13, 15] rfl (fr_X5_readWhen e28))) (sa_ui [11, 12, 13] rfl (fr_X8_take e32))))) (fun h34 => (sa_t (sa_t (sa_t (sa_t (sa_si (wi_at 14 rfl (Or.inr rfl)) (sa_t (sa_t sa_rf (sa_ui [] rfl (fr_X8_kind e3))) (sa_ui [] rfl (fr_X8_kind e7)))) (sa_ui [0, 1, 2, 4, 5, 6, 8, 9, 10, 11, 12, 13] rfl (fr_X5_readHead e24))) (sa_ui [3, 7, 11, 12, 13, 15] rfl (fr_X5_readWhen e28))) (sa_ui [11, 12, 13] rfl (fr_X8_take e32))) (hK _ _ h34)))))))))))) (fun h22 => (fr_if h22 (fun h35 => (fj_bd h35 fun q44 e45 h46 => (fr_if h46 (fun h47 => (fr_rt h47 (sa_t (sa_si (wi_at 14 rfl (Or.inr rfl)) (sa_t (sa_t sa_rf (sa_ui [] rfl (fr_X8_kind e3))) (sa_ui [] rfl (fr_X8_kind e7)))) (sa_ui [0, 1, 2, 4, 5, 6, 8, 9, 10, 11, 12, 13] rfl (fr_X5_readHead e45))))) (fun h47 => (fj_bd h47 fun q48 e49 h50 => (fr_if h50 (fun h51 => (fr_rt h51 (sa_t (sa_t (sa_si (wi_at 14 rfl (Or.inr rfl)) (sa_t (sa_t sa_rf (sa_ui [] rfl (fr_X8_kind e3))) (sa_ui [] rfl (fr_X8_kind e7)))) (sa_ui [0, 1, 2, 4, 5, 6, 8, 9, 10, 11, 12, 13] rfl (fr_X5_readHead e45))) (sa_ui [3, 7, 11, 12, 13, 15] rfl (fr_X5_readWhen e49))))) (fun h51 => (fj_bd h51 fun q52 e53 h54 => (fr_if h54 (fun h55 => (fr_rt h55 (sa_t (sa_t (sa_t (sa_si (wi_at 14 rfl (Or.inr rfl)) (sa_t (sa_t sa_rf (sa_ui [] rfl (fr_X8_kind e3))) (sa_ui [] rfl (fr_X8_kind e7)))) (sa_ui [0, 1, 2, 4, 5, 6, 8, 9, 10, 11, 12, 13] rfl (fr_X5_readHead e45))) (sa_ui [3, 7, 11, 12, 13, 15] rfl (fr_X5_readWhen e49))) (sa_ui [11, 12, 13] rfl (fr_X8_take e53))))) (fun h55 => (sa_t (sa_t (sa_t (sa_t (sa_si (wi_at 14 rfl (Or.inr rfl)) (sa_t (sa_t sa_rf (sa_ui [] rfl (fr_X8_kind e3))) (sa_ui [] rfl (fr_X8_kind e7)))) (sa_ui [0, 1, 2, 4, 5, 6, 8, 9, 10, 11, 12, 13] rfl (fr_X5_readHead e45))) (sa_ui [3, 7, 11, 12, 13, 15] rfl (fr_X5_readWhen e49))) (sa_ui [11, 12, 13] rfl (fr_X8_take e53))) (hK _ _ h55)))))))))))) (fun h35 => (fj_bd h35 fun q36 e37 h38 => (fr_if h38 (fun h39 => (fr_rt h39 (sa_t (sa_si (wi_at 14 rfl (Or.inr rfl)) (sa_t (sa_t sa_rf (sa_ui [] rfl (fr_X8_kind e3))) (sa_ui [] rfl (fr_X8_kind e7)))) (sa_ui [0, 1, 2, 4, 5, 6, 8, 9, 10, 11, 12, 13] rfl (fr_X5_readHead e37))))) (fun h39 => (fj_bd h39 fun q40 e41 h42 => (fr_if h42 (fun h43 => (fr_rt h43 (sa_t (sa_t (sa_si (wi_at 14 rfl (Or.inr rfl)) (sa_t (sa_t sa_rf (sa_ui [] rfl (fr_X8_kind e3))) (sa_ui [] rfl (fr_X8_kind e7)))) (sa_ui [0, 1, 2, 4, 5, 6, 8, 9, 10, 11, 12, 13] rfl (fr_X5_readHead e37))) (sa_ui [11, 12, 13] rfl (fr_X8_take e41))))) (fun h43 => (sa_t (sa_t (sa_t (sa_si (wi_at 14 rfl (Or.inr rfl)) (sa_t (sa_t sa_rf (sa_ui [] rfl (fr_X8_kind e3))) (sa_ui [] rfl (fr_X8_kind e7)))) (sa_ui [0, 1, 2, 4, 5, 6, 8, 9, 10, 11, 12, 13] rfl (fr_X5_readHead e37))) (sa_ui [11, 12, 13] rfl (fr_X8_take e41))) (hK _ _ h43))))))))))))))))))))) s q h
set_option maxRecDepth 100000 in
theorem fr_X5_readLines {o : Nat}  {m : fm_} {q : Int32 × fm_} (h : f_X5_readLines o  m = some q) : sa_ (w_X5_readLines o) m q.2 :=
  (sa_t (sa_si (wi_at 15 rfl (Or.inr rfl)) sa_rf) (fl_X5_readLines _ _ h))
def w_X7_signAt : List (Nat × Nat × Nat) := []
set_option maxRecDepth 100000 in
theorem fr_X7_signAt {p1 : Int64} {p2 : Int32} {m : fm_} {q : Int32 × fm_} (h : f_X7_signAt p1 p2 m = some q) : sa_ w_X7_signAt m q.2 :=
  (fq_rt h sa_rf)
def w_X7_areSigns : List (Nat × Nat × Nat) := []
def PF_X7_areSigns (s : S_X7_areSigns) (q : Int32 × fm_) : Prop := match s with
  | (x0, x2, x3, m) => sa_ w_X7_areSigns m q.2
theorem fl_X7_areSigns (s : S_X7_areSigns) (q : Int32 × fm_) (h : am_lp (st_X7_areSigns) s = some q) : PF_X7_areSigns s q :=
  am_lp_snd (P := PF_X7_areSigns) (fun K hK s q h => match s, h with
    | (x0, x2, x3, m), h => (fr_if h (fun h1 => (fr_rt h1 sa_rf)) (fun h1 => (fj_bd h1 fun q2 e3 h4 => (fj_bd h4 fun q5 e6 h7 => (fr_if h7 (fun h8 => (fj_bd h8 fun q9 e10 h11 => (fr_if h11 (fun h12 => (fr_if h12 (fun h13 => (fr_rt h13 (sa_t (sa_t (sa_t sa_rf (sa_ui [] rfl (fr_X7_signAt e3))) (sa_ui [] rfl (fr_X8_isLetter e6))) (sa_ui [] rfl (fr_X8_isDigit e10))))) (fun h13 => (fr_if h13 (fun h14 => (sa_t (sa_t (sa_t (sa_t sa_rf (sa_ui [] rfl (fr_X7_signAt e3))) (sa_ui [] rfl (fr_X8_isLetter e6))) (sa_ui [] rfl (fr_X8_isDigit e10))) (hK _ _ h14))) (fun h14 => (fr_rt h14 (sa_t (sa_t (sa_t sa_rf (sa_ui [] rfl (fr_X7_signAt e3))) (sa_ui [] rfl (fr_X8_isLetter e6))) (sa_ui [] rfl (fr_X8_isDigit e10))))))))) (fun h12 => (sa_t (sa_t (sa_t (sa_t sa_rf (sa_ui [] rfl (fr_X7_signAt e3))) (sa_ui [] rfl (fr_X8_isLetter e6))) (sa_ui [] rfl (fr_X8_isDigit e10))) (hK _ _ h12)))))) (fun h8 => (sa_t (sa_t (sa_t sa_rf (sa_ui [] rfl (fr_X7_signAt e3))) (sa_ui [] rfl (fr_X8_isLetter e6))) (hK _ _ h8))))))))) s q h
set_option maxRecDepth 100000 in
theorem fr_X7_areSigns {p1 : Int64} {p2 : Int32} {m : fm_} {q : Int32 × fm_} (h : f_X7_areSigns p1 p2 m = some q) : sa_ w_X7_areSigns m q.2 :=
  (sa_t sa_rf (fl_X7_areSigns _ _ h))
def w_X7_add : List (Nat × Nat × Nat) := [(69, 69, 3), (70, 70, 0), (71, 71, 0)]
def PF_X7_add (s : S_X7_add) (q : Int32 × fm_) : Prop := match s with
  | (x1, x3, x4, m) => sa_ w_X7_add m q.2
theorem fl_X7_add (s : S_X7_add) (q : Int32 × fm_) (h : am_lp (st_X7_add) s = some q) : PF_X7_add s q :=
  am_lp_snd (P := PF_X7_add) (fun K hK s q h => match s, h with
    | (x1, x3, x4, m), h => (fr_if h (fun h1 => (fj_gd h1 fun g3 h2 => (fj_gd h2 fun g5 h4 => (fr_rt h4 (sa_si (wi_at 0 rfl (Or.inr rfl)) (sa_si (wi_at 2 rfl (Or.inl rfl)) (sa_sl (wi_at 1 rfl (Or.inl rfl)) sa_rf))))))) (fun h1 => (fj_gd h1 fun g7 h6 => (fr_if h6 (fun h8 => (fr_rt h8 sa_rf)) (fun h8 => (sa_t sa_rf (hK _ _ h8)))))))) s q h
set_option maxRecDepth 100000 in
theorem fr_X7_add {p1 : Int64} {p2 : Int32} {m : fm_} {q : Int32 × fm_} (h : f_X7_add p1 p2 m = some q) : sa_ w_X7_add m q.2 :=
  (fq_if h (fun h1 => (fq_rt h1 sa_rf)) (fun h1 => (fh_bd h1 fun q2 e3 h4 => (fq_if h4 (fun h5 => (fq_rt h5 (sa_t sa_rf (sa_ui [] rfl (fr_X11_isUnder e3))))) (fun h5 => (fh_bd h5 fun q6 e7 h8 => (fq_if h8 (fun h9 => (fq_rt h9 (sa_t (sa_t sa_rf (sa_ui [] rfl (fr_X11_isUnder e3))) (sa_ui [] rfl (fr_X7_areSigns e7))))) (fun h9 => (sa_t (sa_t (sa_t sa_rf (sa_ui [] rfl (fr_X11_isUnder e3))) (sa_ui [] rfl (fr_X7_areSigns e7))) (fl_X7_add _ _ h9))))))))))
def w_X7_look : List (Nat × Nat × Nat) := []
set_option maxRecDepth 100000 in
theorem fr_X7_look {p1 : Int32} {m : fm_} {q : Int32 × fm_} (h : f_X7_look p1 m = some q) : sa_ w_X7_look m q.2 :=
  (fq_if h (fun h1 => (fq_rt h1 sa_rf)) (fun h1 => (fq_if h1 (fun h2 => (fq_rt h2 sa_rf)) (fun h2 => (fq_if h2 (fun h3 => (fq_rt h3 sa_rf)) (fun h3 => (fq_if h3 (fun h4 => (fq_rt h4 sa_rf)) (fun h4 => (fq_if h4 (fun h5 => (fq_rt h5 sa_rf)) (fun h5 => (fq_if h5 (fun h6 => (fq_rt h6 sa_rf)) (fun h6 => (fq_if h6 (fun h7 => (fq_rt h7 sa_rf)) (fun h7 => (fq_if h7 (fun h8 => (fq_rt h8 sa_rf)) (fun h8 => (fq_if h8 (fun h9 => (fq_rt h9 sa_rf)) (fun h9 => (fq_if h9 (fun h10 => (fq_rt h10 sa_rf)) (fun h10 => (fq_if h10 (fun h11 => (fq_rt h11 sa_rf)) (fun h11 => (fq_if h11 (fun h12 => (fq_rt h12 sa_rf)) (fun h12 => (fq_if h12 (fun h13 => (fq_rt h13 sa_rf)) (fun h13 => (fq_if h13 (fun h14 => (fq_rt h14 sa_rf)) (fun h14 => (fq_if h14 (fun h15 => (fq_rt h15 sa_rf)) (fun h15 => (fq_if h15 (fun h16 => (fq_rt h16 sa_rf)) (fun h16 => (fq_if h16 (fun h17 => (fq_rt h17 sa_rf)) (fun h17 => (fq_if h17 (fun h18 => (fq_rt h18 sa_rf)) (fun h18 => (fq_if h18 (fun h19 => (fq_rt h19 sa_rf)) (fun h19 => (fq_if h19 (fun h20 => (fq_rt h20 sa_rf)) (fun h20 => (fq_if h20 (fun h21 => (fq_rt h21 sa_rf)) (fun h21 => (fq_if h21 (fun h22 => (fq_rt h22 sa_rf)) (fun h22 => (fq_if h22 (fun h23 => (fq_rt h23 sa_rf)) (fun h23 => (fq_if h23 (fun h24 => (fq_rt h24 sa_rf)) (fun h24 => (fq_if h24 (fun h25 => (fq_rt h25 sa_rf)) (fun h25 => (fq_rt h25 sa_rf)))))))))))))))))))))))))))))))))))))))))))))))))))
def w_X7_likeness : List (Nat × Nat × Nat) := []
def PF_X7_likeness (s : S_X7_likeness) (q : Int32 × fm_) : Prop := match s with
  | (x0, x2, x4, x5, m) => sa_ w_X7_likeness m q.2
theorem fl_X7_likeness (s : S_X7_likeness) (q : Int32 × fm_) (h : am_lp (st_X7_likeness) s = some q) : PF_X7_likeness s q :=
  am_lp_snd (P := PF_X7_likeness) (fun K hK s q h => match s, h with
    | (x0, x2, x4, x5, m), h => (fr_if h (fun h1 => (fr_if h1 (fun h2 => (fr_rt h2 sa_rf)) (fun h2 => (fr_rt h2 sa_rf)))) (fun h1 => (fj_bd h1 fun q3 e4 h5 => (fj_bd h5 fun q6 e7 h8 => (fr_if h8 (fun h9 => (sa_t (sa_t (sa_t sa_rf (sa_ui [] rfl (fr_X7_signAt e4))) (sa_ui [] rfl (fr_X7_signAt e7))) (hK _ _ h9))) (fun h9 => (fr_if h9 (fun h10 => (sa_t (sa_t (sa_t sa_rf (sa_ui [] rfl (fr_X7_signAt e4))) (sa_ui [] rfl (fr_X7_signAt e7))) (hK _ _ h10))) (fun h10 => (fj_bd h10 fun q11 e12 h13 => (fj_bd h13 fun q14 e15 h16 => (fr_if h16 (fun h17 => (sa_t (sa_t (sa_t (sa_t (sa_t sa_rf (sa_ui [] rfl (fr_X7_signAt e4))) (sa_ui [] rfl (fr_X7_signAt e7))) (sa_ui [] rfl (fr_X7_look e12))) (sa_ui [] rfl (fr_X7_look e15))) (hK _ _ h17))) (fun h17 => (fr_rt h17 (sa_t (sa_t (sa_t (sa_t sa_rf (sa_ui [] rfl (fr_X7_signAt e4))) (sa_ui [] rfl (fr_X7_signAt e7))) (sa_ui [] rfl (fr_X7_look e12))) (sa_ui [] rfl (fr_X7_look e15))))))))))))))))) s q h
set_option maxRecDepth 100000 in
theorem fr_X7_likeness {p1 : Int64} {p2 : Int64} {m : fm_} {q : Int32 × fm_} (h : f_X7_likeness p1 p2 m = some q) : sa_ w_X7_likeness m q.2 :=
  (sa_t sa_rf (fl_X7_likeness _ _ h))
def w_X1_add : List (Nat × Nat × Nat) := [(72, 72, 8), (73, 73, 0), (74, 74, 0), (75, 75, 0), (76, 76, 0), (77, 77, 0), (78, 78, 0)]
set_option maxRecDepth 100000 in
theorem fr_X1_add {p1 : Int32} {p2 : Int32} {p3 : Int32} {p4 : Int32} {m : fm_} {q : Int32 × fm_} (h : f_X1_add p1 p2 p3 p4 m = some q) : sa_ w_X1_add m q.2 :=
  (fq_if h (fun h1 => (fh_gd h1 fun g3 h2 => (fh_gd h2 fun g5 h4 => (fh_gd h4 fun g7 h6 => (fh_gd h6 fun g9 h8 => (fh_gd h8 fun g11 h10 => (fh_gd h10 fun g13 h12 => (fq_rt h12 (sa_si (wi_at 0 rfl (Or.inr rfl)) (sa_si (wi_at 6 rfl (Or.inl rfl)) (sa_si (wi_at 5 rfl (Or.inl rfl)) (sa_si (wi_at 4 rfl (Or.inl rfl)) (sa_si (wi_at 3 rfl (Or.inl rfl)) (sa_si (wi_at 2 rfl (Or.inl rfl)) (sa_si (wi_at 1 rfl (Or.inl rfl)) sa_rf))))))))))))))) (fun h1 => (fq_rt h1 sa_rf)))
def w_X1_addPapers : List (Nat × Nat × Nat) := [(72, 72, 8), (73, 73, 0), (74, 74, 0), (75, 75, 0), (76, 76, 0), (77, 77, 0), (78, 78, 0)]
set_option maxRecDepth 100000 in
theorem fr_X1_addPapers {p1 : Int32} {p2 : Int32} {p3 : Int32} {m : fm_} {q : Int32 × fm_} (h : f_X1_addPapers p1 p2 p3 m = some q) : sa_ w_X1_addPapers m q.2 :=
  (fh_bd h fun q1 e2 h3 => (fq_rt h3 (sa_t sa_rf (sa_ui [0, 1, 2, 3, 4, 5, 6] rfl (fr_X1_add e2)))))
def w_X1_addAppeal : List (Nat × Nat × Nat) := [(72, 72, 8), (73, 73, 0), (74, 74, 0), (75, 75, 0), (76, 76, 0), (77, 77, 0), (78, 78, 0)]
set_option maxRecDepth 100000 in
theorem fr_X1_addAppeal {p1 : Int32} {p2 : Int32} {m : fm_} {q : Int32 × fm_} (h : f_X1_addAppeal p1 p2 m = some q) : sa_ w_X1_addAppeal m q.2 :=
  (fh_bd h fun q1 e2 h3 => (fq_rt h3 (sa_t sa_rf (sa_ui [0, 1, 2, 3, 4, 5, 6] rfl (fr_X1_add e2)))))
def w_X11_isDay : List (Nat × Nat × Nat) := []
set_option maxRecDepth 100000 in
theorem fr_X11_isDay {p1 : Int32} {m : fm_} {q : Int32 × fm_} (h : f_X11_isDay p1 m = some q) : sa_ w_X11_isDay m q.2 :=
  (fq_if h (fun h1 => (fq_rt h1 sa_rf)) (fun h1 => (fq_if h1 (fun h2 => (fq_rt h2 sa_rf)) (fun h2 => (fq_rt h2 sa_rf)))))
def w_X1_hasRoomOn : List (Nat × Nat × Nat) := []
set_option maxRecDepth 100000 in
theorem fr_X1_hasRoomOn {p1 : Int32} {m : fm_} {q : Int32 × fm_} (h : f_X1_hasRoomOn p1 m = some q) : sa_ w_X1_hasRoomOn m q.2 :=
  (fh_bd h fun q1 e2 h3 => (fq_if h3 (fun h4 => (fq_rt h4 (sa_t sa_rf (sa_ui [] rfl (fr_X11_isDay e2))))) (fun h4 => (fh_gd h4 fun g6 h5 => (fq_if h5 (fun h7 => (fq_rt h7 (sa_t sa_rf (sa_ui [] rfl (fr_X11_isDay e2))))) (fun h7 => (fq_rt h7 (sa_t sa_rf (sa_ui [] rfl (fr_X11_isDay e2))))))))))
def w_X1_addReading : List (Nat × Nat × Nat) := [(72, 72, 8), (73, 73, 0), (74, 74, 0), (75, 75, 0), (76, 76, 0), (77, 77, 0), (78, 78, 0), (79, 79, 0), (80, 80, 0), (81, 81, 0)]
set_option maxRecDepth 100000 in
theorem fr_X1_addReading {p1 : Int32} {p2 : Int32} {p3 : Int32} {p4 : Int64} {m : fm_} {q : Int32 × fm_} (h : f_X1_addReading p1 p2 p3 p4 m = some q) : sa_ w_X1_addReading m q.2 :=
  (fh_bd h fun q1 e2 h3 => (fq_if h3 (fun h4 => (fq_rt h4 (sa_t sa_rf (sa_ui [0, 1, 2, 3, 4, 5, 6] rfl (fr_X1_add e2))))) (fun h4 => (fh_bd h4 fun q5 e6 h7 => (fq_if h7 (fun h8 => (fq_rt h8 (sa_t (sa_t sa_rf (sa_ui [0, 1, 2, 3, 4, 5, 6] rfl (fr_X1_add e2))) (sa_ui [] rfl (fr_X1_hasRoomOn e6))))) (fun h8 => (fh_gd h8 fun g10 h9 => (fh_gd h9 fun g12 h11 => (fh_gd h11 fun g14 h13 => (fh_gd h13 fun g16 h15 => (fh_gd h15 fun g18 h17 => (fq_rt h17 (sa_si (wi_at 9 rfl (Or.inl rfl)) (sa_si (wi_at 8 rfl (Or.inl rfl)) (sa_sl (wi_at 7 rfl (Or.inl rfl)) (sa_t (sa_t sa_rf (sa_ui [0, 1, 2, 3, 4, 5, 6] rfl (fr_X1_add e2))) (sa_ui [] rfl (fr_X1_hasRoomOn e6))))))))))))))))))
def w_X1_dropReadings : List (Nat × Nat × Nat) := [(73, 73, 0), (81, 81, 0)]
def PF_X1_dropReadings (s : S_X1_dropReadings) (q : Int32 × fm_) : Prop := match s with
  | (x1, m) => sa_ w_X1_dropReadings m q.2
theorem fl_X1_dropReadings (s : S_X1_dropReadings) (q : Int32 × fm_) (h : am_lp (st_X1_dropReadings) s = some q) : PF_X1_dropReadings s q :=
  am_lp_snd (P := PF_X1_dropReadings) (fun K hK s q h => match s, h with
    | (x1, m), h => (fr_if h (fun h1 => (fj_bd h1 fun q2 e3 h4 => (fr_rt h4 (sa_t sa_rf (sa_ui [1] rfl (fr_J7_fill_53178 e3)))))) (fun h1 => (fj_gd h1 fun g6 h5 => (fr_if h5 (fun h7 => (fj_gd h7 fun g9 h8 => (sa_t (sa_si (wi_at 0 rfl (Or.inl rfl)) sa_rf) (hK _ _ h8)))) (fun h7 => (sa_t sa_rf (hK _ _ h7)))))))) s q h
set_option maxRecDepth 100000 in
theorem fr_X1_dropReadings  {m : fm_} {q : Int32 × fm_} (h : f_X1_dropReadings  m = some q) : sa_ w_X1_dropReadings m q.2 :=
  (sa_t sa_rf (fl_X1_dropReadings _ _ h))
def w_X1_takeBack : List (Nat × Nat × Nat) := [(75, 75, 0)]
set_option maxRecDepth 100000 in
theorem fr_X1_takeBack {p1 : Int32} {m : fm_} {q : Int32 × fm_} (h : f_X1_takeBack p1 m = some q) : sa_ w_X1_takeBack m q.2 :=
  (fh_bd h fun q1 e2 h3 => (fq_if h3 (fun h4 => (fq_rt h4 (sa_t sa_rf (sa_ui [] rfl (fr_X11_isUnder e2))))) (fun h4 => (fh_gd h4 fun g6 h5 => (fq_if h5 (fun h7 => (fq_rt h7 (sa_t sa_rf (sa_ui [] rfl (fr_X11_isUnder e2))))) (fun h7 => (fh_gd h7 fun g9 h8 => (fq_if h8 (fun h10 => (fh_gd h10 fun g12 h11 => (fq_rt h11 (sa_si (wi_at 0 rfl (Or.inl rfl)) (sa_t sa_rf (sa_ui [] rfl (fr_X11_isUnder e2))))))) (fun h10 => (fq_rt h10 (sa_t sa_rf (sa_ui [] rfl (fr_X11_isUnder e2)))))))))))))
def w_X1_isReading : List (Nat × Nat × Nat) := []
set_option maxRecDepth 100000 in
theorem fr_X1_isReading {p1 : Int32} {m : fm_} {q : Int32 × fm_} (h : f_X1_isReading p1 m = some q) : sa_ w_X1_isReading m q.2 :=
  (fq_if h (fun h1 => (fq_rt h1 sa_rf)) (fun h1 => (fq_if h1 (fun h2 => (fq_rt h2 sa_rf)) (fun h2 => (fh_gd h2 fun g4 h3 => (fq_if h3 (fun h5 => (fq_rt h5 sa_rf)) (fun h5 => (fq_rt h5 sa_rf))))))))
def w_X1_counts : List (Nat × Nat × Nat) := []
set_option maxRecDepth 100000 in
theorem fr_X1_counts {p1 : Int32} {p2 : Int32} {m : fm_} {q : Int32 × fm_} (h : f_X1_counts p1 p2 m = some q) : sa_ w_X1_counts m q.2 :=
  (fh_bd h fun q1 e2 h3 => (fq_if h3 (fun h4 => (fq_rt h4 (sa_t sa_rf (sa_ui [] rfl (fr_X11_isUnder e2))))) (fun h4 => (fh_gd h4 fun g6 h5 => (fq_if h5 (fun h7 => (fq_rt h7 (sa_t sa_rf (sa_ui [] rfl (fr_X11_isUnder e2))))) (fun h7 => (fh_gd h7 fun g9 h8 => (fq_if h8 (fun h10 => (fq_rt h10 (sa_t sa_rf (sa_ui [] rfl (fr_X11_isUnder e2))))) (fun h10 => (fh_gd h10 fun g12 h11 => (fq_if h11 (fun h13 => (fq_rt h13 (sa_t sa_rf (sa_ui [] rfl (fr_X11_isUnder e2))))) (fun h13 => (fq_rt h13 (sa_t sa_rf (sa_ui [] rfl (fr_X11_isUnder e2))))))))))))))))
def w_X1_readingsOn : List (Nat × Nat × Nat) := []
set_option maxRecDepth 100000 in
theorem fr_X1_readingsOn {p1 : Int32} {m : fm_} {q : Int32 × fm_} (h : f_X1_readingsOn p1 m = some q) : sa_ w_X1_readingsOn m q.2 :=
  (fh_bd h fun q1 e2 h3 => (fq_if h3 (fun h4 => (fq_rt h4 (sa_t sa_rf (sa_ui [] rfl (fr_X11_isDay e2))))) (fun h4 => (fh_gd h4 fun g6 h5 => (fq_rt h5 (sa_t sa_rf (sa_ui [] rfl (fr_X11_isDay e2))))))))
def w_X1_readingOn : List (Nat × Nat × Nat) := []
set_option maxRecDepth 100000 in
theorem fr_X1_readingOn {p1 : Int32} {p2 : Int32} {m : fm_} {q : Int32 × fm_} (h : f_X1_readingOn p1 p2 m = some q) : sa_ w_X1_readingOn m q.2 :=
  (fh_bd h fun q1 e2 h3 => (fq_if h3 (fun h4 => (fq_rt h4 (sa_t sa_rf (sa_ui [] rfl (fr_X11_isDay e2))))) (fun h4 => (fq_if h4 (fun h5 => (fq_rt h5 (sa_t sa_rf (sa_ui [] rfl (fr_X11_isDay e2))))) (fun h5 => (fh_gd h5 fun g7 h6 => (fq_if h6 (fun h8 => (fq_rt h8 (sa_t sa_rf (sa_ui [] rfl (fr_X11_isDay e2))))) (fun h8 => (fh_gd h8 fun g10 h9 => (fq_rt h9 (sa_t sa_rf (sa_ui [] rfl (fr_X11_isDay e2)))))))))))))
def w_X1_papersOn : List (Nat × Nat × Nat) := []
def PF_X1_papersOn (s : S_X1_papersOn) (q : Int32 × fm_) : Prop := match s with
  | (x1, x2, x3, x4, x5, m) => sa_ w_X1_papersOn m q.2
theorem fl_X1_papersOn (s : S_X1_papersOn) (q : Int32 × fm_) (h : am_lp (st_X1_papersOn) s = some q) : PF_X1_papersOn s q :=
  am_lp_snd (P := PF_X1_papersOn) (fun K hK s q h => match s, h with
    | (x1, x2, x3, x4, x5, m), h => (fr_if h (fun h1 => (fr_if h1 (fun h2 => (fr_rt h2 sa_rf)) (fun h2 => (fj_gd h2 fun g4 h3 => (fr_rt h3 sa_rf))))) (fun h1 => (fj_gd h1 fun g6 h5 => (fr_if h5 (fun h7 => (fj_gd h7 fun g9 h8 => (fr_if h8 (fun h10 => (fj_gd h10 fun g12 h11 => (fr_if h11 (fun h13 => (sa_t sa_rf (hK _ _ h13))) (fun h13 => (fj_bd h13 fun q14 e15 h16 => (fr_if h16 (fun h17 => (sa_t (sa_t sa_rf (sa_ui [] rfl (fr_X1_counts e15))) (hK _ _ h17))) (fun h17 => (fr_if h17 (fun h18 => (sa_t (sa_t sa_rf (sa_ui [] rfl (fr_X1_counts e15))) (hK _ _ h18))) (fun h18 => (fj_gd h18 fun g20 h19 => (fj_gd h19 fun g22 h21 => (fr_if h21 (fun h23 => (sa_t (sa_t sa_rf (sa_ui [] rfl (fr_X1_counts e15))) (hK _ _ h23))) (fun h23 => (sa_t (sa_t sa_rf (sa_ui [] rfl (fr_X1_counts e15))) (hK _ _ h23))))))))))))))) (fun h10 => (sa_t sa_rf (hK _ _ h10)))))) (fun h7 => (sa_t sa_rf (hK _ _ h7)))))))) s q h
set_option maxRecDepth 100000 in
theorem fr_X1_papersOn {p1 : Int32} {p2 : Int32} {p3 : Int32} {m : fm_} {q : Int32 × fm_} (h : f_X1_papersOn p1 p2 p3 m = some q) : sa_ w_X1_papersOn m q.2 :=
  (sa_t sa_rf (fl_X1_papersOn _ _ h))
def w_X1_hasAppeal : List (Nat × Nat × Nat) := []
def PF_X1_hasAppeal (s : S_X1_hasAppeal) (q : Int32 × fm_) : Prop := match s with
  | (x1, x2, x3, x4, m) => sa_ w_X1_hasAppeal m q.2
theorem fl_X1_hasAppeal (s : S_X1_hasAppeal) (q : Int32 × fm_) (h : am_lp (st_X1_hasAppeal) s = some q) : PF_X1_hasAppeal s q :=
  am_lp_snd (P := PF_X1_hasAppeal) (fun K hK s q h => match s, h with
    | (x1, x2, x3, x4, m), h => (fr_if h (fun h1 => (fr_rt h1 sa_rf)) (fun h1 => (fj_gd h1 fun g3 h2 => (fr_if h2 (fun h4 => (fj_gd h4 fun g6 h5 => (fr_if h5 (fun h7 => (fj_gd h7 fun g9 h8 => (fr_if h8 (fun h10 => (fj_bd h10 fun q11 e12 h13 => (fr_if h13 (fun h14 => (sa_t (sa_t sa_rf (sa_ui [] rfl (fr_X1_counts e12))) (hK _ _ h14))) (fun h14 => (fr_rt h14 (sa_t sa_rf (sa_ui [] rfl (fr_X1_counts e12)))))))) (fun h10 => (sa_t sa_rf (hK _ _ h10)))))) (fun h7 => (sa_t sa_rf (hK _ _ h7)))))) (fun h4 => (sa_t sa_rf (hK _ _ h4)))))))) s q h
set_option maxRecDepth 100000 in
theorem fr_X1_hasAppeal {p1 : Int32} {p2 : Int32} {p3 : Int32} {m : fm_} {q : Int32 × fm_} (h : f_X1_hasAppeal p1 p2 p3 m = some q) : sa_ w_X1_hasAppeal m q.2 :=
  (sa_t sa_rf (fl_X1_hasAppeal _ _ h))
def w_X6_forget : List (Nat × Nat × Nat) := [(82, 82, 4)]
set_option maxRecDepth 100000 in
theorem fr_X6_forget  {m : fm_} {q : Int32 × fm_} (h : f_X6_forget  m = some q) : sa_ w_X6_forget m q.2 :=
  (fq_rt h (sa_si (wi_at 0 rfl (Or.inr rfl)) sa_rf))
def w_X6_gather : List (Nat × Nat × Nat) := [(82, 82, 10), (87, 87, 0)]
def PF_X6_gather (s : S_X6_gather) (q : Int32 × fm_) : Prop := match s with
  | (x1, x2, x3, m) => sa_ w_X6_gather m q.2
theorem fl_X6_gather (s : S_X6_gather) (q : Int32 × fm_) (h : am_lp (st_X6_gather) s = some q) : PF_X6_gather s q :=
  am_lp_snd (P := PF_X6_gather) (fun K hK s q h => match s, h with
    | (x1, x2, x3, m), h => (fj_bd h fun q1 e2 h3 => (fr_if h3 (fun h4 => (fr_rt h4 (sa_t sa_rf (sa_ui [] rfl (fr_X1_readingsOn e2))))) (fun h4 => (fj_bd h4 fun q5 e6 h7 => (fj_bd h7 fun q8 e9 h10 => (fr_if h10 (fun h11 => (sa_t (sa_t (sa_t (sa_t sa_rf (sa_ui [] rfl (fr_X1_readingsOn e2))) (sa_ui [] rfl (fr_X1_readingOn e6))) (sa_ui [] rfl (fr_X1_counts e9))) (hK _ _ h11))) (fun h11 => (fr_if h11 (fun h12 => (sa_t (sa_t (sa_t (sa_t sa_rf (sa_ui [] rfl (fr_X1_readingsOn e2))) (sa_ui [] rfl (fr_X1_readingOn e6))) (sa_ui [] rfl (fr_X1_counts e9))) (hK _ _ h12))) (fun h12 => (fj_gd h12 fun g14 h13 => (sa_t (sa_si (wi_at 0 rfl (Or.inr rfl)) (sa_si (wi_at 1 rfl (Or.inl rfl)) (sa_t (sa_t (sa_t sa_rf (sa_ui [] rfl (fr_X1_readingsOn e2))) (sa_ui [] rfl (fr_X1_readingOn e6))) (sa_ui [] rfl (fr_X1_counts e9))))) (hK _ _ h13))))))))))))) s q h
set_option maxRecDepth 100000 in
theorem fr_X6_gather {p1 : Int32} {p2 : Int32} {m : fm_} {q : Int32 × fm_} (h : f_X6_gather p1 p2 m = some q) : sa_ w_X6_gather m q.2 :=
  (sa_t (sa_si (wi_at 0 rfl (Or.inr rfl)) sa_rf) (fl_X6_gather _ _ h))
def w_X6_minuteOf : List (Nat × Nat × Nat) := []
set_option maxRecDepth 100000 in
theorem fr_X6_minuteOf {p1 : Int32} {m : fm_} {q : Int32 × fm_} (h : f_X6_minuteOf p1 m = some q) : sa_ w_X6_minuteOf m q.2 :=
  (fh_gd h fun g2 h1 => (fq_rt h1 sa_rf))
def w_X6_pointOf : List (Nat × Nat × Nat) := []
set_option maxRecDepth 100000 in
theorem fr_X6_pointOf {p1 : Int32} {m : fm_} {q : Int32 × fm_} (h : f_X6_pointOf p1 m = some q) : sa_ w_X6_pointOf m q.2 :=
  (fh_bd h fun q1 e2 h3 => (fq_if h3 (fun h4 => (fq_rt h4 (sa_t sa_rf (sa_ui [] rfl (fr_X1_isReading e2))))) (fun h4 => (fh_gd h4 fun g6 h5 => (fh_bd h5 fun q7 e8 h9 => (fq_rt h9 (sa_t (sa_t sa_rf (sa_ui [] rfl (fr_X1_isReading e2))) (sa_ui [] rfl (fr_X9_pointOf e8)))))))))
def w_X6_canBeOne : List (Nat × Nat × Nat) := []
set_option maxRecDepth 100000 in
theorem fr_X6_canBeOne {p1 : Int32} {p2 : Int32} {m : fm_} {q : Int32 × fm_} (h : f_X6_canBeOne p1 p2 m = some q) : sa_ w_X6_canBeOne m q.2 :=
  (fh_bd h fun q1 e2 h3 => (fh_bd h3 fun q4 e5 h6 => (fh_bd h6 fun q7 e8 h9 => (fh_bd h9 fun q10 e11 h12 => (fh_bd h12 fun q13 e14 h15 => (fq_if h15 (fun h16 => (fq_rt h16 (sa_t (sa_t (sa_t (sa_t (sa_t sa_rf (sa_ui [] rfl (fr_X6_minuteOf e2))) (sa_ui [] rfl (fr_X6_minuteOf e5))) (sa_ui [] rfl (fr_X6_pointOf e8))) (sa_ui [] rfl (fr_X6_pointOf e11))) (sa_ui [] rfl (fr_X9_near e14))))) (fun h16 => (fq_rt h16 (sa_t (sa_t (sa_t (sa_t (sa_t sa_rf (sa_ui [] rfl (fr_X6_minuteOf e2))) (sa_ui [] rfl (fr_X6_minuteOf e5))) (sa_ui [] rfl (fr_X6_pointOf e8))) (sa_ui [] rfl (fr_X6_pointOf e11))) (sa_ui [] rfl (fr_X9_near e14)))))))))))
def w_X6_markSetsByOne : List (Nat × Nat × Nat) := [(89, 89, 0)]
def PF_X6_markSetsByOne (s : S_X6_markSetsByOne) (q : Int32 × fm_) : Prop := match s with
  | Sum.inl ((x1, m)) => sa_ w_X6_markSetsByOne m q.2
  | Sum.inr ((x1, x2, x3, x4, x5, m)) => sa_ w_X6_markSetsByOne m q.2
theorem fl_X6_markSetsByOne (s : S_X6_markSetsByOne) (q : Int32 × fm_) (h : am_lp (st_X6_markSetsByOne) s = some q) : PF_X6_markSetsByOne s q :=
  am_lp_snd (P := PF_X6_markSetsByOne) (fun K hK s q h => match s, h with
    | Sum.inl ((x1, m)), h => (fr_if h (fun h1 => (fr_rt h1 sa_rf)) (fun h1 => (fj_bd h1 fun q2 e3 h4 => (fj_gd h4 fun g6 h5 => (sa_t (sa_t sa_rf (sa_ui [] rfl (fr_J6_numberOfTrailingZeros_0f7a4 e3))) (hK _ _ h5))))))
    | Sum.inr ((x1, x2, x3, x4, x5, m)), h => (fr_if h (fun h1 => (fj_gd h1 fun g3 h2 => (fj_gd h2 fun g5 h4 => (sa_t (sa_si (wi_at 0 rfl (Or.inl rfl)) sa_rf) (hK _ _ h4))))) (fun h1 => (fr_if h1 (fun h6 => (fj_gd h6 fun g8 h7 => (fj_gd h7 fun g10 h9 => (sa_t (sa_si (wi_at 0 rfl (Or.inl rfl)) sa_rf) (hK _ _ h9))))) (fun h6 => (fr_if h6 (fun h11 => (sa_t sa_rf (hK _ _ h11))) (fun h11 => (fj_gd h11 fun g13 h12 => (fj_gd h12 fun g15 h14 => (fj_bd h14 fun q16 e17 h18 => (fr_if h18 (fun h19 => (sa_t (sa_t sa_rf (sa_ui [] rfl (fr_X6_canBeOne e17))) (hK _ _ h19))) (fun h19 => (sa_t (sa_t sa_rf (sa_ui [] rfl (fr_X6_canBeOne e17))) (hK _ _ h19)))))))))))))) s q h
set_option maxRecDepth 100000 in
theorem fr_X6_markSetsByOne  {m : fm_} {q : Int32 × fm_} (h : f_X6_markSetsByOne  m = some q) : sa_ w_X6_markSetsByOne m q.2 :=
  (fh_gd h fun g2 h1 => (sa_t (sa_si (wi_at 0 rfl (Or.inl rfl)) sa_rf) (fl_X6_markSetsByOne _ _ h1)))
def w_X6_share : List (Nat × Nat × Nat) := []
set_option maxRecDepth 100000 in
theorem fr_X6_share {p1 : Int32} {p2 : Int32} {p3 : Int32} {m : fm_} {q : Int32 × fm_} (h : f_X6_share p1 p2 p3 m = some q) : sa_ w_X6_share m q.2 :=
  (fh_gd h fun g2 h1 => (fq_rt h1 sa_rf))
def w_X6_giveAllToNobody : List (Nat × Nat × Nat) := [(90, 90, 0)]
def PF_X6_giveAllToNobody (s : S_X6_giveAllToNobody) (q : Int32 × fm_) : Prop := match s with
  | (x1, m) => sa_ w_X6_giveAllToNobody m q.2
theorem fl_X6_giveAllToNobody (s : S_X6_giveAllToNobody) (q : Int32 × fm_) (h : am_lp (st_X6_giveAllToNobody) s = some q) : PF_X6_giveAllToNobody s q :=
  am_lp_snd (P := PF_X6_giveAllToNobody) (fun K hK s q h => match s, h with
    | (x1, m), h => (fr_if h (fun h1 => (fr_rt h1 sa_rf)) (fun h1 => (fj_bd h1 fun q2 e3 h4 => (fj_gd h4 fun g6 h5 => (fj_bd h5 fun q7 e8 h9 => (fj_gd h9 fun g11 h10 => (sa_t (sa_si (wi_at 0 rfl (Or.inl rfl)) (sa_t (sa_t sa_rf (sa_ui [] rfl (fr_J6_numberOfTrailingZeros_0f7a4 e3))) (sa_ui [] rfl (fr_X6_share e8)))) (hK _ _ h10))))))))) s q h
set_option maxRecDepth 100000 in
theorem fr_X6_giveAllToNobody  {m : fm_} {q : Int32 × fm_} (h : f_X6_giveAllToNobody  m = some q) : sa_ w_X6_giveAllToNobody m q.2 :=
  (fh_gd h fun g2 h1 => (sa_t (sa_si (wi_at 0 rfl (Or.inl rfl)) sa_rf) (fl_X6_giveAllToNobody _ _ h1)))
def w_X6_shareOut : List (Nat × Nat × Nat) := [(88, 88, 0), (91, 91, 0)]
def PF_X6_shareOut (s : S_X6_shareOut) (q : Int32 × fm_) : Prop := match s with
  | Sum.inl ((x1, x2, x3, m)) => sa_ w_X6_shareOut m q.2
  | Sum.inr ((x1, x2, x3, m)) => sa_ w_X6_shareOut m q.2
theorem fl_X6_shareOut (s : S_X6_shareOut) (q : Int32 × fm_) (h : am_lp (st_X6_shareOut) s = some q) : PF_X6_shareOut s q :=
  am_lp_snd (P := PF_X6_shareOut) (fun K hK s q h => match s, h with
    | Sum.inl ((x1, x2, x3, m)), h => (fr_if h (fun h1 => (fj_gd h1 fun g3 h2 => (sa_t (sa_si (wi_at 1 rfl (Or.inl rfl)) sa_rf) (hK _ _ h2)))) (fun h1 => (fj_gd h1 fun g5 h4 => (fj_gd h4 fun g7 h6 => (fj_gd h6 fun g9 h8 => (fj_bd h8 fun q10 e11 h12 => (fr_if h12 (fun h13 => (sa_t (sa_t sa_rf (sa_ui [] rfl (fr_X7_likeness e11))) (hK _ _ h13))) (fun h13 => (fj_bd h13 fun q14 e15 h16 => (fj_gd h16 fun g18 h17 => (sa_t (sa_si (wi_at 0 rfl (Or.inl rfl)) (sa_t (sa_t sa_rf (sa_ui [] rfl (fr_X7_likeness e11))) (sa_ui [] rfl (fr_X6_share e15)))) (hK _ _ h17))))))))))))
    | Sum.inr ((x1, x2, x3, m)), h => (fr_if h (fun h1 => (fr_rt h1 sa_rf)) (fun h1 => (fr_if h1 (fun h2 => (fj_bd h2 fun q3 e4 h5 => (fj_gd h5 fun g7 h6 => (fj_gd h6 fun g9 h8 => (fj_gd h8 fun g11 h10 => (sa_t (sa_si (wi_at 1 rfl (Or.inl rfl)) (sa_t sa_rf (sa_ui [] rfl (fr_J6_numberOfTrailingZeros_0f7a4 e4)))) (hK _ _ h10))))))) (fun h2 => (sa_t sa_rf (hK _ _ h2))))))) s q h
set_option maxRecDepth 100000 in
theorem fr_X6_shareOut {p1 : Int32} {m : fm_} {q : Int32 × fm_} (h : f_X6_shareOut p1 m = some q) : sa_ w_X6_shareOut m q.2 :=
  (sa_t sa_rf (fl_X6_shareOut _ _ h))
def w_X6_offer : List (Nat × Nat × Nat) := [(88, 88, 0), (90, 90, 0), (91, 91, 0)]
def PF_X6_offer (s : S_X6_offer) (q : Int32 × fm_) : Prop := match s with
  | Sum.inl ((x1, x2, x3, m)) => sa_ w_X6_offer m q.2
  | Sum.inr ((x1, x2, x3, x4, x5, m)) => sa_ w_X6_offer m q.2
theorem fl_X6_offer (s : S_X6_offer) (q : Int32 × fm_) (h : am_lp (st_X6_offer) s = some q) : PF_X6_offer s q :=
  am_lp_snd (P := PF_X6_offer) (fun K hK s q h => match s, h with
    | Sum.inl ((x1, x2, x3, m)), h => (fr_if h (fun h1 => (fr_rt h1 sa_rf)) (fun h1 => (fj_gd h1 fun g3 h2 => (sa_t sa_rf (hK _ _ h2)))))
    | Sum.inr ((x1, x2, x3, x4, x5, m)), h => (fr_if h (fun h1 => (fj_gd h1 fun g3 h2 => (sa_t (sa_si (wi_at 1 rfl (Or.inl rfl)) sa_rf) (hK _ _ h2)))) (fun h1 => (fj_gd h1 fun g5 h4 => (fr_if h4 (fun h6 => (sa_t sa_rf (hK _ _ h6))) (fun h6 => (fj_gd h6 fun g8 h7 => (fj_gd h7 fun g10 h9 => (sa_t sa_rf (hK _ _ h9)))))))))) s q h
set_option maxRecDepth 100000 in
theorem fr_X6_offer {p1 : Int32} {m : fm_} {q : Int32 × fm_} (h : f_X6_offer p1 m = some q) : sa_ w_X6_offer m q.2 :=
  (fh_bd h fun q1 e2 h3 => (fq_if h3 (fun h4 => (fq_rt h4 (sa_t sa_rf (sa_ui [0, 2] rfl (fr_X6_shareOut e2))))) (fun h4 => (sa_t (sa_t sa_rf (sa_ui [0, 2] rfl (fr_X6_shareOut e2))) (fl_X6_offer _ _ h4)))))
def w_X6_settle : List (Nat × Nat × Nat) := [(85, 85, 0), (86, 86, 0)]
def PF_X6_settle (s : S_X6_settle) (q : Int32 × fm_) : Prop := match s with
  | Sum.inl ((x1, x2, x3, x4, m)) => sa_ w_X6_settle m q.2
  | Sum.inr ((x1, x2, x3, x4, m)) => sa_ w_X6_settle m q.2
theorem fl_X6_settle (s : S_X6_settle) (q : Int32 × fm_) (h : am_lp (st_X6_settle) s = some q) : PF_X6_settle s q :=
  am_lp_snd (P := PF_X6_settle) (fun K hK s q h => match s, h with
    | Sum.inl ((x1, x2, x3, x4, m)), h => (fj_bd h fun q1 e2 h3 => (fr_if h3 (fun h4 => (sa_t (sa_t sa_rf (sa_ui [] rfl (fr_X1_readingsOn e2))) (hK _ _ h4))) (fun h4 => (fj_bd h4 fun q5 e6 h7 => (fj_gd h7 fun g9 h8 => (sa_t (sa_si (wi_at 1 rfl (Or.inl rfl)) (sa_t (sa_t sa_rf (sa_ui [] rfl (fr_X1_readingsOn e2))) (sa_ui [] rfl (fr_X1_readingOn e6)))) (hK _ _ h8)))))))
    | Sum.inr ((x1, x2, x3, x4, m)), h => (fr_if h (fun h1 => (fr_rt h1 sa_rf)) (fun h1 => (fj_gd h1 fun g3 h2 => (fr_if h2 (fun h4 => (fj_gd h4 fun g8 h7 => (sa_t (sa_si (wi_at 1 rfl (Or.inl rfl)) sa_rf) (hK _ _ h7)))) (fun h4 => (fj_gd h4 fun g6 h5 => (sa_t (sa_si (wi_at 1 rfl (Or.inl rfl)) sa_rf) (hK _ _ h5))))))))) s q h
set_option maxRecDepth 100000 in
theorem fr_X6_settle {p1 : Int32} {m : fm_} {q : Int32 × fm_} (h : f_X6_settle p1 m = some q) : sa_ w_X6_settle m q.2 :=
  (fh_gd h fun g2 h1 => (fh_gd h1 fun g4 h3 => (sa_t (sa_si (wi_at 0 rfl (Or.inl rfl)) sa_rf) (fl_X6_settle _ _ h3))))
def w_X6_choose : List (Nat × Nat × Nat) := [(82, 82, 10), (83, 83, 0), (84, 84, 0), (85, 85, 0), (86, 86, 0), (87, 87, 0), (88, 88, 0), (89, 89, 0), (90, 90, 0), (91, 91, 0)]
def PF_X6_choose (s : S_X6_choose) (q : Int32 × fm_) : Prop := match s with
  | (x1, x2, x3, m) => sa_ w_X6_choose m q.2
theorem fl_X6_choose (s : S_X6_choose) (q : Int32 × fm_) (h : am_lp (st_X6_choose) s = some q) : PF_X6_choose s q :=
  am_lp_snd (P := PF_X6_choose) (fun K hK s q h => match s, h with
    | (x1, x2, x3, m), h => (fr_if h (fun h1 => (fj_bd h1 fun q2 e3 h4 => (fr_rt h4 (sa_t sa_rf (sa_ui [3, 4] rfl (fr_X6_settle e3)))))) (fun h1 => (fj_bd h1 fun q5 e6 h7 => (sa_t (sa_t sa_rf (sa_ui [6, 8, 9] rfl (fr_X6_offer e6))) (hK _ _ h7)))))) s q h
set_option maxRecDepth 100000 in
theorem fr_X6_choose {p1 : Int32} {p2 : Int32} {m : fm_} {q : Int32 × fm_} (h : f_X6_choose p1 p2 m = some q) : sa_ w_X6_choose m q.2 :=
  (fh_bd h fun q1 e2 h3 => (fq_if h3 (fun h4 => (fq_rt h4 (sa_t sa_rf (sa_ui [] rfl (fr_X11_isDay e2))))) (fun h4 => (fh_gd h4 fun g6 h5 => (fq_if h5 (fun h7 => (fh_gd h7 fun g22 h21 => (fq_if h21 (fun h23 => (fq_rt h23 (sa_t sa_rf (sa_ui [] rfl (fr_X11_isDay e2))))) (fun h23 => (fh_gd h23 fun g25 h24 => (fh_gd h24 fun g27 h26 => (fh_bd h26 fun q28 e29 h30 => (fh_bd h30 fun q31 e32 h33 => (fh_bd h33 fun q34 e35 h36 => (sa_t (sa_t (sa_t (sa_t (sa_si (wi_at 2 rfl (Or.inl rfl)) (sa_si (wi_at 1 rfl (Or.inl rfl)) (sa_t sa_rf (sa_ui [] rfl (fr_X11_isDay e2))))) (sa_ui [0, 5] rfl (fr_X6_gather e29))) (sa_ui [7] rfl (fr_X6_markSetsByOne e32))) (sa_ui [8] rfl (fr_X6_giveAllToNobody e35))) (fl_X6_choose _ _ h36))))))))))) (fun h7 => (fh_gd h7 fun g9 h8 => (fh_gd h8 fun g11 h10 => (fh_bd h10 fun q12 e13 h14 => (fh_bd h14 fun q15 e16 h17 => (fh_bd h17 fun q18 e19 h20 => (sa_t (sa_t (sa_t (sa_t (sa_si (wi_at 2 rfl (Or.inl rfl)) (sa_si (wi_at 1 rfl (Or.inl rfl)) (sa_t sa_rf (sa_ui [] rfl (fr_X11_isDay e2))))) (sa_ui [0, 5] rfl (fr_X6_gather e13))) (sa_ui [7] rfl (fr_X6_markSetsByOne e16))) (sa_ui [8] rfl (fr_X6_giveAllToNobody e19))) (fl_X6_choose _ _ h20)))))))))))))
def w_X6_chooseUpTo : List (Nat × Nat × Nat) := [(82, 82, 10), (83, 83, 0), (84, 84, 0), (85, 85, 0), (86, 86, 0), (87, 87, 0), (88, 88, 0), (89, 89, 0), (90, 90, 0), (91, 91, 0)]
def PF_X6_chooseUpTo (s : S_X6_chooseUpTo) (q : Int32 × fm_) : Prop := match s with
  | (x1, x2, x3, m) => sa_ w_X6_chooseUpTo m q.2
theorem fl_X6_chooseUpTo (s : S_X6_chooseUpTo) (q : Int32 × fm_) (h : am_lp (st_X6_chooseUpTo) s = some q) : PF_X6_chooseUpTo s q :=
  am_lp_snd (P := PF_X6_chooseUpTo) (fun K hK s q h => match s, h with
    | (x1, x2, x3, m), h => (fr_if h (fun h1 => (fr_rt h1 sa_rf)) (fun h1 => (fr_if h1 (fun h2 => (fr_rt h2 sa_rf)) (fun h2 => (fj_bd h2 fun q3 e4 h5 => (sa_t (sa_t sa_rf (sa_ui [0, 1, 2, 3, 4, 5, 6, 7, 8, 9] rfl (fr_X6_choose e4))) (hK _ _ h5)))))))) s q h
set_option maxRecDepth 100000 in
theorem fr_X6_chooseUpTo {p1 : Int32} {p2 : Int32} {m : fm_} {q : Int32 × fm_} (h : f_X6_chooseUpTo p1 p2 m = some q) : sa_ w_X6_chooseUpTo m q.2 :=
  (sa_t sa_rf (fl_X6_chooseUpTo _ _ h))
def w_X6_chosenOwner : List (Nat × Nat × Nat) := []
set_option maxRecDepth 100000 in
theorem fr_X6_chosenOwner {p1 : Int32} {m : fm_} {q : Int32 × fm_} (h : f_X6_chosenOwner p1 m = some q) : sa_ w_X6_chosenOwner m q.2 :=
  (fh_bd h fun q1 e2 h3 => (fq_if h3 (fun h4 => (fq_rt h4 (sa_t sa_rf (sa_ui [] rfl (fr_X1_isReading e2))))) (fun h4 => (fh_gd h4 fun g6 h5 => (fq_rt h5 (sa_t sa_rf (sa_ui [] rfl (fr_X1_isReading e2))))))))
def w_X6_priceOf : List (Nat × Nat × Nat) := [(82, 82, 10), (83, 83, 0), (84, 84, 0), (85, 85, 0), (86, 86, 0), (87, 87, 0), (88, 88, 0), (89, 89, 0), (90, 90, 0), (91, 91, 0)]
set_option maxRecDepth 100000 in
theorem fr_X6_priceOf {p1 : Int32} {p2 : Int32} {m : fm_} {q : Int32 × fm_} (h : f_X6_priceOf p1 p2 m = some q) : sa_ w_X6_priceOf m q.2 :=
  (fh_bd h fun q1 e2 h3 => (fh_bd h3 fun q4 e5 h6 => (fq_if h6 (fun h7 => (fq_rt h7 (sa_t (sa_t sa_rf (sa_ui [0, 1, 2, 3, 4, 5, 6, 7, 8, 9] rfl (fr_X6_choose e2))) (sa_ui [] rfl (fr_X11_isDay e5))))) (fun h7 => (fh_gd h7 fun g9 h8 => (fq_rt h8 (sa_t (sa_t sa_rf (sa_ui [0, 1, 2, 3, 4, 5, 6, 7, 8, 9] rfl (fr_X6_choose e2))) (sa_ui [] rfl (fr_X11_isDay e5)))))))))
def w_X6_isExactly : List (Nat × Nat × Nat) := []
set_option maxRecDepth 100000 in
theorem fr_X6_isExactly {p1 : Int32} {p2 : Int32} {m : fm_} {q : Int32 × fm_} (h : f_X6_isExactly p1 p2 m = some q) : sa_ w_X6_isExactly m q.2 :=
  (fh_gd h fun g2 h1 => (fh_gd h1 fun g4 h3 => (fh_bd h3 fun q5 e6 h7 => (fq_if h7 (fun h8 => (fq_rt h8 (sa_t sa_rf (sa_ui [] rfl (fr_X7_likeness e6))))) (fun h8 => (fq_rt h8 (sa_t sa_rf (sa_ui [] rfl (fr_X7_likeness e6)))))))))
def w_X6_twoBear : List (Nat × Nat × Nat) := [(82, 82, 10), (87, 87, 0)]
def PF_X6_twoBear (s : S_X6_twoBear) (q : Int32 × fm_) : Prop := match s with
  | Sum.inl ((x1, x2, x3, x4, m)) => sa_ w_X6_twoBear m q.2
  | Sum.inr ((x1, x2, x3, x4, x5, m)) => sa_ w_X6_twoBear m q.2
theorem fl_X6_twoBear (s : S_X6_twoBear) (q : Int32 × fm_) (h : am_lp (st_X6_twoBear) s = some q) : PF_X6_twoBear s q :=
  am_lp_snd (P := PF_X6_twoBear) (fun K hK s q h => match s, h with
    | Sum.inl ((x1, x2, x3, x4, m)), h => (fr_if h (fun h1 => (fr_rt h1 sa_rf)) (fun h1 => (sa_t sa_rf (hK _ _ h1))))
    | Sum.inr ((x1, x2, x3, x4, x5, m)), h => (fr_if h (fun h1 => (sa_t sa_rf (hK _ _ h1))) (fun h1 => (fj_gd h1 fun g3 h2 => (fj_bd h2 fun q4 e5 h6 => (fr_if h6 (fun h7 => (sa_t (sa_t sa_rf (sa_ui [] rfl (fr_X6_isExactly e5))) (hK _ _ h7))) (fun h7 => (fj_gd h7 fun g9 h8 => (fj_bd h8 fun q10 e11 h12 => (fr_if h12 (fun h13 => (sa_t (sa_t (sa_t sa_rf (sa_ui [] rfl (fr_X6_isExactly e5))) (sa_ui [] rfl (fr_X6_isExactly e11))) (hK _ _ h13))) (fun h13 => (fj_gd h13 fun g15 h14 => (fj_gd h14 fun g17 h16 => (fj_bd h16 fun q18 e19 h20 => (fr_if h20 (fun h21 => (fr_rt h21 (sa_t (sa_t (sa_t sa_rf (sa_ui [] rfl (fr_X6_isExactly e5))) (sa_ui [] rfl (fr_X6_isExactly e11))) (sa_ui [] rfl (fr_X6_canBeOne e19))))) (fun h21 => (sa_t (sa_t (sa_t (sa_t sa_rf (sa_ui [] rfl (fr_X6_isExactly e5))) (sa_ui [] rfl (fr_X6_isExactly e11))) (sa_ui [] rfl (fr_X6_canBeOne e19))) (hK _ _ h21)))))))))))))))))) s q h
set_option maxRecDepth 100000 in
theorem fr_X6_twoBear {p1 : Int32} {p2 : Int32} {p3 : Int32} {m : fm_} {q : Int32 × fm_} (h : f_X6_twoBear p1 p2 p3 m = some q) : sa_ w_X6_twoBear m q.2 :=
  (fh_bd h fun q1 e2 h3 => (sa_t (sa_t sa_rf (sa_ui [0, 1] rfl (fr_X6_gather e2))) (fl_X6_twoBear _ _ h3)))
def w_X6_gatherOf : List (Nat × Nat × Nat) := [(82, 82, 10), (87, 87, 0)]
def PF_X6_gatherOf (s : S_X6_gatherOf) (q : Int32 × fm_) : Prop := match s with
  | Sum.inl ((x1, x2, x3, m)) => sa_ w_X6_gatherOf m q.2
  | Sum.inr ((x1, x2, x3, x4, x5, m)) => sa_ w_X6_gatherOf m q.2
theorem fl_X6_gatherOf (s : S_X6_gatherOf) (q : Int32 × fm_) (h : am_lp (st_X6_gatherOf) s = some q) : PF_X6_gatherOf s q :=
  am_lp_snd (P := PF_X6_gatherOf) (fun K hK s q h => match s, h with
    | Sum.inl ((x1, x2, x3, m)), h => (fj_bd h fun q1 e2 h3 => (fr_if h3 (fun h4 => (fr_rt h4 (sa_t sa_rf (sa_ui [] rfl (fr_X1_readingsOn e2))))) (fun h4 => (fj_bd h4 fun q5 e6 h7 => (fj_bd h7 fun q8 e9 h10 => (fr_if h10 (fun h11 => (fr_if h11 (fun h12 => (sa_t (sa_t (sa_t (sa_t sa_rf (sa_ui [] rfl (fr_X1_readingsOn e2))) (sa_ui [] rfl (fr_X1_readingOn e6))) (sa_ui [] rfl (fr_X6_chosenOwner e9))) (hK _ _ h12))) (fun h12 => (sa_t (sa_t (sa_t (sa_t sa_rf (sa_ui [] rfl (fr_X1_readingsOn e2))) (sa_ui [] rfl (fr_X1_readingOn e6))) (sa_ui [] rfl (fr_X6_chosenOwner e9))) (hK _ _ h12))))) (fun h11 => (sa_t (sa_t (sa_t (sa_t sa_rf (sa_ui [] rfl (fr_X1_readingsOn e2))) (sa_ui [] rfl (fr_X1_readingOn e6))) (sa_ui [] rfl (fr_X6_chosenOwner e9))) (hK _ _ h11)))))))))
    | Sum.inr ((x1, x2, x3, x4, x5, m)), h => (fr_if h (fun h1 => (fj_gd h1 fun g3 h2 => (sa_t (sa_si (wi_at 0 rfl (Or.inr rfl)) (sa_si (wi_at 1 rfl (Or.inl rfl)) sa_rf)) (hK _ _ h2)))) (fun h1 => (fj_gd h1 fun g5 h4 => (fj_bd h4 fun q6 e7 h8 => (fj_bd h8 fun q9 e10 h11 => (fr_if h11 (fun h12 => (fj_gd h12 fun g14 h13 => (sa_t (sa_si (wi_at 0 rfl (Or.inr rfl)) (sa_si (wi_at 1 rfl (Or.inl rfl)) (sa_t (sa_t sa_rf (sa_ui [] rfl (fr_X6_minuteOf e7))) (sa_ui [] rfl (fr_X6_minuteOf e10))))) (hK _ _ h13)))) (fun h12 => (fj_gd h12 fun g16 h15 => (fj_gd h15 fun g18 h17 => (sa_t (sa_si (wi_at 1 rfl (Or.inl rfl)) (sa_t (sa_t sa_rf (sa_ui [] rfl (fr_X6_minuteOf e7))) (sa_ui [] rfl (fr_X6_minuteOf e10)))) (hK _ _ h17)))))))))))) s q h
set_option maxRecDepth 100000 in
theorem fr_X6_gatherOf {p1 : Int32} {p2 : Int32} {m : fm_} {q : Int32 × fm_} (h : f_X6_gatherOf p1 p2 m = some q) : sa_ w_X6_gatherOf m q.2 :=
  (sa_t (sa_si (wi_at 0 rfl (Or.inr rfl)) sa_rf) (fl_X6_gatherOf _ _ h))
def w_X6_isInZone : List (Nat × Nat × Nat) := []
set_option maxRecDepth 100000 in
theorem fr_X6_isInZone {p1 : Int32} {m : fm_} {q : Int32 × fm_} (h : f_X6_isInZone p1 m = some q) : sa_ w_X6_isInZone m q.2 :=
  (fh_bd h fun q1 e2 h3 => (fq_if h3 (fun h4 => (fq_rt h4 (sa_t sa_rf (sa_ui [] rfl (fr_X6_pointOf e2))))) (fun h4 => (fh_bd h4 fun q5 e6 h7 => (fq_if h7 (fun h8 => (fq_rt h8 (sa_t (sa_t sa_rf (sa_ui [] rfl (fr_X6_pointOf e2))) (sa_ui [] rfl (fr_X9_isZone e6))))) (fun h8 => (fq_rt h8 (sa_t (sa_t sa_rf (sa_ui [] rfl (fr_X6_pointOf e2))) (sa_ui [] rfl (fr_X9_isZone e6))))))))))
def w_X6_stayBetween : List (Nat × Nat × Nat) := []
set_option maxRecDepth 100000 in
theorem fr_X6_stayBetween {p1 : Int32} {p2 : Int32} {p3 : Int32} {m : fm_} {q : Int32 × fm_} (h : f_X6_stayBetween p1 p2 p3 m = some q) : sa_ w_X6_stayBetween m q.2 :=
  (fh_bd h fun q1 e2 h3 => (fh_bd h3 fun q4 e5 h6 => (fh_bd h6 fun q7 e8 h9 => (fh_bd h9 fun q10 e11 h12 => (fh_bd h12 fun q13 e14 h15 => (fq_if h15 (fun h16 => (fq_if h16 (fun h17 => (fq_rt h17 (sa_t (sa_t (sa_t (sa_t (sa_t sa_rf (sa_ui [] rfl (fr_X6_minuteOf e2))) (sa_ui [] rfl (fr_X6_minuteOf e5))) (sa_ui [] rfl (fr_X6_pointOf e8))) (sa_ui [] rfl (fr_X6_pointOf e11))) (sa_ui [] rfl (fr_X6_isInZone e14))))) (fun h17 => (fh_bd h17 fun q18 e19 h20 => (fq_if h20 (fun h21 => (fh_bd h21 fun q22 e23 h24 => (fq_if h24 (fun h25 => (fh_bd h25 fun q26 e27 h28 => (fq_rt h28 (sa_t (sa_t (sa_t (sa_t (sa_t (sa_t (sa_t (sa_t sa_rf (sa_ui [] rfl (fr_X6_minuteOf e2))) (sa_ui [] rfl (fr_X6_minuteOf e5))) (sa_ui [] rfl (fr_X6_pointOf e8))) (sa_ui [] rfl (fr_X6_pointOf e11))) (sa_ui [] rfl (fr_X6_isInZone e14))) (sa_ui [] rfl (fr_X6_isInZone e19))) (sa_ui [] rfl (fr_X6_isInZone e23))) (sa_ui [] rfl (fr_X9_byZone e27)))))) (fun h25 => (fq_rt h25 (sa_t (sa_t (sa_t (sa_t (sa_t (sa_t (sa_t sa_rf (sa_ui [] rfl (fr_X6_minuteOf e2))) (sa_ui [] rfl (fr_X6_minuteOf e5))) (sa_ui [] rfl (fr_X6_pointOf e8))) (sa_ui [] rfl (fr_X6_pointOf e11))) (sa_ui [] rfl (fr_X6_isInZone e14))) (sa_ui [] rfl (fr_X6_isInZone e19))) (sa_ui [] rfl (fr_X6_isInZone e23)))))))) (fun h21 => (fq_rt h21 (sa_t (sa_t (sa_t (sa_t (sa_t (sa_t sa_rf (sa_ui [] rfl (fr_X6_minuteOf e2))) (sa_ui [] rfl (fr_X6_minuteOf e5))) (sa_ui [] rfl (fr_X6_pointOf e8))) (sa_ui [] rfl (fr_X6_pointOf e11))) (sa_ui [] rfl (fr_X6_isInZone e14))) (sa_ui [] rfl (fr_X6_isInZone e19)))))))))) (fun h16 => (fh_bd h16 fun q29 e30 h31 => (fq_if h31 (fun h32 => (fq_if h32 (fun h33 => (fq_rt h33 (sa_t (sa_t (sa_t (sa_t (sa_t (sa_t sa_rf (sa_ui [] rfl (fr_X6_minuteOf e2))) (sa_ui [] rfl (fr_X6_minuteOf e5))) (sa_ui [] rfl (fr_X6_pointOf e8))) (sa_ui [] rfl (fr_X6_pointOf e11))) (sa_ui [] rfl (fr_X6_isInZone e14))) (sa_ui [] rfl (fr_X6_isInZone e30))))) (fun h33 => (fh_bd h33 fun q34 e35 h36 => (fq_if h36 (fun h37 => (fh_bd h37 fun q38 e39 h40 => (fq_if h40 (fun h41 => (fh_bd h41 fun q42 e43 h44 => (fq_rt h44 (sa_t (sa_t (sa_t (sa_t (sa_t (sa_t (sa_t (sa_t (sa_t sa_rf (sa_ui [] rfl (fr_X6_minuteOf e2))) (sa_ui [] rfl (fr_X6_minuteOf e5))) (sa_ui [] rfl (fr_X6_pointOf e8))) (sa_ui [] rfl (fr_X6_pointOf e11))) (sa_ui [] rfl (fr_X6_isInZone e14))) (sa_ui [] rfl (fr_X6_isInZone e30))) (sa_ui [] rfl (fr_X6_isInZone e35))) (sa_ui [] rfl (fr_X6_isInZone e39))) (sa_ui [] rfl (fr_X9_byZone e43)))))) (fun h41 => (fq_rt h41 (sa_t (sa_t (sa_t (sa_t (sa_t (sa_t (sa_t (sa_t sa_rf (sa_ui [] rfl (fr_X6_minuteOf e2))) (sa_ui [] rfl (fr_X6_minuteOf e5))) (sa_ui [] rfl (fr_X6_pointOf e8))) (sa_ui [] rfl (fr_X6_pointOf e11))) (sa_ui [] rfl (fr_X6_isInZone e14))) (sa_ui [] rfl (fr_X6_isInZone e30))) (sa_ui [] rfl (fr_X6_isInZone e35))) (sa_ui [] rfl (fr_X6_isInZone e39)))))))) (fun h37 => (fq_rt h37 (sa_t (sa_t (sa_t (sa_t (sa_t (sa_t (sa_t sa_rf (sa_ui [] rfl (fr_X6_minuteOf e2))) (sa_ui [] rfl (fr_X6_minuteOf e5))) (sa_ui [] rfl (fr_X6_pointOf e8))) (sa_ui [] rfl (fr_X6_pointOf e11))) (sa_ui [] rfl (fr_X6_isInZone e14))) (sa_ui [] rfl (fr_X6_isInZone e30))) (sa_ui [] rfl (fr_X6_isInZone e35)))))))))) (fun h32 => (fq_if h32 (fun h45 => (fh_bd h45 fun q46 e47 h48 => (fq_rt h48 (sa_t (sa_t (sa_t (sa_t (sa_t (sa_t (sa_t sa_rf (sa_ui [] rfl (fr_X6_minuteOf e2))) (sa_ui [] rfl (fr_X6_minuteOf e5))) (sa_ui [] rfl (fr_X6_pointOf e8))) (sa_ui [] rfl (fr_X6_pointOf e11))) (sa_ui [] rfl (fr_X6_isInZone e14))) (sa_ui [] rfl (fr_X6_isInZone e30))) (sa_ui [] rfl (fr_X9_byOutside e47)))))) (fun h45 => (fq_rt h45 (sa_t (sa_t (sa_t (sa_t (sa_t (sa_t sa_rf (sa_ui [] rfl (fr_X6_minuteOf e2))) (sa_ui [] rfl (fr_X6_minuteOf e5))) (sa_ui [] rfl (fr_X6_pointOf e8))) (sa_ui [] rfl (fr_X6_pointOf e11))) (sa_ui [] rfl (fr_X6_isInZone e14))) (sa_ui [] rfl (fr_X6_isInZone e30))))))))))))))))
def w_X6_stay : List (Nat × Nat × Nat) := [(82, 82, 10), (83, 83, 0), (84, 84, 0), (85, 85, 0), (86, 86, 0), (87, 87, 0), (88, 88, 0), (89, 89, 0), (90, 90, 0), (91, 91, 0)]
def PF_X6_stay (s : S_X6_stay) (q : Int32 × fm_) : Prop := match s with
  | (x1, x2, x3, x4, x5, x6, m) => sa_ w_X6_stay m q.2
theorem fl_X6_stay (s : S_X6_stay) (q : Int32 × fm_) (h : am_lp (st_X6_stay) s = some q) : PF_X6_stay s q :=
  am_lp_snd (P := PF_X6_stay) (fun K hK s q h => match s, h with
    | (x1, x2, x3, x4, x5, x6, m), h => (fr_if h (fun h1 => (fr_rt h1 sa_rf)) (fun h1 => (fj_gd h1 fun g3 h2 => (fj_gd h2 fun g5 h4 => (fj_bd h4 fun q6 e7 h8 => (sa_t (sa_t sa_rf (sa_ui [] rfl (fr_X6_stayBetween e7))) (hK _ _ h8)))))))) s q h
set_option maxRecDepth 100000 in
theorem fr_X6_stay {p1 : Int32} {p2 : Int32} {p3 : Int32} {p4 : Int32} {m : fm_} {q : Int32 × fm_} (h : f_X6_stay p1 p2 p3 p4 m = some q) : sa_ w_X6_stay m q.2 :=
  (fh_bd h fun q1 e2 h3 => (fh_bd h3 fun q4 e5 h6 => (sa_t (sa_t (sa_t sa_rf (sa_ui [0, 1, 2, 3, 4, 5, 6, 7, 8, 9] rfl (fr_X6_choose e2))) (sa_ui [0, 5] rfl (fr_X6_gatherOf e5))) (fl_X6_stay _ _ h6))))
def w_X2_ask : List (Nat × Nat × Nat) := [(93, 93, 0)]
set_option maxRecDepth 100000 in
theorem fr_X2_ask {p1 : Int32} {p2 : Int32} {p3 : Int32} {m : fm_} {q : Int32 × fm_} (h : f_X2_ask p1 p2 p3 m = some q) : sa_ w_X2_ask m q.2 :=
  (fh_bd h fun q1 e2 h3 => (fh_gd h3 fun g5 h4 => (fh_gd h4 fun g7 h6 => (fh_gd h6 fun g9 h8 => (fh_gd h8 fun g11 h10 => (fh_gd h10 fun g13 h12 => (fq_rt h12 (sa_si (wi_at 0 rfl (Or.inl rfl)) (sa_si (wi_at 0 rfl (Or.inl rfl)) (sa_si (wi_at 0 rfl (Or.inl rfl)) (sa_si (wi_at 0 rfl (Or.inl rfl)) (sa_si (wi_at 0 rfl (Or.inl rfl)) (sa_t sa_rf (sa_ui [] rfl (fr_X1_papersOn e2)))))))))))))))
def w_X2_classOn : List (Nat × Nat × Nat) := [(37, 37, 0), (43, 43, 0), (49, 49, 0), (55, 55, 0), (61, 61, 0), (67, 67, 0), (93, 93, 0)]
set_option maxRecDepth 100000 in
theorem fr_X2_classOn {p1 : Int32} {p2 : Int32} {p3 : Int32} {m : fm_} {q : Int32 × fm_} (h : f_X2_classOn p1 p2 p3 m = some q) : sa_ w_X2_classOn m q.2 :=
  (fh_bd h fun q1 e2 h3 => fh_om h3 (fun _ h7 => (fq_rt h7 (sa_t sa_rf (sa_ui [] rfl (fr_X3_inForce e2))))) (fun o4 _ h3 => fh_gd h3 fun g5 h6 => (fh_bd h6 fun q8 e9 h10 => (fh_bd h10 fun q11 e12 h13 => (fq_rt h13 (sa_t (sa_t (sa_t sa_rf (sa_ui [] rfl (fr_X3_inForce e2))) (sa_ui [6] rfl (fr_X2_ask e9))) (sa_uO (w := w_X4_classBy) rfl g5 (fr_X4_classBy e12))))))))
def w_X2_entryMinute : List (Nat × Nat × Nat) := []
def PF_X2_entryMinute (s : S_X2_entryMinute) (q : Int32 × fm_) : Prop := match s with
  | (x1, x2, x3, x4, x5, m) => sa_ w_X2_entryMinute m q.2
theorem fl_X2_entryMinute (s : S_X2_entryMinute) (q : Int32 × fm_) (h : am_lp (st_X2_entryMinute) s = some q) : PF_X2_entryMinute s q :=
  am_lp_snd (P := PF_X2_entryMinute) (fun K hK s q h => match s, h with
    | (x1, x2, x3, x4, x5, m), h => (fj_bd h fun q1 e2 h3 => (fr_if h3 (fun h4 => (fr_rt h4 (sa_t sa_rf (sa_ui [] rfl (fr_X1_readingsOn e2))))) (fun h4 => (fj_bd h4 fun q5 e6 h7 => (fj_gd h7 fun g9 h8 => (fj_bd h8 fun q10 e11 h12 => (fr_if h12 (fun h13 => (sa_t (sa_t (sa_t (sa_t sa_rf (sa_ui [] rfl (fr_X1_readingsOn e2))) (sa_ui [] rfl (fr_X1_readingOn e6))) (sa_ui [] rfl (fr_X6_isInZone e11))) (hK _ _ h13))) (fun h13 => (fj_bd h13 fun q14 e15 h16 => (fr_if h16 (fun h17 => (sa_t (sa_t (sa_t (sa_t (sa_t sa_rf (sa_ui [] rfl (fr_X1_readingsOn e2))) (sa_ui [] rfl (fr_X1_readingOn e6))) (sa_ui [] rfl (fr_X6_isInZone e11))) (sa_ui [] rfl (fr_X4_isInHours e15))) (hK _ _ h17))) (fun h17 => (fj_bd h17 fun q18 e19 h20 => (fr_if h20 (fun h21 => (fr_if h21 (fun h22 => (sa_t (sa_t (sa_t (sa_t (sa_t (sa_t sa_rf (sa_ui [] rfl (fr_X1_readingsOn e2))) (sa_ui [] rfl (fr_X1_readingOn e6))) (sa_ui [] rfl (fr_X6_isInZone e11))) (sa_ui [] rfl (fr_X4_isInHours e15))) (sa_ui [] rfl (fr_X6_chosenOwner e19))) (hK _ _ h22))) (fun h22 => (fr_if h22 (fun h23 => (sa_t (sa_t (sa_t (sa_t (sa_t (sa_t sa_rf (sa_ui [] rfl (fr_X1_readingsOn e2))) (sa_ui [] rfl (fr_X1_readingOn e6))) (sa_ui [] rfl (fr_X6_isInZone e11))) (sa_ui [] rfl (fr_X4_isInHours e15))) (sa_ui [] rfl (fr_X6_chosenOwner e19))) (hK _ _ h23))) (fun h23 => (sa_t (sa_t (sa_t (sa_t (sa_t (sa_t sa_rf (sa_ui [] rfl (fr_X1_readingsOn e2))) (sa_ui [] rfl (fr_X1_readingOn e6))) (sa_ui [] rfl (fr_X6_isInZone e11))) (sa_ui [] rfl (fr_X4_isInHours e15))) (sa_ui [] rfl (fr_X6_chosenOwner e19))) (hK _ _ h23))))))) (fun h21 => (sa_t (sa_t (sa_t (sa_t (sa_t (sa_t sa_rf (sa_ui [] rfl (fr_X1_readingsOn e2))) (sa_ui [] rfl (fr_X1_readingOn e6))) (sa_ui [] rfl (fr_X6_isInZone e11))) (sa_ui [] rfl (fr_X4_isInHours e15))) (sa_ui [] rfl (fr_X6_chosenOwner e19))) (hK _ _ h21))))))))))))))))) s q h
set_option maxRecDepth 100000 in
theorem fr_X2_entryMinute {p1 : Int32} {p2 : Int32} {m : fm_} {q : Int32 × fm_} (h : f_X2_entryMinute p1 p2 m = some q) : sa_ w_X2_entryMinute m q.2 :=
  (fh_bd h fun q1 e2 h3 => fh_om h3 (fun _ h7 => (fq_rt h7 (sa_t sa_rf (sa_ui [] rfl (fr_X3_inForce e2))))) (fun o4 _ h3 => fh_gd h3 fun g5 h6 => (sa_t (sa_t sa_rf (sa_ui [] rfl (fr_X3_inForce e2))) (fl_X2_entryMinute _ _ h6))))
def w_X2_entriesAhead : List (Nat × Nat × Nat) := []
def PF_X2_entriesAhead (s : S_X2_entriesAhead) (q : Int32 × fm_) : Prop := match s with
  | (x1, x2, x3, x4, m) => sa_ w_X2_entriesAhead m q.2
theorem fl_X2_entriesAhead (s : S_X2_entriesAhead) (q : Int32 × fm_) (h : am_lp (st_X2_entriesAhead) s = some q) : PF_X2_entriesAhead s q :=
  am_lp_snd (P := PF_X2_entriesAhead) (fun K hK s q h => match s, h with
    | (x1, x2, x3, x4, m), h => (fr_if h (fun h1 => (fr_rt h1 sa_rf)) (fun h1 => (fj_bd h1 fun q2 e3 h4 => (fr_if h4 (fun h5 => (sa_t (sa_t sa_rf (sa_ui [] rfl (fr_X2_entryMinute e3))) (hK _ _ h5))) (fun h5 => (sa_t (sa_t sa_rf (sa_ui [] rfl (fr_X2_entryMinute e3))) (hK _ _ h5)))))))) s q h
set_option maxRecDepth 100000 in
theorem fr_X2_entriesAhead {p1 : Int32} {p2 : Int32} {m : fm_} {q : Int32 × fm_} (h : f_X2_entriesAhead p1 p2 m = some q) : sa_ w_X2_entriesAhead m q.2 :=
  (sa_t sa_rf (fl_X2_entriesAhead _ _ h))
def w_X2_chargeDue : List (Nat × Nat × Nat) := [(37, 37, 0), (43, 43, 0), (49, 49, 0), (55, 55, 0), (61, 61, 0), (67, 67, 0), (93, 93, 0)]
set_option maxRecDepth 100000 in
theorem fr_X2_chargeDue {p1 : Int32} {p2 : Int32} {p3 : Int32} {m : fm_} {q : Int32 × fm_} (h : f_X2_chargeDue p1 p2 p3 m = some q) : sa_ w_X2_chargeDue m q.2 :=
  (fh_bd h fun q1 e2 h3 => fh_om h3 (fun _ h7 => (fq_rt h7 (sa_t sa_rf (sa_ui [] rfl (fr_X3_inForce e2))))) (fun o4 _ h3 => fh_gd h3 fun g5 h6 => (fh_bd h6 fun q8 e9 h10 => (fh_gd h10 fun g12 h11 => (fh_bd h11 fun q13 e14 h15 => (fq_if h15 (fun h16 => (fh_gd h16 fun g18 h17 => (fq_if h17 (fun h19 => (fh_bd h19 fun q20 e21 h22 => (fq_if h22 (fun h23 => (fh_bd h23 fun q24 e25 h26 => (fq_rt h26 (sa_t (sa_t (sa_t (sa_si (wi_at 6 rfl (Or.inl rfl)) (sa_t (sa_t sa_rf (sa_ui [] rfl (fr_X3_inForce e2))) (sa_uO (w := w_X4_classBy) rfl g5 (fr_X4_classBy e9)))) (sa_uO (w := w_X4_isFree) rfl g5 (fr_X4_isFree e14))) (sa_ui [] rfl (fr_X1_hasAppeal e21))) (sa_ui [] rfl (fr_X4_chargeOf e25)))))) (fun h23 => (fh_bd h23 fun q27 e28 h29 => (fq_if h29 (fun h30 => (fh_bd h30 fun q31 e32 h33 => (fq_rt h33 (sa_t (sa_t (sa_t (sa_t (sa_si (wi_at 6 rfl (Or.inl rfl)) (sa_t (sa_t sa_rf (sa_ui [] rfl (fr_X3_inForce e2))) (sa_uO (w := w_X4_classBy) rfl g5 (fr_X4_classBy e9)))) (sa_uO (w := w_X4_isFree) rfl g5 (fr_X4_isFree e14))) (sa_ui [] rfl (fr_X1_hasAppeal e21))) (sa_uO (w := w_X4_letsOff) rfl g5 (fr_X4_letsOff e28))) (sa_ui [] rfl (fr_X4_chargeOf e32)))))) (fun h30 => (fq_rt h30 (sa_t (sa_t (sa_t (sa_si (wi_at 6 rfl (Or.inl rfl)) (sa_t (sa_t sa_rf (sa_ui [] rfl (fr_X3_inForce e2))) (sa_uO (w := w_X4_classBy) rfl g5 (fr_X4_classBy e9)))) (sa_uO (w := w_X4_isFree) rfl g5 (fr_X4_isFree e14))) (sa_ui [] rfl (fr_X1_hasAppeal e21))) (sa_uO (w := w_X4_letsOff) rfl g5 (fr_X4_letsOff e28))))))))))) (fun h19 => (fq_rt h19 (sa_t (sa_si (wi_at 6 rfl (Or.inl rfl)) (sa_t (sa_t sa_rf (sa_ui [] rfl (fr_X3_inForce e2))) (sa_uO (w := w_X4_classBy) rfl g5 (fr_X4_classBy e9)))) (sa_uO (w := w_X4_isFree) rfl g5 (fr_X4_isFree e14)))))))) (fun h16 => (fq_rt h16 (sa_t (sa_si (wi_at 6 rfl (Or.inl rfl)) (sa_t (sa_t sa_rf (sa_ui [] rfl (fr_X3_inForce e2))) (sa_uO (w := w_X4_classBy) rfl g5 (fr_X4_classBy e9)))) (sa_uO (w := w_X4_isFree) rfl g5 (fr_X4_isFree e14)))))))))))
def w_X2_sumOf : List (Nat × Nat × Nat) := [(37, 37, 0), (43, 43, 0), (49, 49, 0), (55, 55, 0), (61, 61, 0), (67, 67, 0), (93, 93, 0)]
def PF_X2_sumOf (s : S_X2_sumOf) (q : Int32 × fm_) : Prop := match s with
  | (x1, x2, x3, x4, x5, x6, x7, m) => sa_ w_X2_sumOf m q.2
theorem fl_X2_sumOf (s : S_X2_sumOf) (q : Int32 × fm_) (h : am_lp (st_X2_sumOf) s = some q) : PF_X2_sumOf s q :=
  am_lp_snd (P := PF_X2_sumOf) (fun K hK s q h => match s, h with
    | (x1, x2, x3, x4, x5, x6, x7, m), h => (fr_if h (fun h1 => (fr_rt h1 sa_rf)) (fun h1 => (fj_bd h1 fun q2 e3 h4 => (fr_if h4 (fun h5 => (sa_t (sa_t sa_rf (sa_ui [] rfl (fr_X2_entryMinute e3))) (hK _ _ h5))) (fun h5 => (fr_if h5 (fun h6 => (sa_t (sa_t sa_rf (sa_ui [] rfl (fr_X2_entryMinute e3))) (hK _ _ h6))) (fun h6 => (fj_bd h6 fun q7 e8 h9 => (fj_gd h9 fun g11 h10 => (fj_gd h10 fun g13 h12 => (fj_bd h12 fun q14 e15 h16 => (sa_t (sa_t (sa_si (wi_at 6 rfl (Or.inl rfl)) (sa_si (wi_at 6 rfl (Or.inl rfl)) (sa_t (sa_t sa_rf (sa_ui [] rfl (fr_X2_entryMinute e3))) (sa_ui [6] rfl (fr_X2_ask e8))))) (sa_ui [0, 1, 2, 3, 4, 5, 6] rfl (fr_X2_chargeDue e15))) (hK _ _ h16)))))))))))))) s q h
set_option maxRecDepth 100000 in
theorem fr_X2_sumOf {p1 : Int32} {p2 : Int32} {p3 : Int32} {p4 : Int32} {m : fm_} {q : Int32 × fm_} (h : f_X2_sumOf p1 p2 p3 p4 m = some q) : sa_ w_X2_sumOf m q.2 :=
  (sa_t sa_rf (fl_X2_sumOf _ _ h))
def w_X2_fleetSum : List (Nat × Nat × Nat) := [(37, 37, 0), (43, 43, 0), (49, 49, 0), (55, 55, 0), (61, 61, 0), (67, 67, 0), (93, 93, 0)]
def PF_X2_fleetSum (s : S_X2_fleetSum) (q : Int32 × fm_) : Prop := match s with
  | (x1, x2, x3, x4, x5, x6, m) => sa_ w_X2_fleetSum m q.2
theorem fl_X2_fleetSum (s : S_X2_fleetSum) (q : Int32 × fm_) (h : am_lp (st_X2_fleetSum) s = some q) : PF_X2_fleetSum s q :=
  am_lp_snd (P := PF_X2_fleetSum) (fun K hK s q h => match s, h with
    | (x1, x2, x3, x4, x5, x6, m), h => (fr_if h (fun h1 => (fr_rt h1 sa_rf)) (fun h1 => (fj_gd h1 fun g3 h2 => (fr_if h2 (fun h4 => (fj_bd h4 fun q5 e6 h7 => (sa_t (sa_t sa_rf (sa_ui [0, 1, 2, 3, 4, 5, 6] rfl (fr_X2_sumOf e6))) (hK _ _ h7)))) (fun h4 => (sa_t sa_rf (hK _ _ h4)))))))) s q h
set_option maxRecDepth 100000 in
theorem fr_X2_fleetSum {p1 : Int32} {p2 : Int32} {p3 : Int32} {p4 : Int32} {m : fm_} {q : Int32 × fm_} (h : f_X2_fleetSum p1 p2 p3 p4 m = some q) : sa_ w_X2_fleetSum m q.2 :=
  (sa_t sa_rf (fl_X2_fleetSum _ _ h))
def w_X0_add : List (Nat × Nat × Nat) := [(94, 94, 3), (95, 95, 0), (96, 96, 0)]
set_option maxRecDepth 100000 in
theorem fr_X0_add {p1 : Int32} {p2 : Int32} {p3 : Int32} {p4 : Int32} {m : fm_} {q : Int32 × fm_} (h : f_X0_add p1 p2 p3 p4 m = some q) : sa_ w_X0_add m q.2 :=
  (fq_if h (fun h1 => (fq_rt h1 sa_rf)) (fun h1 => (fh_bd h1 fun q2 e3 h4 => (fq_if h4 (fun h5 => (fq_rt h5 (sa_t sa_rf (sa_ui [] rfl (fr_X11_isUnder e3))))) (fun h5 => (fh_gd h5 fun g7 h6 => (fq_if h6 (fun h8 => (fh_gd h8 fun g10 h9 => (fh_gd h9 fun g12 h11 => (fq_rt h11 (sa_si (wi_at 0 rfl (Or.inr rfl)) (sa_si (wi_at 2 rfl (Or.inl rfl)) (sa_si (wi_at 1 rfl (Or.inl rfl)) (sa_t sa_rf (sa_ui [] rfl (fr_X11_isUnder e3)))))))))) (fun h8 => (fq_rt h8 (sa_t sa_rf (sa_ui [] rfl (fr_X11_isUnder e3))))))))))))
def w_X0_dayWith : List (Nat × Nat × Nat) := []
def PF_X0_dayWith (s : S_X0_dayWith) (q : Int32 × fm_) : Prop := match s with
  | (x1, x2, x3, x4, m) => sa_ w_X0_dayWith m q.2
theorem fl_X0_dayWith (s : S_X0_dayWith) (q : Int32 × fm_) (h : am_lp (st_X0_dayWith) s = some q) : PF_X0_dayWith s q :=
  am_lp_snd (P := PF_X0_dayWith) (fun K hK s q h => match s, h with
    | (x1, x2, x3, x4, m), h => (fr_if h (fun h1 => (fr_rt h1 sa_rf)) (fun h1 => (fr_if h1 (fun h2 => (fr_rt h2 sa_rf)) (fun h2 => (fj_gd h2 fun g4 h3 => (fr_if h3 (fun h5 => (fj_gd h5 fun g7 h6 => (fr_if h6 (fun h8 => (fr_rt h8 sa_rf)) (fun h8 => (sa_t sa_rf (hK _ _ h8)))))) (fun h5 => (sa_t sa_rf (hK _ _ h5)))))))))) s q h
set_option maxRecDepth 100000 in
theorem fr_X0_dayWith {p1 : Int32} {p2 : Int32} {p3 : Int32} {m : fm_} {q : Int32 × fm_} (h : f_X0_dayWith p1 p2 p3 m = some q) : sa_ w_X0_dayWith m q.2 :=
  (sa_t sa_rf (fl_X0_dayWith _ _ h))
def w_X0_difference : List (Nat × Nat × Nat) := []
set_option maxRecDepth 100000 in
theorem fr_X0_difference {p1 : Int32} {m : fm_} {q : Int32 × fm_} (h : f_X0_difference p1 m = some q) : sa_ w_X0_difference m q.2 :=
  (fh_bd h fun q1 e2 h3 => (fq_if h3 (fun h4 => (fq_rt h4 (sa_t sa_rf (sa_ui [] rfl (fr_X11_isDay e2))))) (fun h4 => (fh_gd h4 fun g6 h5 => (fh_gd h5 fun g8 h7 => (fq_rt h7 (sa_t sa_rf (sa_ui [] rfl (fr_X11_isDay e2)))))))))
def w_X0_pairUp : List (Nat × Nat × Nat) := [(94, 94, 5), (97, 97, 0)]
def PF_X0_pairUp (s : S_X0_pairUp) (q : Int32 × fm_) : Prop := match s with
  | Sum.inl ((x1, x2, m)) => sa_ w_X0_pairUp m q.2
  | Sum.inr ((x1, x2, x3, x4, m)) => sa_ w_X0_pairUp m q.2
theorem fl_X0_pairUp (s : S_X0_pairUp) (q : Int32 × fm_) (h : am_lp (st_X0_pairUp) s = some q) : PF_X0_pairUp s q :=
  am_lp_snd (P := PF_X0_pairUp) (fun K hK s q h => match s, h with
    | Sum.inl ((x1, x2, m)), h => (fr_if h (fun h1 => (fr_rt h1 sa_rf)) (fun h1 => (fj_bd h1 fun q2 e3 h4 => (fj_bd h4 fun q5 e6 h7 => (sa_t (sa_t (sa_t sa_rf (sa_ui [] rfl (fr_X0_dayWith e3))) (sa_ui [] rfl (fr_X0_dayWith e6))) (hK _ _ h7))))))
    | Sum.inr ((x1, x2, x3, x4, m)), h => (fr_if h (fun h1 => (sa_t sa_rf (hK _ _ h1))) (fun h1 => (fr_if h1 (fun h2 => (sa_t sa_rf (hK _ _ h2))) (fun h2 => (fr_if h2 (fun h3 => (sa_t sa_rf (hK _ _ h3))) (fun h3 => (fj_bd h3 fun q4 e5 h6 => (fj_bd h6 fun q7 e8 h9 => (fj_gd h9 fun g11 h10 => (fj_bd h10 fun q12 e13 h14 => (fj_bd h14 fun q15 e16 h17 => (sa_t (sa_t (sa_t (sa_si (wi_at 0 rfl (Or.inr rfl)) (sa_si (wi_at 1 rfl (Or.inl rfl)) (sa_t (sa_t sa_rf (sa_ui [] rfl (fr_X0_difference e5))) (sa_ui [] rfl (fr_X0_difference e8))))) (sa_ui [] rfl (fr_X0_dayWith e13))) (sa_ui [] rfl (fr_X0_dayWith e16))) (hK _ _ h17)))))))))))))) s q h
set_option maxRecDepth 100000 in
theorem fr_X0_pairUp {p1 : Int32} {m : fm_} {q : Int32 × fm_} (h : f_X0_pairUp p1 m = some q) : sa_ w_X0_pairUp m q.2 :=
  (sa_t (sa_si (wi_at 0 rfl (Or.inr rfl)) sa_rf) (fl_X0_pairUp _ _ h))
def w_X0_sumOfGains : List (Nat × Nat × Nat) := []
def PF_X0_sumOfGains (s : S_X0_sumOfGains) (q : Int32 × fm_) : Prop := match s with
  | (x1, x2, m) => sa_ w_X0_sumOfGains m q.2
theorem fl_X0_sumOfGains (s : S_X0_sumOfGains) (q : Int32 × fm_) (h : am_lp (st_X0_sumOfGains) s = some q) : PF_X0_sumOfGains s q :=
  am_lp_snd (P := PF_X0_sumOfGains) (fun K hK s q h => match s, h with
    | (x1, x2, m), h => (fr_if h (fun h1 => (fr_rt h1 sa_rf)) (fun h1 => (fj_gd h1 fun g3 h2 => (sa_t sa_rf (hK _ _ h2)))))) s q h
set_option maxRecDepth 100000 in
theorem fr_X0_sumOfGains  {m : fm_} {q : Int32 × fm_} (h : f_X0_sumOfGains  m = some q) : sa_ w_X0_sumOfGains m q.2 :=
  (sa_t sa_rf (fl_X0_sumOfGains _ _ h))
def w_X0_gainFrom : List (Nat × Nat × Nat) := [(94, 94, 5), (97, 97, 0)]
set_option maxRecDepth 100000 in
theorem fr_X0_gainFrom {p1 : Int32} {m : fm_} {q : Int32 × fm_} (h : f_X0_gainFrom p1 m = some q) : sa_ w_X0_gainFrom m q.2 :=
  (fh_bd h fun q1 e2 h3 => (fh_bd h3 fun q4 e5 h6 => (fq_rt h6 (sa_t (sa_t sa_rf (sa_ui [0, 1] rfl (fr_X0_pairUp e2))) (sa_ui [] rfl (fr_X0_sumOfGains e5))))))
def w_X0_waysFrom : List (Nat × Nat × Nat) := [(94, 94, 5), (97, 97, 0)]
set_option maxRecDepth 100000 in
theorem fr_X0_waysFrom {p1 : Int32} {m : fm_} {q : Int32 × fm_} (h : f_X0_waysFrom p1 m = some q) : sa_ w_X0_waysFrom m q.2 :=
  (fh_bd h fun q1 e2 h3 => (fq_rt h3 (sa_t sa_rf (sa_ui [0, 1] rfl (fr_X0_pairUp e2)))))
def w_X0_waysAsGood : List (Nat × Nat × Nat) := [(94, 94, 5), (97, 97, 0)]
def PF_X0_waysAsGood (s : S_X0_waysAsGood) (q : Int32 × fm_) : Prop := match s with
  | (x1, x2, x3, x4, x5, x6, m) => sa_ w_X0_waysAsGood m q.2
theorem fl_X0_waysAsGood (s : S_X0_waysAsGood) (q : Int32 × fm_) (h : am_lp (st_X0_waysAsGood) s = some q) : PF_X0_waysAsGood s q :=
  am_lp_snd (P := PF_X0_waysAsGood) (fun K hK s q h => match s, h with
    | (x1, x2, x3, x4, x5, x6, m), h => (fr_if h (fun h1 => (fr_rt h1 sa_rf)) (fun h1 => (fj_bd h1 fun q2 e3 h4 => (fr_if h4 (fun h5 => (fj_gd h5 fun g10 h9 => (fr_if h9 (fun h11 => (sa_t (sa_t sa_rf (sa_ui [] rfl (fr_J6_numberOfTrailingZeros_0f7a4 e3))) (hK _ _ h11))) (fun h11 => (sa_t (sa_t sa_rf (sa_ui [] rfl (fr_J6_numberOfTrailingZeros_0f7a4 e3))) (hK _ _ h11)))))) (fun h5 => (fj_gd h5 fun g7 h6 => (fr_if h6 (fun h8 => (sa_t (sa_t sa_rf (sa_ui [] rfl (fr_J6_numberOfTrailingZeros_0f7a4 e3))) (hK _ _ h8))) (fun h8 => (sa_t (sa_t sa_rf (sa_ui [] rfl (fr_J6_numberOfTrailingZeros_0f7a4 e3))) (hK _ _ h8))))))))))) s q h
set_option maxRecDepth 100000 in
theorem fr_X0_waysAsGood {p1 : Int32} {m : fm_} {q : Int32 × fm_} (h : f_X0_waysAsGood p1 m = some q) : sa_ w_X0_waysAsGood m q.2 :=
  (fh_bd h fun q1 e2 h3 => (fh_bd h3 fun q4 e5 h6 => (sa_t (sa_t (sa_t sa_rf (sa_ui [0, 1] rfl (fr_X0_pairUp e2))) (sa_ui [] rfl (fr_X0_sumOfGains e5))) (fl_X0_waysAsGood _ _ h6))))
def w_X10_add : List (Nat × Nat × Nat) := [(100, 100, 0), (101, 101, 0), (102, 102, 0), (103, 103, 0), (98, 98, 8), (99, 99, 0)]
set_option maxRecDepth 100000 in
theorem fr_X10_add {p1 : Int32} {p2 : Int32} {p3 : Int32} {p4 : Int32} {p5 : Int32} {m : fm_} {q : Int32 × fm_} (h : f_X10_add p1 p2 p3 p4 p5 m = some q) : sa_ w_X10_add m q.2 :=
  (fq_if h (fun h1 => (fh_gd h1 fun g3 h2 => (fh_gd h2 fun g5 h4 => (fh_gd h4 fun g7 h6 => (fh_gd h6 fun g9 h8 => (fh_gd h8 fun g11 h10 => (fq_rt h10 (sa_si (wi_at 4 rfl (Or.inr rfl)) (sa_si (wi_at 3 rfl (Or.inl rfl)) (sa_si (wi_at 2 rfl (Or.inl rfl)) (sa_si (wi_at 1 rfl (Or.inl rfl)) (sa_si (wi_at 0 rfl (Or.inl rfl)) (sa_si (wi_at 5 rfl (Or.inl rfl)) sa_rf))))))))))))) (fun h1 => (fq_rt h1 sa_rf)))
def w_X10_visit : List (Nat × Nat × Nat) := [(104, 104, 0), (98, 98, 10), (98, 98, 11)]
set_option maxRecDepth 100000 in
theorem fr_X10_visit {p1 : Int32} {m : fm_} {q : Int32 × fm_} (h : f_X10_visit p1 m = some q) : sa_ w_X10_visit m q.2 :=
  (fq_if h (fun h1 => (fq_rt h1 sa_rf)) (fun h1 => (fh_gd h1 fun g3 h2 => (fq_rt h2 (sa_si (wi_at 2 rfl (Or.inr rfl)) (sa_si (wi_at 1 rfl (Or.inr rfl)) (sa_si (wi_at 0 rfl (Or.inl rfl)) sa_rf)))))))
def w_X10_costLeft : List (Nat × Nat × Nat) := []
set_option maxRecDepth 100000 in
theorem fr_X10_costLeft {p1 : Int32} {p2 : Int32} {p3 : Int32} {p4 : Int32} {m : fm_} {q : Int32 × fm_} (h : f_X10_costLeft p1 p2 p3 p4 m = some q) : sa_ w_X10_costLeft m q.2 :=
  (fh_gd h fun g2 h1 => (fh_gd h1 fun g4 h3 => (fq_if h3 (fun h5 => (fh_bd h5 fun q6 e7 h8 => (fh_bd h8 fun q9 e10 h11 => (fq_rt h11 (sa_t (sa_t sa_rf (sa_ui [] rfl (fr_X9_beside e7))) (sa_ui [] rfl (fr_X9_byZone e10))))))) (fun h5 => (fh_bd h5 fun q12 e13 h14 => (fq_rt h14 (sa_t sa_rf (sa_ui [] rfl (fr_X9_near e13)))))))))
def w_X10_nextPoint : List (Nat × Nat × Nat) := []
def PF_X10_nextPoint (s : S_X10_nextPoint) (q : Int32 × fm_) : Prop := match s with
  | (x1, x2, x3, x4, x5, x6, m) => sa_ w_X10_nextPoint m q.2
theorem fl_X10_nextPoint (s : S_X10_nextPoint) (q : Int32 × fm_) (h : am_lp (st_X10_nextPoint) s = some q) : PF_X10_nextPoint s q :=
  am_lp_snd (P := PF_X10_nextPoint) (fun K hK s q h => match s, h with
    | (x1, x2, x3, x4, x5, x6, m), h => (fr_if h (fun h1 => (fr_rt h1 sa_rf)) (fun h1 => (fj_bd h1 fun q2 e3 h4 => (fr_if h4 (fun h5 => (sa_t (sa_t sa_rf (sa_ui [] rfl (fr_X9_hop e3))) (hK _ _ h5))) (fun h5 => (fr_if h5 (fun h6 => (fj_bd h6 fun q21 e22 h23 => (fr_if h23 (fun h24 => (fj_bd h24 fun q25 e26 h27 => (fj_gd h27 fun g29 h28 => (fj_bd h28 fun q30 e31 h32 => (fr_if h32 (fun h33 => (fr_rt h33 (sa_t (sa_t (sa_t (sa_t sa_rf (sa_ui [] rfl (fr_X9_hop e3))) (sa_ui [] rfl (fr_X9_isZone e22))) (sa_ui [] rfl (fr_X9_hopMinutes e26))) (sa_ui [] rfl (fr_X10_costLeft e31))))) (fun h33 => (sa_t (sa_t (sa_t (sa_t (sa_t sa_rf (sa_ui [] rfl (fr_X9_hop e3))) (sa_ui [] rfl (fr_X9_isZone e22))) (sa_ui [] rfl (fr_X9_hopMinutes e26))) (sa_ui [] rfl (fr_X10_costLeft e31))) (hK _ _ h33)))))))) (fun h24 => (fj_bd h24 fun q34 e35 h36 => (fj_gd h36 fun g38 h37 => (fr_if h37 (fun h39 => (fj_bd h39 fun q44 e45 h46 => (fr_if h46 (fun h47 => (fr_rt h47 (sa_t (sa_t (sa_t (sa_t sa_rf (sa_ui [] rfl (fr_X9_hop e3))) (sa_ui [] rfl (fr_X9_isZone e22))) (sa_ui [] rfl (fr_X9_hopMinutes e35))) (sa_ui [] rfl (fr_X10_costLeft e45))))) (fun h47 => (sa_t (sa_t (sa_t (sa_t (sa_t sa_rf (sa_ui [] rfl (fr_X9_hop e3))) (sa_ui [] rfl (fr_X9_isZone e22))) (sa_ui [] rfl (fr_X9_hopMinutes e35))) (sa_ui [] rfl (fr_X10_costLeft e45))) (hK _ _ h47)))))) (fun h39 => (fj_bd h39 fun q40 e41 h42 => (fr_if h42 (fun h43 => (fr_rt h43 (sa_t (sa_t (sa_t (sa_t sa_rf (sa_ui [] rfl (fr_X9_hop e3))) (sa_ui [] rfl (fr_X9_isZone e22))) (sa_ui [] rfl (fr_X9_hopMinutes e35))) (sa_ui [] rfl (fr_X10_costLeft e41))))) (fun h43 => (sa_t (sa_t (sa_t (sa_t (sa_t sa_rf (sa_ui [] rfl (fr_X9_hop e3))) (sa_ui [] rfl (fr_X9_isZone e22))) (sa_ui [] rfl (fr_X9_hopMinutes e35))) (sa_ui [] rfl (fr_X10_costLeft e41))) (hK _ _ h43))))))))))))) (fun h6 => (fj_bd h6 fun q7 e8 h9 => (fj_gd h9 fun g11 h10 => (fr_if h10 (fun h12 => (fj_bd h12 fun q17 e18 h19 => (fr_if h19 (fun h20 => (fr_rt h20 (sa_t (sa_t (sa_t sa_rf (sa_ui [] rfl (fr_X9_hop e3))) (sa_ui [] rfl (fr_X9_hopMinutes e8))) (sa_ui [] rfl (fr_X10_costLeft e18))))) (fun h20 => (sa_t (sa_t (sa_t (sa_t sa_rf (sa_ui [] rfl (fr_X9_hop e3))) (sa_ui [] rfl (fr_X9_hopMinutes e8))) (sa_ui [] rfl (fr_X10_costLeft e18))) (hK _ _ h20)))))) (fun h12 => (fj_bd h12 fun q13 e14 h15 => (fr_if h15 (fun h16 => (fr_rt h16 (sa_t (sa_t (sa_t sa_rf (sa_ui [] rfl (fr_X9_hop e3))) (sa_ui [] rfl (fr_X9_hopMinutes e8))) (sa_ui [] rfl (fr_X10_costLeft e14))))) (fun h16 => (sa_t (sa_t (sa_t (sa_t sa_rf (sa_ui [] rfl (fr_X9_hop e3))) (sa_ui [] rfl (fr_X9_hopMinutes e8))) (sa_ui [] rfl (fr_X10_costLeft e14))) (hK _ _ h16))))))))))))))))) s q h
set_option maxRecDepth 100000 in
theorem fr_X10_nextPoint {p1 : Int32} {p2 : Int32} {p3 : Int32} {p4 : Int32} {m : fm_} {q : Int32 × fm_} (h : f_X10_nextPoint p1 p2 p3 p4 m = some q) : sa_ w_X10_nextPoint m q.2 :=
  (fh_bd h fun q1 e2 h3 => (sa_t (sa_t sa_rf (sa_ui [] rfl (fr_X10_costLeft e2))) (fl_X10_nextPoint _ _ h3)))
def w_X10_follow : List (Nat × Nat × Nat) := [(104, 104, 0), (98, 98, 10), (98, 98, 11), (98, 98, 12)]
def PF_X10_follow (s : S_X10_follow) (q : Int32 × fm_) : Prop := match s with
  | (x1, x2, x3, x4, x5, x6, x7, m) => sa_ w_X10_follow m q.2
theorem fl_X10_follow (s : S_X10_follow) (q : Int32 × fm_) (h : am_lp (st_X10_follow) s = some q) : PF_X10_follow s q :=
  am_lp_snd (P := PF_X10_follow) (fun K hK s q h => match s, h with
    | (x1, x2, x3, x4, x5, x6, x7, m), h => (fr_if h (fun h1 => (fr_rt h1 sa_rf)) (fun h1 => (fj_gd h1 fun g3 h2 => (fr_if h2 (fun h4 => (fr_rt h4 sa_rf)) (fun h4 => (fj_bd h4 fun q5 e6 h7 => (fr_if h7 (fun h8 => (fr_rt h8 (sa_t sa_rf (sa_ui [] rfl (fr_X10_nextPoint e6))))) (fun h8 => (fj_bd h8 fun q9 e10 h11 => (fj_bd h11 fun q12 e13 h14 => (fr_if h14 (fun h15 => (fj_bd h15 fun q16 e17 h18 => (fr_if h18 (fun h19 => (sa_t (sa_t (sa_t (sa_si (wi_at 3 rfl (Or.inr rfl)) (sa_t (sa_t sa_rf (sa_ui [] rfl (fr_X10_nextPoint e6))) (sa_ui [] rfl (fr_X9_hopMinutes e10)))) (sa_ui [0, 1, 2] rfl (fr_X10_visit e13))) (sa_ui [] rfl (fr_X9_isZone e17))) (hK _ _ h19))) (fun h19 => (sa_t (sa_t (sa_t (sa_si (wi_at 3 rfl (Or.inr rfl)) (sa_t (sa_t sa_rf (sa_ui [] rfl (fr_X10_nextPoint e6))) (sa_ui [] rfl (fr_X9_hopMinutes e10)))) (sa_ui [0, 1, 2] rfl (fr_X10_visit e13))) (sa_ui [] rfl (fr_X9_isZone e17))) (hK _ _ h19)))))) (fun h15 => (sa_t (sa_t (sa_si (wi_at 3 rfl (Or.inr rfl)) (sa_t (sa_t sa_rf (sa_ui [] rfl (fr_X10_nextPoint e6))) (sa_ui [] rfl (fr_X9_hopMinutes e10)))) (sa_ui [0, 1, 2] rfl (fr_X10_visit e13))) (hK _ _ h15))))))))))))))) s q h
set_option maxRecDepth 100000 in
theorem fr_X10_follow {p1 : Int32} {p2 : Int32} {p3 : Int32} {m : fm_} {q : Int32 × fm_} (h : f_X10_follow p1 p2 p3 m = some q) : sa_ w_X10_follow m q.2 :=
  (fh_gd h fun g2 h1 => (fq_if h1 (fun h3 => (fq_if h3 (fun h4 => (fh_bd h4 fun q5 e6 h7 => (sa_t (sa_t (sa_si (wi_at 3 rfl (Or.inr rfl)) (sa_si (wi_at 2 rfl (Or.inr rfl)) (sa_si (wi_at 1 rfl (Or.inr rfl)) sa_rf))) (sa_ui [0, 1, 2] rfl (fr_X10_visit e6))) (fl_X10_follow _ _ h7)))) (fun h4 => (fh_bd h4 fun q8 e9 h10 => (fq_if h10 (fun h11 => (fh_bd h11 fun q12 e13 h14 => (sa_t (sa_t (sa_si (wi_at 3 rfl (Or.inr rfl)) (sa_si (wi_at 2 rfl (Or.inr rfl)) (sa_si (wi_at 1 rfl (Or.inr rfl)) (sa_t sa_rf (sa_ui [] rfl (fr_X9_isZone e9)))))) (sa_ui [0, 1, 2] rfl (fr_X10_visit e13))) (fl_X10_follow _ _ h14)))) (fun h11 => (fh_bd h11 fun q15 e16 h17 => (sa_t (sa_t (sa_si (wi_at 3 rfl (Or.inr rfl)) (sa_si (wi_at 2 rfl (Or.inr rfl)) (sa_si (wi_at 1 rfl (Or.inr rfl)) (sa_t sa_rf (sa_ui [] rfl (fr_X9_isZone e9)))))) (sa_ui [0, 1, 2] rfl (fr_X10_visit e16))) (fl_X10_follow _ _ h17))))))))) (fun h3 => (fh_gd h3 fun g19 h18 => (fh_bd h18 fun q20 e21 h22 => (fq_if h22 (fun h23 => (fh_bd h23 fun q24 e25 h26 => (sa_t (sa_t (sa_si (wi_at 3 rfl (Or.inr rfl)) (sa_si (wi_at 2 rfl (Or.inr rfl)) (sa_si (wi_at 1 rfl (Or.inr rfl)) (sa_t sa_rf (sa_ui [] rfl (fr_X3_chargeOn e21)))))) (sa_ui [0, 1, 2] rfl (fr_X10_visit e25))) (fl_X10_follow _ _ h26)))) (fun h23 => (fh_bd h23 fun q27 e28 h29 => (fq_if h29 (fun h30 => (fh_bd h30 fun q31 e32 h33 => (sa_t (sa_t (sa_si (wi_at 3 rfl (Or.inr rfl)) (sa_si (wi_at 2 rfl (Or.inr rfl)) (sa_si (wi_at 1 rfl (Or.inr rfl)) (sa_t (sa_t sa_rf (sa_ui [] rfl (fr_X3_chargeOn e21))) (sa_ui [] rfl (fr_X9_isZone e28)))))) (sa_ui [0, 1, 2] rfl (fr_X10_visit e32))) (fl_X10_follow _ _ h33)))) (fun h30 => (fh_bd h30 fun q34 e35 h36 => (sa_t (sa_t (sa_si (wi_at 3 rfl (Or.inr rfl)) (sa_si (wi_at 2 rfl (Or.inr rfl)) (sa_si (wi_at 1 rfl (Or.inr rfl)) (sa_t (sa_t sa_rf (sa_ui [] rfl (fr_X3_chargeOn e21))) (sa_ui [] rfl (fr_X9_isZone e28)))))) (sa_ui [0, 1, 2] rfl (fr_X10_visit e35))) (fl_X10_follow _ _ h36)))))))))))))
def w_X10_carsOn : List (Nat × Nat × Nat) := [(104, 104, 0), (98, 98, 10), (98, 98, 11), (98, 98, 12)]
def PF_X10_carsOn (s : S_X10_carsOn) (q : Int32 × fm_) : Prop := match s with
  | Sum.inl ((x1, x2, x3, x4, x5, m)) => sa_ w_X10_carsOn m q.2
  | Sum.inr ((x1, x2, x3, x4, x5, x6, m)) => sa_ w_X10_carsOn m q.2
theorem fl_X10_carsOn (s : S_X10_carsOn) (q : Int32 × fm_) (h : am_lp (st_X10_carsOn) s = some q) : PF_X10_carsOn s q :=
  am_lp_snd (P := PF_X10_carsOn) (fun K hK s q h => match s, h with
    | Sum.inl ((x1, x2, x3, x4, x5, m)), h => (fr_if h (fun h1 => (fr_rt h1 sa_rf)) (fun h1 => (fj_bd h1 fun q2 e3 h4 => (sa_t (sa_t sa_rf (sa_ui [0, 1, 2, 3] rfl (fr_X10_follow e3))) (hK _ _ h4)))))
    | Sum.inr ((x1, x2, x3, x4, x5, x6, m)), h => (fr_if h (fun h1 => (sa_t sa_rf (hK _ _ h1))) (fun h1 => (fj_gd h1 fun g3 h2 => (fj_gd h2 fun g5 h4 => (fj_bd h4 fun q6 e7 h8 => (fr_if h8 (fun h9 => (fj_gd h9 fun g11 h10 => (sa_t (sa_t sa_rf (sa_ui [] rfl (fr_X9_hop e7))) (hK _ _ h10)))) (fun h9 => (sa_t (sa_t sa_rf (sa_ui [] rfl (fr_X9_hop e7))) (hK _ _ h9)))))))))) s q h
set_option maxRecDepth 100000 in
theorem fr_X10_carsOn {p1 : Int32} {p2 : Int32} {p3 : Int32} {m : fm_} {q : Int32 × fm_} (h : f_X10_carsOn p1 p2 p3 m = some q) : sa_ w_X10_carsOn m q.2 :=
  (sa_t sa_rf (fl_X10_carsOn _ _ h))
def w_X10_carsAround : List (Nat × Nat × Nat) := [(104, 104, 0), (98, 98, 10), (98, 98, 11), (98, 98, 12)]
def PF_X10_carsAround (s : S_X10_carsAround) (q : Int32 × fm_) : Prop := match s with
  | (x1, x2, x3, m) => sa_ w_X10_carsAround m q.2
theorem fl_X10_carsAround (s : S_X10_carsAround) (q : Int32 × fm_) (h : am_lp (st_X10_carsAround) s = some q) : PF_X10_carsAround s q :=
  am_lp_snd (P := PF_X10_carsAround) (fun K hK s q h => match s, h with
    | (x1, x2, x3, m), h => (fr_if h (fun h1 => (fr_rt h1 sa_rf)) (fun h1 => (fj_bd h1 fun q2 e3 h4 => (fr_if h4 (fun h5 => (fj_bd h5 fun q6 e7 h8 => (sa_t (sa_t (sa_t sa_rf (sa_ui [0, 1, 2, 3] rfl (fr_X10_follow e3))) (sa_ui [0, 1, 2, 3] rfl (fr_X10_follow e7))) (hK _ _ h8)))) (fun h5 => (fj_bd h5 fun q9 e10 h11 => (fr_if h11 (fun h12 => (fj_gd h12 fun g14 h13 => (sa_t (sa_t (sa_t sa_rf (sa_ui [0, 1, 2, 3] rfl (fr_X10_follow e3))) (sa_ui [0, 1, 2, 3] rfl (fr_X10_follow e10))) (hK _ _ h13)))) (fun h12 => (sa_t (sa_t (sa_t sa_rf (sa_ui [0, 1, 2, 3] rfl (fr_X10_follow e3))) (sa_ui [0, 1, 2, 3] rfl (fr_X10_follow e10))) (hK _ _ h12))))))))))) s q h
set_option maxRecDepth 100000 in
theorem fr_X10_carsAround {p1 : Int32} {m : fm_} {q : Int32 × fm_} (h : f_X10_carsAround p1 m = some q) : sa_ w_X10_carsAround m q.2 :=
  (sa_t sa_rf (fl_X10_carsAround _ _ h))
def w_X10_carsMeeting : List (Nat × Nat × Nat) := []
def PF_X10_carsMeeting (s : S_X10_carsMeeting) (q : Int32 × fm_) : Prop := match s with
  | (x1, x2, x3, m) => sa_ w_X10_carsMeeting m q.2
theorem fl_X10_carsMeeting (s : S_X10_carsMeeting) (q : Int32 × fm_) (h : am_lp (st_X10_carsMeeting) s = some q) : PF_X10_carsMeeting s q :=
  am_lp_snd (P := PF_X10_carsMeeting) (fun K hK s q h => match s, h with
    | (x1, x2, x3, m), h => (fr_if h (fun h1 => (fr_rt h1 sa_rf)) (fun h1 => (fj_gd h1 fun g3 h2 => (fr_if h2 (fun h4 => (sa_t sa_rf (hK _ _ h4))) (fun h4 => (fj_gd h4 fun g6 h5 => (sa_t sa_rf (hK _ _ h5))))))))) s q h
set_option maxRecDepth 100000 in
theorem fr_X10_carsMeeting {p1 : Int32} {m : fm_} {q : Int32 × fm_} (h : f_X10_carsMeeting p1 m = some q) : sa_ w_X10_carsMeeting m q.2 :=
  (sa_t sa_rf (fl_X10_carsMeeting _ _ h))
