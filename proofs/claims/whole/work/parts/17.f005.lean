/-! == X9_joinBy == -/
abbrev S_X9_joinBy : Type := (Int32 × Int32 × fm_) ⊕ (Int32 × Int32 × Int32 × fm_) ⊕ (Int32 × Int32 × Int32 × Int32 × Int32 × fm_)
noncomputable def st_X9_joinBy (c : Nat) (s : S_X9_joinBy) : Option (S_X9_joinBy ⊕ (Int32 × fm_)) := match s with
  | Sum.inl ((x2, x3, m)) =>
    (if 12 ≤ x3 then
((some (Sum.inr (0, m))))
else
((some (Sum.inl (Sum.inr (Sum.inl ((x2, x3, 0, m))))))))
  | Sum.inr (Sum.inl ((x2, x3, x4, m))) =>
    (if 12 ≤ x4 then
((some (Sum.inl (Sum.inl ((x2, (x3 + 1), m))))))
else
((some (Sum.inl (Sum.inr (Sum.inr ((x2, x3, x4, 1000000, 0, m))))))))
  | Sum.inr (Sum.inr ((x2, x3, x4, x5, x6, m))) =>
    (if 12 ≤ x6 then
(gd_ (ix_ ((x3 * 12) + x4) 144)
((some (Sum.inl (Sum.inr (Sum.inl ((x2, x3, (x4 + 1), (si_ m c (Int32.toNatClampNeg ((x3 * 12) + x4)) x5)))))))))
else
(if ((x2 >>> (x6 &&& 31)) &&& 1) = 1 then
(Option.bind (f_X9_near x3 x6 m) fun q7 =>
(Option.bind (f_X9_near x6 x4 q7.2) fun q10 =>
((some (Sum.inl (Sum.inr (Sum.inr ((x2, x3, x4, (mn_ x5 (q7.1 + q10.1)), (x6 + 1), q10.2)))))))))
else
((some (Sum.inl (Sum.inr (Sum.inr ((x2, x3, x4, x5, (x6 + 1), m)))))))))
noncomputable def f_X9_joinBy_2 (c : Nat) (x2 : Int32) (x3 : Int32) (m : fm_) : Option (Int32 × fm_) := am_lp (st_X9_joinBy c) (Sum.inl ((x2, x3, m)))
noncomputable def f_X9_joinBy_11 (c : Nat) (x2 : Int32) (x3 : Int32) (x4 : Int32) (m : fm_) : Option (Int32 × fm_) := am_lp (st_X9_joinBy c) (Sum.inr (Sum.inl ((x2, x3, x4, m))))
noncomputable def f_X9_joinBy_25 (c : Nat) (x2 : Int32) (x3 : Int32) (x4 : Int32) (x5 : Int32) (x6 : Int32) (m : fm_) : Option (Int32 × fm_) := am_lp (st_X9_joinBy c) (Sum.inr (Sum.inr ((x2, x3, x4, x5, x6, m))))
theorem e_X9_joinBy_2 (c : Nat) (x2 : Int32) (x3 : Int32) (m : fm_) : f_X9_joinBy_2 c x2 x3 m =
(if 12 ≤ x3 then
((some (0, m)))
else
((f_X9_joinBy_11 c x2 x3 0 m))) :=
  (am_lp_eq _ _).trans (fe_if (rfl) (rfl))
theorem e_X9_joinBy_11 (c : Nat) (x2 : Int32) (x3 : Int32) (x4 : Int32) (m : fm_) : f_X9_joinBy_11 c x2 x3 x4 m =
(if 12 ≤ x4 then
((f_X9_joinBy_2 c x2 (x3 + 1) m))
else
((f_X9_joinBy_25 c x2 x3 x4 1000000 0 m))) :=
  (am_lp_eq _ _).trans (fe_if (rfl) (rfl))
theorem e_X9_joinBy_25 (c : Nat) (x2 : Int32) (x3 : Int32) (x4 : Int32) (x5 : Int32) (x6 : Int32) (m : fm_) : f_X9_joinBy_25 c x2 x3 x4 x5 x6 m =
(if 12 ≤ x6 then
(gd_ (ix_ ((x3 * 12) + x4) 144)
((f_X9_joinBy_11 c x2 x3 (x4 + 1) (si_ m c (Int32.toNatClampNeg ((x3 * 12) + x4)) x5))))
else
(if ((x2 >>> (x6 &&& 31)) &&& 1) = 1 then
(Option.bind (f_X9_near x3 x6 m) fun q7 =>
(Option.bind (f_X9_near x6 x4 q7.2) fun q10 =>
((f_X9_joinBy_25 c x2 x3 x4 (mn_ x5 (q7.1 + q10.1)) (x6 + 1) q10.2))))
else
((f_X9_joinBy_25 c x2 x3 x4 x5 (x6 + 1) m)))) :=
  (am_lp_eq _ _).trans (fe_if (fe_gd (rfl)) (fe_if (fe_bd fun q7 => (fe_bd fun q10 => (rfl))) (rfl)))
noncomputable def f_X9_joinBy (c : Nat) (p2 : Int32) (m : fm_) : Option (Int32 × fm_) :=
  ((f_X9_joinBy_2 c p2 0 m))
def sp_X9_joinBy : am_S := fn_sp [(118, fn_T, G_X9_near)]
theorem sm_X9_joinBy : am_Smono (sp_X9_joinBy) := fn_sp_mono _
def P_X9_joinBy (c : Nat) (n : Nat) (r : Nat → Nat → Option Nat) (s : S_X9_joinBy) (q : Int32 × fm_) : Prop := match s with
  | Sum.inl ((x2, x3, m)) => ∀ (Q : Option Value → am_W → Prop) (y4 : Option Value) (y5 : Option Value) (y6 : Option Value), Q (en_v q).1 (mk_ n r q.2) → am_T m_X9_joinBy sp_X9_joinBy n Q 2 [some (.ref 6), some (.ref c), some (.int x2), some (.int x3), y4, y5, y6] [] (mk_ n r m)
  | Sum.inr (Sum.inl ((x2, x3, x4, m))) => ∀ (Q : Option Value → am_W → Prop) (y5 : Option Value) (y6 : Option Value), Q (en_v q).1 (mk_ n r q.2) → am_T m_X9_joinBy sp_X9_joinBy n Q 11 [some (.ref 6), some (.ref c), some (.int x2), some (.int x3), some (.int x4), y5, y6] [] (mk_ n r m)
  | Sum.inr (Sum.inr ((x2, x3, x4, x5, x6, m))) => ∀ (Q : Option Value → am_W → Prop), Q (en_v q).1 (mk_ n r q.2) → am_T m_X9_joinBy sp_X9_joinBy n Q 25 [some (.ref 6), some (.ref c), some (.int x2), some (.int x3), some (.int x4), some (.int x5), some (.int x6)] [] (mk_ n r m)
set_option maxRecDepth 100000 in
theorem t_X9_joinBy_2 (c : Nat) {n : Nat} {r : Nat → Nat → Option Nat} (hf : fn_T n r) (hc : is_C c = true) {K : S_X9_joinBy → Option (Int32 × fm_)} {q : Int32 × fm_} (hK : ∀ s, K s = some q → P_X9_joinBy c n r s q) (x2 : Int32) (x3 : Int32) (m : fm_)
  (h : am_k K (st_X9_joinBy c (Sum.inl ((x2, x3, m)))) = some q) : P_X9_joinBy c n r (Sum.inl ((x2, x3, m))) q := fun Q y4 y5 y6 hQ =>
  am_T.wp sm_X9_joinBy (K := am_T m_X9_joinBy sp_X9_joinBy n Q) (cuts := [2, 11, 25]) (fun _ _ _ _ h => h) 7
    (fj_if h (fun c1 h2 => ⟨rfl, fj_rt h2 hQ⟩) (fun c1 h2 => hK _ h2 _ _ _ hQ))
set_option maxRecDepth 100000 in
theorem t_X9_joinBy_11 (c : Nat) {n : Nat} {r : Nat → Nat → Option Nat} (hf : fn_T n r) (hc : is_C c = true) {K : S_X9_joinBy → Option (Int32 × fm_)} {q : Int32 × fm_} (hK : ∀ s, K s = some q → P_X9_joinBy c n r s q) (x2 : Int32) (x3 : Int32) (x4 : Int32) (m : fm_)
  (h : am_k K (st_X9_joinBy c (Sum.inr (Sum.inl ((x2, x3, x4, m))))) = some q) : P_X9_joinBy c n r (Sum.inr (Sum.inl ((x2, x3, x4, m)))) q := fun Q y5 y6 hQ =>
  am_T.wp sm_X9_joinBy (K := am_T m_X9_joinBy sp_X9_joinBy n Q) (cuts := [2, 11, 25]) (fun _ _ _ _ h => h) 9
    (fj_if h (fun c1 h2 => hK _ h2 _ _ _ _ hQ) (fun c1 h2 => hK _ h2 _ hQ))
set_option maxRecDepth 100000 in
theorem t_X9_joinBy_25 (c : Nat) {n : Nat} {r : Nat → Nat → Option Nat} (hf : fn_T n r) (hc : is_C c = true) {K : S_X9_joinBy → Option (Int32 × fm_)} {q : Int32 × fm_} (hK : ∀ s, K s = some q → P_X9_joinBy c n r s q) (x2 : Int32) (x3 : Int32) (x4 : Int32) (x5 : Int32) (x6 : Int32) (m : fm_)
  (h : am_k K (st_X9_joinBy c (Sum.inr (Sum.inr ((x2, x3, x4, x5, x6, m))))) = some q) : P_X9_joinBy c n r (Sum.inr (Sum.inr ((x2, x3, x4, x5, x6, m)))) q := fun Q hQ =>
  am_T.wp sm_X9_joinBy (K := am_T m_X9_joinBy sp_X9_joinBy n Q) (cuts := [2, 11, 25]) (fun _ _ _ _ h => h) 26
    (fj_if h (fun c1 h2 => fj_gd h2 fun g4 h3 => ⟨144, fn_aC hf hc rfl, ix_t g4, hK _ h3 _ _ _ hQ⟩) (fun c1 h2 => fj_in h2 (fun c5 h6 => hK _ h6 _ hQ) (fun c5 h6 => fj_bd h6 fun q7 e8 h9 => ⟨Nat.le_of_ble_eq_true rfl, fn_aT hf rfl rfl rfl, ⟨hf, some (.int q7.1), q7.2, gp_X9_near (n := n) (r := r)  e8, fun _ => fj_bd h9 fun q10 e11 h12 => ⟨Nat.le_of_ble_eq_true rfl, fn_aT hf rfl rfl rfl, ⟨hf, some (.int q10.1), q10.2, gp_X9_near (n := n) (r := r)  e11, fun _ => ⟨Nat.le_of_ble_eq_true rfl, hK _ h12 _ hQ⟩⟩⟩⟩⟩)))
theorem l_X9_joinBy (c : Nat) {n : Nat} {r : Nat → Nat → Option Nat} (hf : fn_T n r) (hc : is_C c = true) (s : S_X9_joinBy) (q : Int32 × fm_) (h : am_lp (st_X9_joinBy c) s = some q) : P_X9_joinBy c n r s q :=
  am_lp_snd (P := P_X9_joinBy c n r) (fun K hK s q h => match s, h with
    | Sum.inl ((x2, x3, m)), h => t_X9_joinBy_2 c hf hc (fun s => hK s q) x2 x3 m h
    | Sum.inr (Sum.inl ((x2, x3, x4, m))), h => t_X9_joinBy_11 c hf hc (fun s => hK s q) x2 x3 x4 m h
    | Sum.inr (Sum.inr ((x2, x3, x4, x5, x6, m))), h => t_X9_joinBy_25 c hf hc (fun s => hK s q) x2 x3 x4 x5 x6 m h) s q h
set_option maxRecDepth 100000 in
theorem t_X9_joinBy (c : Nat) {n : Nat} {r : Nat → Nat → Option Nat} (hf : fn_T n r) (hc : is_C c = true) {q : Int32 × fm_} (p2 : Int32) {m : fm_}
  (h : f_X9_joinBy c p2 m = some q) {Q : Option Value → am_W → Prop} (hQ : Q (en_v q).1 (mk_ n r q.2)) : am_T m_X9_joinBy sp_X9_joinBy n Q 0 [some (.ref 6), some (.ref c), some (.int p2), none, none, none, none] [] (mk_ n r m) :=
  am_T.wp sm_X9_joinBy (K := am_T m_X9_joinBy sp_X9_joinBy n Q) (cuts := [2, 11, 25]) (fun _ _ _ _ h => h) 4
    (l_X9_joinBy c hf hc _ _ h _ _ _ _ hQ)
noncomputable def G_X9_joinBy (n : Nat) (r : Nat → Nat → Option Nat) (as : List Value) (m : fm_) : Option (Option Value × fm_) := match as with
  | [.ref x0, .ref c, .int p2] => gd_ (Nat.beq x0 6) (gd_ (is_C c) ((f_X9_joinBy c p2 m).map en_v))
  | _ => none
set_option maxRecDepth 100000 in
theorem gp_X9_joinBy {n : Nat} {r : Nat → Nat → Option Nat} {c : Nat} {p2 : Int32} {m : fm_} {q : Int32 × fm_} (hc : is_C c = true) (e : f_X9_joinBy c p2 m = some q) : G_X9_joinBy n r [.ref 6, .ref c, .int p2] m = some (en_v q) := by
  show (gd_ (Nat.beq 6 6) (gd_ (is_C c) ((f_X9_joinBy c p2 m).map en_v))) = _
  exact fn_gd rfl (fn_gd hc (fn_mp e))
set_option maxRecDepth 100000 in
theorem ok_X9_joinBy : am_mok 9 133 m_X9_joinBy = true := by decide +kernel
set_option maxRecDepth 100000 in
theorem c_X9_joinBy (l : Launch) {g : am_G} (hg : fx_ l g) : am_Met l g 2 133 (fn_s fn_T G_X9_joinBy) := by
  refine am_sound (own := 9) (M := m_X9_joinBy) (SP := sp_X9_joinBy) hg.1 (by decide +kernel) ok_X9_joinBy (by decide +kernel) ?_ (fun q hq hk => absurd hk (am_no61 (M := m_X9_joinBy) (by decide +kernel) q hq)) (fn_ext l _ rfl g 9) (Or.inl (by decide +kernel)) ?_ ?_
  · intro q hq hk
    have hm : q.2.2.2.1 ∈ am_cs m_X9_joinBy := am_cs_in hq hk
    rw [show am_cs m_X9_joinBy = [118, 118] by decide +kernel] at hm
    have hm : q.2.2.2.1 ∈ [118] := (List.all_eq_true.mp (show ([118, 118] : List Nat).all (fun a => decide (a ∈ ([118] : List Nat))) = true by decide +kernel) _ hm |> of_decide_eq_true)
    simp only [List.mem_cons, List.not_mem_nil, or_false] at hm
    rcases hm with hm
    · rw [hm]; exact ⟨1, by omega, c_X9_near l hg⟩
  · intro as w K h
    obtain ⟨hf, y, m1, hG, hK⟩ := h
    unfold G_X9_joinBy at hG
    split at hG
    · exact Nat.le_of_ble_eq_true rfl
    · cases hG
  · intro as w K h
    obtain ⟨n, i0, l0, r⟩ := w
    obtain ⟨hf, y, m1, hG, hK⟩ := h
    unfold G_X9_joinBy at hG
    split at hG
    · next x0 c p2 =>
      obtain ⟨hx1, hG1⟩ := gd_u hG
      obtain ⟨hc, hG2⟩ := gd_u hG1
      obtain rfl := Nat.eq_of_beq_eq_true hx1
      obtain ⟨q, hq, he⟩ := fn_mu hG2
      obtain ⟨rfl, rfl⟩ := Prod.mk.inj he
      exact t_X9_joinBy c hf hc p2 (m := (i0, l0)) hq hK
    · cases hG

/-! == X9_measure == -/
abbrev S_X9_measure : Type := (Int32 × fm_)
noncomputable def st_X9_measure (s : S_X9_measure) : Option (S_X9_measure ⊕ (Int32 × fm_)) := match s with
  | (x1, m) =>
    (if (gi_ m 6 3) ≤ x1 then
(Option.bind (f_X9_spread 14 4095 m) fun q3 =>
(Option.bind (f_X9_spread 15 (4095 &&& ((gi_ q3.2 6 4) ^^^ (-1))) q3.2) fun q6 =>
(Option.bind (f_X9_joinBy 16 (gi_ q6.2 6 4) q6.2) fun q9 =>
(Option.bind (f_X9_joinBy 17 (4095 &&& ((gi_ q9.2 6 4) ^^^ (-1))) q9.2) fun q12 =>
((some (Sum.inr (0, q12.2))))))))
else
(gd_ (ix_ x1 24)
(gd_ (ix_ x1 24)
(Option.bind (f_X9_offerHop (gi_ m 7 (Int32.toNatClampNeg x1)) (gi_ m 8 (Int32.toNatClampNeg x1)) x1 m) fun q19 =>
(gd_ (ix_ x1 24)
(gd_ (ix_ x1 24)
(Option.bind (f_X9_offerHop (gi_ q19.2 8 (Int32.toNatClampNeg x1)) (gi_ q19.2 7 (Int32.toNatClampNeg x1)) x1 q19.2) fun q26 =>
((some (Sum.inl (((x1 + 1), q26.2))))))))))))
noncomputable def f_X9_measure_10 (x1 : Int32) (m : fm_) : Option (Int32 × fm_) := am_lp (st_X9_measure) ((x1, m))
theorem e_X9_measure_10 (x1 : Int32) (m : fm_) : f_X9_measure_10 x1 m =
(if (gi_ m 6 3) ≤ x1 then
(Option.bind (f_X9_spread 14 4095 m) fun q3 =>
(Option.bind (f_X9_spread 15 (4095 &&& ((gi_ q3.2 6 4) ^^^ (-1))) q3.2) fun q6 =>
(Option.bind (f_X9_joinBy 16 (gi_ q6.2 6 4) q6.2) fun q9 =>
(Option.bind (f_X9_joinBy 17 (4095 &&& ((gi_ q9.2 6 4) ^^^ (-1))) q9.2) fun q12 =>
((some (0, q12.2)))))))
else
(gd_ (ix_ x1 24)
(gd_ (ix_ x1 24)
(Option.bind (f_X9_offerHop (gi_ m 7 (Int32.toNatClampNeg x1)) (gi_ m 8 (Int32.toNatClampNeg x1)) x1 m) fun q19 =>
(gd_ (ix_ x1 24)
(gd_ (ix_ x1 24)
(Option.bind (f_X9_offerHop (gi_ q19.2 8 (Int32.toNatClampNeg x1)) (gi_ q19.2 7 (Int32.toNatClampNeg x1)) x1 q19.2) fun q26 =>
((f_X9_measure_10 (x1 + 1) q26.2))))))))) :=
  (am_lp_eq _ _).trans (fe_if (fe_bd fun q3 => (fe_bd fun q6 => (fe_bd fun q9 => (fe_bd fun q12 => (rfl))))) (fe_gd (fe_gd (fe_bd fun q19 => (fe_gd (fe_gd (fe_bd fun q26 => (rfl))))))))
noncomputable def f_X9_measure  (m : fm_) : Option (Int32 × fm_) :=
  (Option.bind (f_J7_fill_53178 13 144 (-1) m) fun q1 =>
((f_X9_measure_10 0 q1.2)))
def sp_X9_measure : am_S := fn_sp [(299, fn_0, G_J7_fill_53178), (131, fn_T, G_X9_offerHop), (132, fn_T, G_X9_spread), (133, fn_T, G_X9_joinBy)]
theorem sm_X9_measure : am_Smono (sp_X9_measure) := fn_sp_mono _
def P_X9_measure (n : Nat) (r : Nat → Nat → Option Nat) (s : S_X9_measure) (q : Int32 × fm_) : Prop := match s with
  | (x1, m) => ∀ (Q : Option Value → am_W → Prop), Q (en_v q).1 (mk_ n r q.2) → am_T m_X9_measure sp_X9_measure n Q 10 [some (.ref 6), some (.int x1)] [] (mk_ n r m)
set_option maxRecDepth 100000 in
theorem t_X9_measure_10 {n : Nat} {r : Nat → Nat → Option Nat} (hf : fn_T n r) {K : S_X9_measure → Option (Int32 × fm_)} {q : Int32 × fm_} (hK : ∀ s, K s = some q → P_X9_measure n r s q) (x1 : Int32) (m : fm_)
  (h : am_k K (st_X9_measure ((x1, m))) = some q) : P_X9_measure n r ((x1, m)) q := fun Q hQ =>
  am_T.wp sm_X9_measure (K := am_T m_X9_measure sp_X9_measure n Q) (cuts := [10]) (fun _ _ _ _ h => h) 37
    (⟨fn_aT hf rfl rfl rfl, fj_if h (fun c1 h2 => ⟨fn_aT hf rfl rfl rfl, Or.inl ⟨_, hf.2 11 14 rfl, fj_bd h2 fun q3 e4 h5 => ⟨Nat.le_of_ble_eq_true rfl, fn_aT hf rfl rfl rfl, ⟨hf, none, q3.2, gp_X9_spread (n := n) (r := r) rfl e4, fun _ => ⟨rfl, ⟨fn_aT hf rfl rfl rfl, Or.inl ⟨_, hf.2 12 15 rfl, ⟨fn_aT hf rfl rfl rfl, fj_bd h5 fun q6 e7 h8 => ⟨Nat.le_of_ble_eq_true rfl, fn_aT hf rfl rfl rfl, ⟨hf, none, q6.2, gp_X9_spread (n := n) (r := r) rfl e7, fun _ => ⟨rfl, ⟨fn_aT hf rfl rfl rfl, Or.inl ⟨_, hf.2 13 16 rfl, ⟨fn_aT hf rfl rfl rfl, fj_bd h8 fun q9 e10 h11 => ⟨Nat.le_of_ble_eq_true rfl, fn_aT hf rfl rfl rfl, ⟨hf, none, q9.2, gp_X9_joinBy (n := n) (r := r) rfl e10, fun _ => ⟨rfl, ⟨fn_aT hf rfl rfl rfl, Or.inl ⟨_, hf.2 14 17 rfl, ⟨fn_aT hf rfl rfl rfl, fj_bd h11 fun q12 e13 h14 => ⟨Nat.le_of_ble_eq_true rfl, fn_aT hf rfl rfl rfl, ⟨hf, none, q12.2, gp_X9_joinBy (n := n) (r := r) rfl e13, fun _ => ⟨rfl, ⟨rfl, fj_rt h14 hQ⟩⟩⟩⟩⟩⟩⟩⟩⟩⟩⟩⟩⟩⟩⟩⟩⟩⟩⟩⟩⟩⟩⟩⟩) (fun c1 h2 => ⟨fn_aT hf rfl rfl rfl, Or.inl ⟨_, hf.2 0 7 rfl, fj_gd h2 fun g16 h15 => ⟨24, fn_aT hf rfl rfl rfl, ix_t g16, ⟨fn_aT hf rfl rfl rfl, Or.inl ⟨_, hf.2 1 8 rfl, fj_gd h15 fun g18 h17 => ⟨24, fn_aT hf rfl rfl rfl, ix_t g18, fj_bd h17 fun q19 e20 h21 => ⟨Nat.le_of_ble_eq_true rfl, fn_aT hf rfl rfl rfl, ⟨hf, none, q19.2, gp_X9_offerHop (n := n) (r := r)  e20, fun _ => ⟨rfl, ⟨fn_aT hf rfl rfl rfl, Or.inl ⟨_, hf.2 1 8 rfl, fj_gd h21 fun g23 h22 => ⟨24, fn_aT hf rfl rfl rfl, ix_t g23, ⟨fn_aT hf rfl rfl rfl, Or.inl ⟨_, hf.2 0 7 rfl, fj_gd h22 fun g25 h24 => ⟨24, fn_aT hf rfl rfl rfl, ix_t g25, fj_bd h24 fun q26 e27 h28 => ⟨Nat.le_of_ble_eq_true rfl, fn_aT hf rfl rfl rfl, ⟨hf, none, q26.2, gp_X9_offerHop (n := n) (r := r)  e27, fun _ => ⟨rfl, hK _ h28 _ hQ⟩⟩⟩⟩⟩⟩⟩⟩⟩⟩⟩⟩⟩⟩⟩⟩⟩⟩)⟩)
theorem l_X9_measure {n : Nat} {r : Nat → Nat → Option Nat} (hf : fn_T n r) (s : S_X9_measure) (q : Int32 × fm_) (h : am_lp (st_X9_measure) s = some q) : P_X9_measure n r s q :=
  am_lp_snd (P := P_X9_measure n r) (fun K hK s q h => match s, h with
    | (x1, m), h => t_X9_measure_10 hf (fun s => hK s q) x1 m h) s q h
set_option maxRecDepth 100000 in
theorem t_X9_measure {n : Nat} {r : Nat → Nat → Option Nat} (hf : fn_T n r) {q : Int32 × fm_}  {m : fm_}
  (h : f_X9_measure  m = some q) {Q : Option Value → am_W → Prop} (hQ : Q (en_v q).1 (mk_ n r q.2)) : am_T m_X9_measure sp_X9_measure n Q 0 [some (.ref 6), none] [] (mk_ n r m) :=
  am_T.wp sm_X9_measure (K := am_T m_X9_measure sp_X9_measure n Q) (cuts := [10]) (fun _ _ _ _ h => h) 8
    (⟨fn_aT hf rfl rfl rfl, Or.inl ⟨_, hf.2 10 13 rfl, fh_bd h fun q1 e2 h3 => ⟨Nat.le_of_ble_eq_true rfl, trivial, ⟨trivial, none, q1.2, gp_J7_fill_53178 (n := n) (r := r) (rfl) (fn_ltT hf rfl) e2, fun _ => ⟨rfl, l_X9_measure hf _ _ h3 _ hQ⟩⟩⟩⟩⟩)
noncomputable def G_X9_measure (n : Nat) (r : Nat → Nat → Option Nat) (as : List Value) (m : fm_) : Option (Option Value × fm_) := match as with
  | [.ref x0] => gd_ (Nat.beq x0 6) ((f_X9_measure  m).map en_v)
  | _ => none
set_option maxRecDepth 100000 in
theorem gp_X9_measure {n : Nat} {r : Nat → Nat → Option Nat}   {m : fm_} {q : Int32 × fm_}  (e : f_X9_measure  m = some q) : G_X9_measure n r [.ref 6] m = some (en_v q) := by
  show (gd_ (Nat.beq 6 6) ((f_X9_measure  m).map en_v)) = _
  exact fn_gd rfl (fn_mp e)
set_option maxRecDepth 100000 in
theorem ok_X9_measure : am_mok 9 117 m_X9_measure = true := by decide +kernel
set_option maxRecDepth 100000 in
theorem c_X9_measure (l : Launch) {g : am_G} (hg : fx_ l g) : am_Met l g 4 117 (fn_s fn_T G_X9_measure) := by
  refine am_sound (own := 9) (M := m_X9_measure) (SP := sp_X9_measure) hg.1 (by decide +kernel) ok_X9_measure (by decide +kernel) ?_ (fun q hq hk => absurd hk (am_no61 (M := m_X9_measure) (by decide +kernel) q hq)) (fn_ext l _ rfl g 9) (Or.inl (by decide +kernel)) ?_ ?_
  · intro q hq hk
    have hm : q.2.2.2.1 ∈ am_cs m_X9_measure := am_cs_in hq hk
    rw [show am_cs m_X9_measure = [299, 131, 131, 132, 132, 133, 133] by decide +kernel] at hm
    have hm : q.2.2.2.1 ∈ [131, 132, 133, 299] := (List.all_eq_true.mp (show ([299, 131, 131, 132, 132, 133, 133] : List Nat).all (fun a => decide (a ∈ ([131, 132, 133, 299] : List Nat))) = true by decide +kernel) _ hm |> of_decide_eq_true)
    simp only [List.mem_cons, List.not_mem_nil, or_false] at hm
    rcases hm with hm | hm | hm | hm
    · rw [hm]; exact ⟨0, by omega, c_X9_offerHop l hg⟩
    · rw [hm]; exact ⟨3, by omega, c_X9_spread l hg⟩
    · rw [hm]; exact ⟨2, by omega, c_X9_joinBy l hg⟩
    · rw [hm]; exact ⟨0, by omega, c_J7_fill_53178 l hg⟩
  · intro as w K h
    obtain ⟨hf, y, m1, hG, hK⟩ := h
    unfold G_X9_measure at hG
    split at hG
    · exact Nat.le_of_ble_eq_true rfl
    · cases hG
  · intro as w K h
    obtain ⟨n, i0, l0, r⟩ := w
    obtain ⟨hf, y, m1, hG, hK⟩ := h
    unfold G_X9_measure at hG
    split at hG
    · next x0 =>
      obtain ⟨hx1, hG1⟩ := gd_u hG
      obtain rfl := Nat.eq_of_beq_eq_true hx1
      obtain ⟨q, hq, he⟩ := fn_mu hG1
      obtain ⟨rfl, rfl⟩ := Prod.mk.inj he
      exact t_X9_measure  hf   (m := (i0, l0)) hq hK
    · cases hG

/-! == X9_beside == -/
noncomputable def f_X9_beside (p1 : Int32) (p2 : Int32) (m : fm_) : Option (Int32 × fm_) :=
  (Option.bind (f_X9_at 15 p1 p2 m) fun q1 =>
((some (q1.1, q1.2))))
def sp_X9_beside : am_S := fn_sp [(134, fn_T, G_X9_at)]
theorem sm_X9_beside : am_Smono (sp_X9_beside) := fn_sp_mono _
set_option maxRecDepth 100000 in
theorem t_X9_beside {n : Nat} {r : Nat → Nat → Option Nat} (hf : fn_F n r) {q : Int32 × fm_} (p1 : Int32) (p2 : Int32) {m : fm_}
  (h : f_X9_beside p1 p2 m = some q) {Q : Option Value → am_W → Prop} (hQ : Q (en_i q).1 (mk_ n r q.2)) : am_T m_X9_beside sp_X9_beside n Q 0 [some (.ref 6), some (.int p1), some (.int p2)] [] (mk_ n r m) :=
  am_T.wp sm_X9_beside (K := am_T m_X9_beside sp_X9_beside n Q) (cuts := []) (fun _ _ _ _ h => h) 7
    (⟨fn_aF hf rfl rfl, Or.inl ⟨_, hf.2 6 12 15 rfl, fh_bd h fun q1 e2 h3 => ⟨Nat.le_of_ble_eq_true rfl, trivial, ⟨fn_FT hf, some (.int q1.1), q1.2, gp_X9_at (n := n) (r := r) rfl e2, fun _ => ⟨rfl, fh_rt h3 hQ⟩⟩⟩⟩⟩)
noncomputable def G_X9_beside (n : Nat) (r : Nat → Nat → Option Nat) (as : List Value) (m : fm_) : Option (Option Value × fm_) := match as with
  | [.ref x0, .int p1, .int p2] => gd_ (Nat.beq x0 6) ((f_X9_beside p1 p2 m).map en_i)
  | _ => none
set_option maxRecDepth 100000 in
theorem gp_X9_beside {n : Nat} {r : Nat → Nat → Option Nat}  {p1 : Int32} {p2 : Int32} {m : fm_} {q : Int32 × fm_}  (e : f_X9_beside p1 p2 m = some q) : G_X9_beside n r [.ref 6, .int p1, .int p2] m = some (en_i q) := by
  show (gd_ (Nat.beq 6 6) ((f_X9_beside p1 p2 m).map en_i)) = _
  exact fn_gd rfl (fn_mp e)
set_option maxRecDepth 100000 in
theorem ok_X9_beside : am_mok 9 119 m_X9_beside = true := by decide +kernel
set_option maxRecDepth 100000 in
theorem c_X9_beside (l : Launch) {g : am_G} (hg : fx_ l g) : am_Met l g 1 119 (fn_s fn_F G_X9_beside) := by
  refine am_sound (own := 9) (M := m_X9_beside) (SP := sp_X9_beside) hg.1 (by decide +kernel) ok_X9_beside (by decide +kernel) ?_ (fun q hq hk => absurd hk (am_no61 (M := m_X9_beside) (by decide +kernel) q hq)) (fn_ext l _ rfl g 9) (Or.inl (by decide +kernel)) ?_ ?_
  · intro q hq hk
    have hm : q.2.2.2.1 ∈ am_cs m_X9_beside := am_cs_in hq hk
    rw [show am_cs m_X9_beside = [134] by decide +kernel] at hm
    have hm : q.2.2.2.1 ∈ [134] := (List.all_eq_true.mp (show ([134] : List Nat).all (fun a => decide (a ∈ ([134] : List Nat))) = true by decide +kernel) _ hm |> of_decide_eq_true)
    simp only [List.mem_cons, List.not_mem_nil, or_false] at hm
    rcases hm with hm
    · rw [hm]; exact ⟨0, by omega, c_X9_at l hg⟩
  · intro as w K h
    obtain ⟨hf, y, m1, hG, hK⟩ := h
    unfold G_X9_beside at hG
    split at hG
    · exact Nat.le_of_ble_eq_true rfl
    · cases hG
  · intro as w K h
    obtain ⟨n, i0, l0, r⟩ := w
    obtain ⟨hf, y, m1, hG, hK⟩ := h
    unfold G_X9_beside at hG
    split at hG
    · next x0 p1 p2 =>
      obtain ⟨hx1, hG1⟩ := gd_u hG
      obtain rfl := Nat.eq_of_beq_eq_true hx1
      obtain ⟨q, hq, he⟩ := fn_mu hG1
      obtain ⟨rfl, rfl⟩ := Prod.mk.inj he
      exact t_X9_beside  hf  p1 p2 (m := (i0, l0)) hq hK
    · cases hG

/-! == X9_byZone == -/
noncomputable def f_X9_byZone (p1 : Int32) (p2 : Int32) (m : fm_) : Option (Int32 × fm_) :=
  (Option.bind (f_X9_at 16 p1 p2 m) fun q1 =>
((some (q1.1, q1.2))))
def sp_X9_byZone : am_S := fn_sp [(134, fn_T, G_X9_at)]
theorem sm_X9_byZone : am_Smono (sp_X9_byZone) := fn_sp_mono _
set_option maxRecDepth 100000 in
theorem t_X9_byZone {n : Nat} {r : Nat → Nat → Option Nat} (hf : fn_F n r) {q : Int32 × fm_} (p1 : Int32) (p2 : Int32) {m : fm_}
  (h : f_X9_byZone p1 p2 m = some q) {Q : Option Value → am_W → Prop} (hQ : Q (en_i q).1 (mk_ n r q.2)) : am_T m_X9_byZone sp_X9_byZone n Q 0 [some (.ref 6), some (.int p1), some (.int p2)] [] (mk_ n r m) :=
  am_T.wp sm_X9_byZone (K := am_T m_X9_byZone sp_X9_byZone n Q) (cuts := []) (fun _ _ _ _ h => h) 7
    (⟨fn_aF hf rfl rfl, Or.inl ⟨_, hf.2 6 13 16 rfl, fh_bd h fun q1 e2 h3 => ⟨Nat.le_of_ble_eq_true rfl, trivial, ⟨fn_FT hf, some (.int q1.1), q1.2, gp_X9_at (n := n) (r := r) rfl e2, fun _ => ⟨rfl, fh_rt h3 hQ⟩⟩⟩⟩⟩)
noncomputable def G_X9_byZone (n : Nat) (r : Nat → Nat → Option Nat) (as : List Value) (m : fm_) : Option (Option Value × fm_) := match as with
  | [.ref x0, .int p1, .int p2] => gd_ (Nat.beq x0 6) ((f_X9_byZone p1 p2 m).map en_i)
  | _ => none
set_option maxRecDepth 100000 in
theorem gp_X9_byZone {n : Nat} {r : Nat → Nat → Option Nat}  {p1 : Int32} {p2 : Int32} {m : fm_} {q : Int32 × fm_}  (e : f_X9_byZone p1 p2 m = some q) : G_X9_byZone n r [.ref 6, .int p1, .int p2] m = some (en_i q) := by
  show (gd_ (Nat.beq 6 6) ((f_X9_byZone p1 p2 m).map en_i)) = _
  exact fn_gd rfl (fn_mp e)
set_option maxRecDepth 100000 in
theorem ok_X9_byZone : am_mok 9 120 m_X9_byZone = true := by decide +kernel
set_option maxRecDepth 100000 in
theorem c_X9_byZone (l : Launch) {g : am_G} (hg : fx_ l g) : am_Met l g 1 120 (fn_s fn_F G_X9_byZone) := by
  refine am_sound (own := 9) (M := m_X9_byZone) (SP := sp_X9_byZone) hg.1 (by decide +kernel) ok_X9_byZone (by decide +kernel) ?_ (fun q hq hk => absurd hk (am_no61 (M := m_X9_byZone) (by decide +kernel) q hq)) (fn_ext l _ rfl g 9) (Or.inl (by decide +kernel)) ?_ ?_
  · intro q hq hk
    have hm : q.2.2.2.1 ∈ am_cs m_X9_byZone := am_cs_in hq hk
    rw [show am_cs m_X9_byZone = [134] by decide +kernel] at hm
    have hm : q.2.2.2.1 ∈ [134] := (List.all_eq_true.mp (show ([134] : List Nat).all (fun a => decide (a ∈ ([134] : List Nat))) = true by decide +kernel) _ hm |> of_decide_eq_true)
    simp only [List.mem_cons, List.not_mem_nil, or_false] at hm
    rcases hm with hm
    · rw [hm]; exact ⟨0, by omega, c_X9_at l hg⟩
  · intro as w K h
    obtain ⟨hf, y, m1, hG, hK⟩ := h
    unfold G_X9_byZone at hG
    split at hG
    · exact Nat.le_of_ble_eq_true rfl
    · cases hG
  · intro as w K h
    obtain ⟨n, i0, l0, r⟩ := w
    obtain ⟨hf, y, m1, hG, hK⟩ := h
    unfold G_X9_byZone at hG
    split at hG
    · next x0 p1 p2 =>
      obtain ⟨hx1, hG1⟩ := gd_u hG
      obtain rfl := Nat.eq_of_beq_eq_true hx1
      obtain ⟨q, hq, he⟩ := fn_mu hG1
      obtain ⟨rfl, rfl⟩ := Prod.mk.inj he
      exact t_X9_byZone  hf  p1 p2 (m := (i0, l0)) hq hK
    · cases hG

/-! == X9_byOutside == -/
noncomputable def f_X9_byOutside (p1 : Int32) (p2 : Int32) (m : fm_) : Option (Int32 × fm_) :=
  (Option.bind (f_X9_at 17 p1 p2 m) fun q1 =>
((some (q1.1, q1.2))))
def sp_X9_byOutside : am_S := fn_sp [(134, fn_T, G_X9_at)]
theorem sm_X9_byOutside : am_Smono (sp_X9_byOutside) := fn_sp_mono _
set_option maxRecDepth 100000 in
theorem t_X9_byOutside {n : Nat} {r : Nat → Nat → Option Nat} (hf : fn_F n r) {q : Int32 × fm_} (p1 : Int32) (p2 : Int32) {m : fm_}
  (h : f_X9_byOutside p1 p2 m = some q) {Q : Option Value → am_W → Prop} (hQ : Q (en_i q).1 (mk_ n r q.2)) : am_T m_X9_byOutside sp_X9_byOutside n Q 0 [some (.ref 6), some (.int p1), some (.int p2)] [] (mk_ n r m) :=
  am_T.wp sm_X9_byOutside (K := am_T m_X9_byOutside sp_X9_byOutside n Q) (cuts := []) (fun _ _ _ _ h => h) 7
    (⟨fn_aF hf rfl rfl, Or.inl ⟨_, hf.2 6 14 17 rfl, fh_bd h fun q1 e2 h3 => ⟨Nat.le_of_ble_eq_true rfl, trivial, ⟨fn_FT hf, some (.int q1.1), q1.2, gp_X9_at (n := n) (r := r) rfl e2, fun _ => ⟨rfl, fh_rt h3 hQ⟩⟩⟩⟩⟩)
noncomputable def G_X9_byOutside (n : Nat) (r : Nat → Nat → Option Nat) (as : List Value) (m : fm_) : Option (Option Value × fm_) := match as with
  | [.ref x0, .int p1, .int p2] => gd_ (Nat.beq x0 6) ((f_X9_byOutside p1 p2 m).map en_i)
  | _ => none
set_option maxRecDepth 100000 in
theorem gp_X9_byOutside {n : Nat} {r : Nat → Nat → Option Nat}  {p1 : Int32} {p2 : Int32} {m : fm_} {q : Int32 × fm_}  (e : f_X9_byOutside p1 p2 m = some q) : G_X9_byOutside n r [.ref 6, .int p1, .int p2] m = some (en_i q) := by
  show (gd_ (Nat.beq 6 6) ((f_X9_byOutside p1 p2 m).map en_i)) = _
  exact fn_gd rfl (fn_mp e)
set_option maxRecDepth 100000 in
theorem ok_X9_byOutside : am_mok 9 121 m_X9_byOutside = true := by decide +kernel
set_option maxRecDepth 100000 in
theorem c_X9_byOutside (l : Launch) {g : am_G} (hg : fx_ l g) : am_Met l g 1 121 (fn_s fn_F G_X9_byOutside) := by
  refine am_sound (own := 9) (M := m_X9_byOutside) (SP := sp_X9_byOutside) hg.1 (by decide +kernel) ok_X9_byOutside (by decide +kernel) ?_ (fun q hq hk => absurd hk (am_no61 (M := m_X9_byOutside) (by decide +kernel) q hq)) (fn_ext l _ rfl g 9) (Or.inl (by decide +kernel)) ?_ ?_
  · intro q hq hk
    have hm : q.2.2.2.1 ∈ am_cs m_X9_byOutside := am_cs_in hq hk
    rw [show am_cs m_X9_byOutside = [134] by decide +kernel] at hm
    have hm : q.2.2.2.1 ∈ [134] := (List.all_eq_true.mp (show ([134] : List Nat).all (fun a => decide (a ∈ ([134] : List Nat))) = true by decide +kernel) _ hm |> of_decide_eq_true)
    simp only [List.mem_cons, List.not_mem_nil, or_false] at hm
    rcases hm with hm
    · rw [hm]; exact ⟨0, by omega, c_X9_at l hg⟩
  · intro as w K h
    obtain ⟨hf, y, m1, hG, hK⟩ := h
    unfold G_X9_byOutside at hG
    split at hG
    · exact Nat.le_of_ble_eq_true rfl
    · cases hG
  · intro as w K h
    obtain ⟨n, i0, l0, r⟩ := w
    obtain ⟨hf, y, m1, hG, hK⟩ := h
    unfold G_X9_byOutside at hG
    split at hG
    · next x0 p1 p2 =>
      obtain ⟨hx1, hG1⟩ := gd_u hG
      obtain rfl := Nat.eq_of_beq_eq_true hx1
      obtain ⟨q, hq, he⟩ := fn_mu hG1
      obtain ⟨rfl, rfl⟩ := Prod.mk.inj he
      exact t_X9_byOutside  hf  p1 p2 (m := (i0, l0)) hq hK
    · cases hG

/-! == X9_isZone == -/
noncomputable def f_X9_isZone (p1 : Int32) (m : fm_) : Option (Int32 × fm_) :=
  (if (((gi_ m 6 4) >>> (p1 &&& 31)) &&& 1) = 1 then
((some (1, m)))
else
((some (0, m))))
def sp_X9_isZone : am_S := fn_sp []
theorem sm_X9_isZone : am_Smono (sp_X9_isZone) := fn_sp_mono _
set_option maxRecDepth 100000 in
theorem t_X9_isZone {n : Nat} {r : Nat → Nat → Option Nat} (hf : fn_F n r) {q : Int32 × fm_} (p1 : Int32) {m : fm_}
  (h : f_X9_isZone p1 m = some q) {Q : Option Value → am_W → Prop} (hQ : Q (en_i q).1 (mk_ n r q.2)) : am_T m_X9_isZone sp_X9_isZone n Q 0 [some (.ref 6), some (.int p1)] [] (mk_ n r m) :=
  am_T.wp sm_X9_isZone (K := am_T m_X9_isZone sp_X9_isZone n Q) (cuts := []) (fun _ _ _ _ h => h) 12
    (⟨fn_aF hf rfl rfl, fh_in h (fun c1 h2 => ⟨rfl, Or.inl rfl, fh_rt h2 hQ⟩) (fun c1 h2 => ⟨rfl, Or.inr rfl, fh_rt h2 hQ⟩)⟩)
noncomputable def G_X9_isZone (n : Nat) (r : Nat → Nat → Option Nat) (as : List Value) (m : fm_) : Option (Option Value × fm_) := match as with
  | [.ref x0, .int p1] => gd_ (Nat.beq x0 6) ((f_X9_isZone p1 m).map en_i)
  | _ => none
set_option maxRecDepth 100000 in
theorem gp_X9_isZone {n : Nat} {r : Nat → Nat → Option Nat}  {p1 : Int32} {m : fm_} {q : Int32 × fm_}  (e : f_X9_isZone p1 m = some q) : G_X9_isZone n r [.ref 6, .int p1] m = some (en_i q) := by
  show (gd_ (Nat.beq 6 6) ((f_X9_isZone p1 m).map en_i)) = _
  exact fn_gd rfl (fn_mp e)
set_option maxRecDepth 100000 in
theorem ok_X9_isZone : am_mok 9 124 m_X9_isZone = true := by decide +kernel
set_option maxRecDepth 100000 in
theorem c_X9_isZone (l : Launch) {g : am_G} (hg : fx_ l g) : am_Met l g 0 124 (fn_s fn_F G_X9_isZone) := by
  refine am_sound (own := 9) (M := m_X9_isZone) (SP := sp_X9_isZone) hg.1 (by decide +kernel) ok_X9_isZone (by decide +kernel) ?_ (fun q hq hk => absurd hk (am_no61 (M := m_X9_isZone) (by decide +kernel) q hq)) (fn_ext l _ rfl g 9) (Or.inl (by decide +kernel)) ?_ ?_
  · intro q hq hk
    have hm : q.2.2.2.1 ∈ am_cs m_X9_isZone := am_cs_in hq hk
    rw [show am_cs m_X9_isZone = [] by decide +kernel] at hm
    cases hm
  · intro as w K h
    obtain ⟨hf, y, m1, hG, hK⟩ := h
    unfold G_X9_isZone at hG
    split at hG
    · exact Nat.le_of_ble_eq_true rfl
    · cases hG
  · intro as w K h
    obtain ⟨n, i0, l0, r⟩ := w
    obtain ⟨hf, y, m1, hG, hK⟩ := h
    unfold G_X9_isZone at hG
    split at hG
    · next x0 p1 =>
      obtain ⟨hx1, hG1⟩ := gd_u hG
      obtain rfl := Nat.eq_of_beq_eq_true hx1
      obtain ⟨q, hq, he⟩ := fn_mu hG1
      obtain ⟨rfl, rfl⟩ := Prod.mk.inj he
      exact t_X9_isZone  hf  p1 (m := (i0, l0)) hq hK
    · cases hG

/-! == X9_pointOf == -/
noncomputable def f_X9_pointOf (p1 : Int32) (m : fm_) : Option (Int32 × fm_) :=
  (if p1 < 0 then
((some ((-1), m)))
else
(if (gi_ m 6 8) ≤ p1 then
((some ((-1), m)))
else
(gd_ (ix_ p1 8)
((some ((gi_ m 10 (Int32.toNatClampNeg p1)), m))))))
def sp_X9_pointOf : am_S := fn_sp []
theorem sm_X9_pointOf : am_Smono (sp_X9_pointOf) := fn_sp_mono _
set_option maxRecDepth 100000 in
theorem t_X9_pointOf {n : Nat} {r : Nat → Nat → Option Nat} (hf : fn_F n r) {q : Int32 × fm_} (p1 : Int32) {m : fm_}
  (h : f_X9_pointOf p1 m = some q) {Q : Option Value → am_W → Prop} (hQ : Q (en_i q).1 (mk_ n r q.2)) : am_T m_X9_pointOf sp_X9_pointOf n Q 0 [some (.ref 6), some (.int p1)] [] (mk_ n r m) :=
  am_T.wp sm_X9_pointOf (K := am_T m_X9_pointOf sp_X9_pointOf n Q) (cuts := []) (fun _ _ _ _ h => h) 13
    (fh_if h (fun c1 h2 => ⟨rfl, fh_rt h2 hQ⟩) (fun c1 h2 => ⟨fn_aF hf rfl rfl, fh_if h2 (fun c3 h4 => ⟨rfl, fh_rt h4 hQ⟩) (fun c3 h4 => ⟨fn_aF hf rfl rfl, Or.inl ⟨_, hf.2 6 5 10 rfl, fh_gd h4 fun g6 h5 => ⟨8, fn_aF hf rfl rfl, ix_t g6, ⟨rfl, fh_rt h5 hQ⟩⟩⟩⟩)⟩))
noncomputable def G_X9_pointOf (n : Nat) (r : Nat → Nat → Option Nat) (as : List Value) (m : fm_) : Option (Option Value × fm_) := match as with
  | [.ref x0, .int p1] => gd_ (Nat.beq x0 6) ((f_X9_pointOf p1 m).map en_i)
  | _ => none
set_option maxRecDepth 100000 in
theorem gp_X9_pointOf {n : Nat} {r : Nat → Nat → Option Nat}  {p1 : Int32} {m : fm_} {q : Int32 × fm_}  (e : f_X9_pointOf p1 m = some q) : G_X9_pointOf n r [.ref 6, .int p1] m = some (en_i q) := by
  show (gd_ (Nat.beq 6 6) ((f_X9_pointOf p1 m).map en_i)) = _
  exact fn_gd rfl (fn_mp e)
set_option maxRecDepth 100000 in
theorem ok_X9_pointOf : am_mok 9 125 m_X9_pointOf = true := by decide +kernel
set_option maxRecDepth 100000 in
theorem c_X9_pointOf (l : Launch) {g : am_G} (hg : fx_ l g) : am_Met l g 0 125 (fn_s fn_F G_X9_pointOf) := by
  refine am_sound (own := 9) (M := m_X9_pointOf) (SP := sp_X9_pointOf) hg.1 (by decide +kernel) ok_X9_pointOf (by decide +kernel) ?_ (fun q hq hk => absurd hk (am_no61 (M := m_X9_pointOf) (by decide +kernel) q hq)) (fn_ext l _ rfl g 9) (Or.inl (by decide +kernel)) ?_ ?_
  · intro q hq hk
    have hm : q.2.2.2.1 ∈ am_cs m_X9_pointOf := am_cs_in hq hk
    rw [show am_cs m_X9_pointOf = [] by decide +kernel] at hm
    cases hm
  · intro as w K h
    obtain ⟨hf, y, m1, hG, hK⟩ := h
    unfold G_X9_pointOf at hG
    split at hG
    · exact Nat.le_of_ble_eq_true rfl
    · cases hG
  · intro as w K h
    obtain ⟨n, i0, l0, r⟩ := w
    obtain ⟨hf, y, m1, hG, hK⟩ := h
    unfold G_X9_pointOf at hG
    split at hG
    · next x0 p1 =>
      obtain ⟨hx1, hG1⟩ := gd_u hG
      obtain rfl := Nat.eq_of_beq_eq_true hx1
      obtain ⟨q, hq, he⟩ := fn_mu hG1
      obtain ⟨rfl, rfl⟩ := Prod.mk.inj he
      exact t_X9_pointOf  hf  p1 (m := (i0, l0)) hq hK
    · cases hG

/-! == X9_works == -/
noncomputable def f_X9_works (p1 : Int32) (p2 : Int32) (m : fm_) : Option (Int32 × fm_) :=
  (Option.bind (f_X11_isUnder p1 (gi_ m 6 8) m) fun q1 =>
(if q1.1 = 0 then
((some (0, q1.2)))
else
(gd_ (ix_ p1 8)
(if p2 < (gi_ q1.2 11 (Int32.toNatClampNeg p1)) then
((some (0, q1.2)))
else
(gd_ (ix_ p1 8)
(if (gi_ q1.2 12 (Int32.toNatClampNeg p1)) ≤ p2 then
((some (0, q1.2)))
else
((some (1, q1.2)))))))))
def sp_X9_works : am_S := fn_sp [(182, fn_0, G_X11_isUnder)]
theorem sm_X9_works : am_Smono (sp_X9_works) := fn_sp_mono _
set_option maxRecDepth 100000 in
theorem t_X9_works {n : Nat} {r : Nat → Nat → Option Nat} (hf : fn_F n r) {q : Int32 × fm_} (p1 : Int32) (p2 : Int32) {m : fm_}
  (h : f_X9_works p1 p2 m = some q) {Q : Option Value → am_W → Prop} (hQ : Q (en_i q).1 (mk_ n r q.2)) : am_T m_X9_works sp_X9_works n Q 0 [some (.ref 6), some (.int p1), some (.int p2)] [] (mk_ n r m) :=
  am_T.wp sm_X9_works (K := am_T m_X9_works sp_X9_works n Q) (cuts := []) (fun _ _ _ _ h => h) 21
    (⟨fn_aF hf rfl rfl, fh_bd h fun q1 e2 h3 => ⟨Nat.le_of_ble_eq_true rfl, trivial, ⟨trivial, some (.int q1.1), q1.2, gp_X11_isUnder (n := n) (r := r)  e2, fun _ => fh_if h3 (fun c4 h5 => ⟨rfl, Or.inl rfl, fh_rt h5 hQ⟩) (fun c4 h5 => ⟨fn_aF hf rfl rfl, Or.inl ⟨_, hf.2 6 6 11 rfl, fh_gd h5 fun g7 h6 => ⟨8, fn_aF hf rfl rfl, ix_t g7, fh_if h6 (fun c8 h9 => ⟨rfl, Or.inl rfl, fh_rt h9 hQ⟩) (fun c8 h9 => ⟨fn_aF hf rfl rfl, Or.inl ⟨_, hf.2 6 7 12 rfl, fh_gd h9 fun g11 h10 => ⟨8, fn_aF hf rfl rfl, ix_t g11, fh_if h10 (fun c12 h13 => ⟨rfl, Or.inl rfl, fh_rt h13 hQ⟩) (fun c12 h13 => ⟨rfl, Or.inr rfl, fh_rt h13 hQ⟩)⟩⟩⟩)⟩⟩⟩)⟩⟩⟩)
noncomputable def G_X9_works (n : Nat) (r : Nat → Nat → Option Nat) (as : List Value) (m : fm_) : Option (Option Value × fm_) := match as with
  | [.ref x0, .int p1, .int p2] => gd_ (Nat.beq x0 6) ((f_X9_works p1 p2 m).map en_i)
  | _ => none
set_option maxRecDepth 100000 in
theorem gp_X9_works {n : Nat} {r : Nat → Nat → Option Nat}  {p1 : Int32} {p2 : Int32} {m : fm_} {q : Int32 × fm_}  (e : f_X9_works p1 p2 m = some q) : G_X9_works n r [.ref 6, .int p1, .int p2] m = some (en_i q) := by
  show (gd_ (Nat.beq 6 6) ((f_X9_works p1 p2 m).map en_i)) = _
  exact fn_gd rfl (fn_mp e)
set_option maxRecDepth 100000 in
theorem ok_X9_works : am_mok 9 126 m_X9_works = true := by decide +kernel
set_option maxRecDepth 100000 in
theorem c_X9_works (l : Launch) {g : am_G} (hg : fx_ l g) : am_Met l g 1 126 (fn_s fn_F G_X9_works) := by
  refine am_sound (own := 9) (M := m_X9_works) (SP := sp_X9_works) hg.1 (by decide +kernel) ok_X9_works (by decide +kernel) ?_ (fun q hq hk => absurd hk (am_no61 (M := m_X9_works) (by decide +kernel) q hq)) (fn_ext l _ rfl g 9) (Or.inl (by decide +kernel)) ?_ ?_
  · intro q hq hk
    have hm : q.2.2.2.1 ∈ am_cs m_X9_works := am_cs_in hq hk
    rw [show am_cs m_X9_works = [182] by decide +kernel] at hm
    have hm : q.2.2.2.1 ∈ [182] := (List.all_eq_true.mp (show ([182] : List Nat).all (fun a => decide (a ∈ ([182] : List Nat))) = true by decide +kernel) _ hm |> of_decide_eq_true)
    simp only [List.mem_cons, List.not_mem_nil, or_false] at hm
    rcases hm with hm
    · rw [hm]; exact ⟨0, by omega, c_X11_isUnder l hg⟩
  · intro as w K h
    obtain ⟨hf, y, m1, hG, hK⟩ := h
    unfold G_X9_works at hG
    split at hG
    · exact Nat.le_of_ble_eq_true rfl
    · cases hG
  · intro as w K h
    obtain ⟨n, i0, l0, r⟩ := w
    obtain ⟨hf, y, m1, hG, hK⟩ := h
    unfold G_X9_works at hG
    split at hG
    · next x0 p1 p2 =>
      obtain ⟨hx1, hG1⟩ := gd_u hG
      obtain rfl := Nat.eq_of_beq_eq_true hx1
      obtain ⟨q, hq, he⟩ := fn_mu hG1
      obtain ⟨rfl, rfl⟩ := Prod.mk.inj he
      exact t_X9_works  hf  p1 p2 (m := (i0, l0)) hq hK
    · cases hG

/-! == X4_clear == -/
noncomputable def f_X4_clear (o : Nat) (p1 : Int32) (m : fm_) : Option (Int32 × fm_) :=
  (Option.bind (f_J7_fill_53178 (o + 4) 10 (-1) (si_ (si_ (si_ m o 0 p1) o 2 0) o 5 0)) fun q1 =>
((some (0, (si_ (si_ (si_ (si_ (si_ q1.2 o 7 (-1)) o 8 (-1)) o 9 (-1)) o 10 (-1)) o 11 (-1))))))
def sp_X4_clear : am_S := fn_sp [(299, fn_0, G_J7_fill_53178)]
theorem sm_X4_clear : am_Smono (sp_X4_clear) := fn_sp_mono _
set_option maxRecDepth 100000 in
theorem t_X4_clear (o : Nat) {n : Nat} {r : Nat → Nat → Option Nat} (hf : fn_F n r) (ho : is_O o = true) {q : Int32 × fm_} (p1 : Int32) {m : fm_}
  (h : f_X4_clear o p1 m = some q) {Q : Option Value → am_W → Prop} (hQ : Q (en_v q).1 (mk_ n r q.2)) : am_T m_X4_clear sp_X4_clear n Q 0 [some (.ref o), some (.int p1)] [] (mk_ n r m) :=
  am_T.wp sm_X4_clear (K := am_T m_X4_clear sp_X4_clear n Q) (cuts := []) (fun _ _ _ _ h => h) 30
    (⟨fn_aO0 hf ho rfl, ⟨fn_aO0 hf ho rfl, ⟨fn_aO0 hf ho rfl, ⟨fn_aO0 hf ho rfl, Or.inl ⟨_, fn_rO6 hf ho, fh_bd h fun q1 e2 h3 => ⟨Nat.le_of_ble_eq_true rfl, trivial, ⟨trivial, none, q1.2, gp_J7_fill_53178 (n := n) (r := r) (fn_sO4 ho) (fn_ltF hf (fn_sO4 ho)) e2, fun _ => ⟨rfl, ⟨fn_aO0 hf ho rfl, ⟨fn_aO0 hf ho rfl, ⟨fn_aO0 hf ho rfl, ⟨fn_aO0 hf ho rfl, ⟨fn_aO0 hf ho rfl, ⟨rfl, fh_rt h3 hQ⟩⟩⟩⟩⟩⟩⟩⟩⟩⟩⟩⟩⟩⟩)
noncomputable def G_X4_clear (n : Nat) (r : Nat → Nat → Option Nat) (as : List Value) (m : fm_) : Option (Option Value × fm_) := match as with
  | [.ref o, .int p1] => gd_ (is_O o) ((f_X4_clear o p1 m).map en_v)
  | _ => none
set_option maxRecDepth 100000 in
theorem gp_X4_clear {n : Nat} {r : Nat → Nat → Option Nat} {o : Nat} {p1 : Int32} {m : fm_} {q : Int32 × fm_} (ho : is_O o = true) (e : f_X4_clear o p1 m = some q) : G_X4_clear n r [.ref o, .int p1] m = some (en_v q) := by
  show (gd_ (is_O o) ((f_X4_clear o p1 m).map en_v)) = _
  exact fn_gd ho (fn_mp e)
set_option maxRecDepth 100000 in
theorem ok_X4_clear : am_mok 4 35 m_X4_clear = true := by decide +kernel
set_option maxRecDepth 100000 in
theorem c_X4_clear (l : Launch) {g : am_G} (hg : fx_ l g) : am_Met l g 1 35 (fn_s fn_F G_X4_clear) := by
  refine am_sound (own := 4) (M := m_X4_clear) (SP := sp_X4_clear) hg.1 (by decide +kernel) ok_X4_clear (by decide +kernel) ?_ (fun q hq hk => absurd hk (am_no61 (M := m_X4_clear) (by decide +kernel) q hq)) (fn_ext l _ rfl g 4) (Or.inl (by decide +kernel)) ?_ ?_
  · intro q hq hk
    have hm : q.2.2.2.1 ∈ am_cs m_X4_clear := am_cs_in hq hk
    rw [show am_cs m_X4_clear = [299] by decide +kernel] at hm
    have hm : q.2.2.2.1 ∈ [299] := (List.all_eq_true.mp (show ([299] : List Nat).all (fun a => decide (a ∈ ([299] : List Nat))) = true by decide +kernel) _ hm |> of_decide_eq_true)
    simp only [List.mem_cons, List.not_mem_nil, or_false] at hm
    rcases hm with hm
    · rw [hm]; exact ⟨0, by omega, c_J7_fill_53178 l hg⟩
  · intro as w K h
    obtain ⟨hf, y, m1, hG, hK⟩ := h
    unfold G_X4_clear at hG
    split at hG
    · exact Nat.le_of_ble_eq_true rfl
    · cases hG
  · intro as w K h
    obtain ⟨n, i0, l0, r⟩ := w
    obtain ⟨hf, y, m1, hG, hK⟩ := h
    unfold G_X4_clear at hG
    split at hG
    · next o p1 =>
      obtain ⟨ho, hG1⟩ := gd_u hG
      obtain ⟨q, hq, he⟩ := fn_mu hG1
      obtain ⟨rfl, rfl⟩ := Prod.mk.inj he
      exact t_X4_clear o hf ho p1 (m := (i0, l0)) hq hK
    · cases hG

/-! == X4_addStep == -/
noncomputable def f_X4_addStep (o : Nat) (p1 : Int32) (m : fm_) : Option (Int32 × fm_) :=
  (if 400 ≤ (gi_ m o 2) then
((some (0, m)))
else
(gd_ (ix_ (gi_ m o 2) 400)
((some (0, (si_ (si_ m (o + 1) (Int32.toNatClampNeg (gi_ m o 2)) p1) o 2 ((gi_ (si_ m (o + 1) (Int32.toNatClampNeg (gi_ m o 2)) p1) o 2) + 1)))))))
def sp_X4_addStep : am_S := fn_sp []
theorem sm_X4_addStep : am_Smono (sp_X4_addStep) := fn_sp_mono _
set_option maxRecDepth 100000 in
theorem t_X4_addStep (o : Nat) {n : Nat} {r : Nat → Nat → Option Nat} (hf : fn_F n r) (ho : is_O o = true) {q : Int32 × fm_} (p1 : Int32) {m : fm_}
  (h : f_X4_addStep o p1 m = some q) {Q : Option Value → am_W → Prop} (hQ : Q (en_v q).1 (mk_ n r q.2)) : am_T m_X4_addStep sp_X4_addStep n Q 0 [some (.ref o), some (.int p1)] [] (mk_ n r m) :=
  am_T.wp sm_X4_addStep (K := am_T m_X4_addStep sp_X4_addStep n Q) (cuts := []) (fun _ _ _ _ h => h) 18
    (⟨fn_aO0 hf ho rfl, fh_if h (fun c1 h2 => ⟨rfl, fh_rt h2 hQ⟩) (fun c1 h2 => ⟨fn_aO0 hf ho rfl, Or.inl ⟨_, fn_rO1 hf ho, ⟨fn_aO0 hf ho rfl, fh_gd h2 fun g4 h3 => ⟨400, fn_aO1 hf ho rfl, ix_t g4, ⟨fn_aO0 hf ho rfl, ⟨fn_aO0 hf ho rfl, ⟨rfl, fh_rt h3 hQ⟩⟩⟩⟩⟩⟩⟩)⟩)
noncomputable def G_X4_addStep (n : Nat) (r : Nat → Nat → Option Nat) (as : List Value) (m : fm_) : Option (Option Value × fm_) := match as with
  | [.ref o, .int p1] => gd_ (is_O o) ((f_X4_addStep o p1 m).map en_v)
  | _ => none
set_option maxRecDepth 100000 in
theorem gp_X4_addStep {n : Nat} {r : Nat → Nat → Option Nat} {o : Nat} {p1 : Int32} {m : fm_} {q : Int32 × fm_} (ho : is_O o = true) (e : f_X4_addStep o p1 m = some q) : G_X4_addStep n r [.ref o, .int p1] m = some (en_v q) := by
  show (gd_ (is_O o) ((f_X4_addStep o p1 m).map en_v)) = _
  exact fn_gd ho (fn_mp e)
set_option maxRecDepth 100000 in
theorem ok_X4_addStep : am_mok 4 36 m_X4_addStep = true := by decide +kernel
set_option maxRecDepth 100000 in
theorem c_X4_addStep (l : Launch) {g : am_G} (hg : fx_ l g) : am_Met l g 0 36 (fn_s fn_F G_X4_addStep) := by
  refine am_sound (own := 4) (M := m_X4_addStep) (SP := sp_X4_addStep) hg.1 (by decide +kernel) ok_X4_addStep (by decide +kernel) ?_ (fun q hq hk => absurd hk (am_no61 (M := m_X4_addStep) (by decide +kernel) q hq)) (fn_ext l _ rfl g 4) (Or.inl (by decide +kernel)) ?_ ?_
  · intro q hq hk
    have hm : q.2.2.2.1 ∈ am_cs m_X4_addStep := am_cs_in hq hk
    rw [show am_cs m_X4_addStep = [] by decide +kernel] at hm
    cases hm
  · intro as w K h
    obtain ⟨hf, y, m1, hG, hK⟩ := h
    unfold G_X4_addStep at hG
    split at hG
    · exact Nat.le_of_ble_eq_true rfl
    · cases hG
  · intro as w K h
    obtain ⟨n, i0, l0, r⟩ := w
    obtain ⟨hf, y, m1, hG, hK⟩ := h
    unfold G_X4_addStep at hG
    split at hG
    · next o p1 =>
      obtain ⟨ho, hG1⟩ := gd_u hG
      obtain ⟨q, hq, he⟩ := fn_mu hG1
      obtain ⟨rfl, rfl⟩ := Prod.mk.inj he
      exact t_X4_addStep o hf ho p1 (m := (i0, l0)) hq hK
    · cases hG

