/-! == X12_next == -/
abbrev S_X12_next : Type := (fm_) ⊕ (Int32 × Int32 × fm_) ⊕ (Int32 × Int32 × fm_)
noncomputable def st_X12_next (s : S_X12_next) : Option (S_X12_next ⊕ (Int32 × fm_)) := match s with
  | Sum.inl ((m)) =>
    (Option.bind (f_X12_here 0 m) fun q1 =>
(if q1.1 = 32 then
((some (Sum.inl (Sum.inl (((si_ q1.2 106 4 ((gi_ q1.2 106 4) + 1))))))))
else
(Option.bind (f_X12_here 0 q1.2) fun q6 =>
(if q6.1 = 10 then
((some (Sum.inl (Sum.inl (((si_ q6.2 106 4 ((gi_ q6.2 106 4) + 1))))))))
else
(Option.bind (f_X12_here 0 (si_ q6.2 106 7 (gi_ q6.2 106 4))) fun q11 =>
(Option.bind (f_X12_pointSize q11.2) fun q14 =>
(if 0 ≤ q11.1 then
(if q14.1 ≤ 0 then
(Option.bind (f_X12_isLetter q11.1 (si_ (sl_ q14.2 106 9 0) 106 8 0)) fun q21 =>
(if q21.1 = 0 then
(Option.bind (f_X12_isDigit q11.1 q21.2) fun q26 =>
(if q26.1 = 0 then
(Option.bind (f_X12_isSign q11.1 q26.2) fun q31 =>
(if q31.1 = 0 then
(if (4 : Int32) = 4 then
((some (Sum.inr (0, (si_ q31.2 106 6 4)))))
else
((some (Sum.inr (0, (si_ (si_ q31.2 106 6 4) 106 4 ((gi_ q31.2 106 4) + 1)))))))
else
(if q11.1 = 4 then
((some (Sum.inr (0, (si_ q31.2 106 6 q11.1)))))
else
((some (Sum.inr (0, (si_ (si_ q31.2 106 6 q11.1) 106 4 ((gi_ q31.2 106 4) + 1)))))))))
else
((some (Sum.inl (Sum.inr (Sum.inr ((q11.1, q14.1, q26.2)))))))))
else
((some (Sum.inl (Sum.inr (Sum.inl ((q11.1, q14.1, q21.2)))))))))
else
(if q14.1 = 2 then
(Option.bind (f_X12_here 1 (si_ (sl_ q14.2 106 9 0) 106 8 0)) fun q50 =>
(if (3 : Int32) = 4 then
((some (Sum.inr (0, (si_ (si_ q50.2 106 8 (q50.1 - 48)) 106 6 3)))))
else
((some (Sum.inr (0, (si_ (si_ (si_ q50.2 106 8 (q50.1 - 48)) 106 6 3) 106 4 ((gi_ q50.2 106 4) + q14.1))))))))
else
(Option.bind (f_X12_here 1 (si_ (sl_ q14.2 106 9 0) 106 8 0)) fun q42 =>
(Option.bind (f_X12_here 2 q42.2) fun q45 =>
(if (3 : Int32) = 4 then
((some (Sum.inr (0, (si_ (si_ q45.2 106 8 (((10 * (q42.1 - 48)) + q45.1) - 48)) 106 6 3)))))
else
((some (Sum.inr (0, (si_ (si_ (si_ q45.2 106 8 (((10 * (q42.1 - 48)) + q45.1) - 48)) 106 6 3) 106 4 ((gi_ q45.2 106 4) + q14.1)))))))))))
else
(if (0 : Int32) = 4 then
((some (Sum.inr (0, (si_ (si_ (sl_ q14.2 106 9 0) 106 8 0) 106 6 0)))))
else
((some (Sum.inr (0, (si_ (si_ (si_ (sl_ q14.2 106 9 0) 106 8 0) 106 6 0) 106 4 ((gi_ q14.2 106 4) + q14.1))))))))))))))
  | Sum.inr (Sum.inl ((x1, x2, m))) =>
    (Option.bind (f_X12_here x2 m) fun q1 =>
(Option.bind (f_X12_isLetter q1.1 q1.2) fun q4 =>
(if q4.1 = 0 then
(if x2 ≤ 8 then
(if (1 : Int32) = 4 then
((some (Sum.inr (0, (si_ q4.2 106 6 1)))))
else
((some (Sum.inr (0, (si_ (si_ q4.2 106 6 1) 106 4 ((gi_ q4.2 106 4) + x2)))))))
else
(if (4 : Int32) = 4 then
((some (Sum.inr (0, (si_ q4.2 106 6 4)))))
else
((some (Sum.inr (0, (si_ (si_ q4.2 106 6 4) 106 4 ((gi_ q4.2 106 4) + x2))))))))
else
(if 8 ≤ x2 then
((some (Sum.inl (Sum.inr (Sum.inl ((x1, (x2 + 1), q4.2)))))))
else
(Option.bind (f_X12_here x2 q4.2) fun q17 =>
((some (Sum.inl (Sum.inr (Sum.inl ((x1, (x2 + 1), (sl_ q17.2 106 9 (((gl_ q4.2 106 9) <<< (Int32.toInt64 8 &&& 63)) ||| (Int32.toInt64 q17.1)))))))))))))))
  | Sum.inr (Sum.inr ((x1, x2, m))) =>
    (Option.bind (f_X12_here x2 m) fun q1 =>
(Option.bind (f_X12_isDigit q1.1 q1.2) fun q4 =>
(if q4.1 = 0 then
(if 4 < x2 then
(if (4 : Int32) = 4 then
((some (Sum.inr (0, (si_ q4.2 106 6 4)))))
else
((some (Sum.inr (0, (si_ (si_ q4.2 106 6 4) 106 4 ((gi_ q4.2 106 4) + x2)))))))
else
(Option.bind (f_X12_here x2 q4.2) fun q13 =>
(Option.bind (f_X12_isLetter q13.1 q13.2) fun q16 =>
(if q16.1 = 0 then
(if (2 : Int32) = 4 then
((some (Sum.inr (0, (si_ q16.2 106 6 2)))))
else
((some (Sum.inr (0, (si_ (si_ q16.2 106 6 2) 106 4 ((gi_ q16.2 106 4) + x2)))))))
else
(if (4 : Int32) = 4 then
((some (Sum.inr (0, (si_ q16.2 106 6 4)))))
else
((some (Sum.inr (0, (si_ (si_ q16.2 106 6 4) 106 4 ((gi_ q16.2 106 4) + x2)))))))))))
else
(if 4 ≤ x2 then
((some (Sum.inl (Sum.inr (Sum.inr ((x1, (x2 + 1), q4.2)))))))
else
(Option.bind (f_X12_here x2 q4.2) fun q27 =>
((some (Sum.inl (Sum.inr (Sum.inr ((x1, (x2 + 1), (si_ q27.2 106 8 (((10 * (gi_ q4.2 106 8)) + q27.1) - 48))))))))))))))
noncomputable def f_X12_next_0  (m : fm_) : Option (Int32 × fm_) := am_lp (st_X12_next) (Sum.inl ((m)))
noncomputable def f_X12_next_133 (x1 : Int32) (x2 : Int32) (m : fm_) : Option (Int32 × fm_) := am_lp (st_X12_next) (Sum.inr (Sum.inl ((x1, x2, m))))
noncomputable def f_X12_next_199 (x1 : Int32) (x2 : Int32) (m : fm_) : Option (Int32 × fm_) := am_lp (st_X12_next) (Sum.inr (Sum.inr ((x1, x2, m))))
theorem e_X12_next_0  (m : fm_) : f_X12_next_0  m =
(Option.bind (f_X12_here 0 m) fun q1 =>
(if q1.1 = 32 then
((f_X12_next_0 (si_ q1.2 106 4 ((gi_ q1.2 106 4) + 1))))
else
(Option.bind (f_X12_here 0 q1.2) fun q6 =>
(if q6.1 = 10 then
((f_X12_next_0 (si_ q6.2 106 4 ((gi_ q6.2 106 4) + 1))))
else
(Option.bind (f_X12_here 0 (si_ q6.2 106 7 (gi_ q6.2 106 4))) fun q11 =>
(Option.bind (f_X12_pointSize q11.2) fun q14 =>
(if 0 ≤ q11.1 then
(if q14.1 ≤ 0 then
(Option.bind (f_X12_isLetter q11.1 (si_ (sl_ q14.2 106 9 0) 106 8 0)) fun q21 =>
(if q21.1 = 0 then
(Option.bind (f_X12_isDigit q11.1 q21.2) fun q26 =>
(if q26.1 = 0 then
(Option.bind (f_X12_isSign q11.1 q26.2) fun q31 =>
(if q31.1 = 0 then
(if (4 : Int32) = 4 then
((some (0, (si_ q31.2 106 6 4))))
else
((some (0, (si_ (si_ q31.2 106 6 4) 106 4 ((gi_ q31.2 106 4) + 1))))))
else
(if q11.1 = 4 then
((some (0, (si_ q31.2 106 6 q11.1))))
else
((some (0, (si_ (si_ q31.2 106 6 q11.1) 106 4 ((gi_ q31.2 106 4) + 1))))))))
else
((f_X12_next_199 q11.1 q14.1 q26.2))))
else
((f_X12_next_133 q11.1 q14.1 q21.2))))
else
(if q14.1 = 2 then
(Option.bind (f_X12_here 1 (si_ (sl_ q14.2 106 9 0) 106 8 0)) fun q50 =>
(if (3 : Int32) = 4 then
((some (0, (si_ (si_ q50.2 106 8 (q50.1 - 48)) 106 6 3))))
else
((some (0, (si_ (si_ (si_ q50.2 106 8 (q50.1 - 48)) 106 6 3) 106 4 ((gi_ q50.2 106 4) + q14.1)))))))
else
(Option.bind (f_X12_here 1 (si_ (sl_ q14.2 106 9 0) 106 8 0)) fun q42 =>
(Option.bind (f_X12_here 2 q42.2) fun q45 =>
(if (3 : Int32) = 4 then
((some (0, (si_ (si_ q45.2 106 8 (((10 * (q42.1 - 48)) + q45.1) - 48)) 106 6 3))))
else
((some (0, (si_ (si_ (si_ q45.2 106 8 (((10 * (q42.1 - 48)) + q45.1) - 48)) 106 6 3) 106 4 ((gi_ q45.2 106 4) + q14.1))))))))))
else
(if (0 : Int32) = 4 then
((some (0, (si_ (si_ (sl_ q14.2 106 9 0) 106 8 0) 106 6 0))))
else
((some (0, (si_ (si_ (si_ (sl_ q14.2 106 9 0) 106 8 0) 106 6 0) 106 4 ((gi_ q14.2 106 4) + q14.1))))))))))))) :=
  (am_lp_eq _ _).trans (fe_bd fun q1 => (fe_if (rfl) (fe_bd fun q6 => (fe_if (rfl) (fe_bd fun q11 => (fe_bd fun q14 => (fe_if (fe_if (fe_bd fun q21 => (fe_if (fe_bd fun q26 => (fe_if (fe_bd fun q31 => (fe_if (fe_if (rfl) (rfl)) (fe_if (rfl) (rfl)))) (rfl))) (rfl))) (fe_if (fe_bd fun q50 => (fe_if (rfl) (rfl))) (fe_bd fun q42 => (fe_bd fun q45 => (fe_if (rfl) (rfl)))))) (fe_if (rfl) (rfl)))))))))
theorem e_X12_next_133 (x1 : Int32) (x2 : Int32) (m : fm_) : f_X12_next_133 x1 x2 m =
(Option.bind (f_X12_here x2 m) fun q1 =>
(Option.bind (f_X12_isLetter q1.1 q1.2) fun q4 =>
(if q4.1 = 0 then
(if x2 ≤ 8 then
(if (1 : Int32) = 4 then
((some (0, (si_ q4.2 106 6 1))))
else
((some (0, (si_ (si_ q4.2 106 6 1) 106 4 ((gi_ q4.2 106 4) + x2))))))
else
(if (4 : Int32) = 4 then
((some (0, (si_ q4.2 106 6 4))))
else
((some (0, (si_ (si_ q4.2 106 6 4) 106 4 ((gi_ q4.2 106 4) + x2)))))))
else
(if 8 ≤ x2 then
((f_X12_next_133 x1 (x2 + 1) q4.2))
else
(Option.bind (f_X12_here x2 q4.2) fun q17 =>
((f_X12_next_133 x1 (x2 + 1) (sl_ q17.2 106 9 (((gl_ q4.2 106 9) <<< (Int32.toInt64 8 &&& 63)) ||| (Int32.toInt64 q17.1)))))))))) :=
  (am_lp_eq _ _).trans (fe_bd fun q1 => (fe_bd fun q4 => (fe_if (fe_if (fe_if (rfl) (rfl)) (fe_if (rfl) (rfl))) (fe_if (rfl) (fe_bd fun q17 => (rfl))))))
theorem e_X12_next_199 (x1 : Int32) (x2 : Int32) (m : fm_) : f_X12_next_199 x1 x2 m =
(Option.bind (f_X12_here x2 m) fun q1 =>
(Option.bind (f_X12_isDigit q1.1 q1.2) fun q4 =>
(if q4.1 = 0 then
(if 4 < x2 then
(if (4 : Int32) = 4 then
((some (0, (si_ q4.2 106 6 4))))
else
((some (0, (si_ (si_ q4.2 106 6 4) 106 4 ((gi_ q4.2 106 4) + x2))))))
else
(Option.bind (f_X12_here x2 q4.2) fun q13 =>
(Option.bind (f_X12_isLetter q13.1 q13.2) fun q16 =>
(if q16.1 = 0 then
(if (2 : Int32) = 4 then
((some (0, (si_ q16.2 106 6 2))))
else
((some (0, (si_ (si_ q16.2 106 6 2) 106 4 ((gi_ q16.2 106 4) + x2))))))
else
(if (4 : Int32) = 4 then
((some (0, (si_ q16.2 106 6 4))))
else
((some (0, (si_ (si_ q16.2 106 6 4) 106 4 ((gi_ q16.2 106 4) + x2))))))))))
else
(if 4 ≤ x2 then
((f_X12_next_199 x1 (x2 + 1) q4.2))
else
(Option.bind (f_X12_here x2 q4.2) fun q27 =>
((f_X12_next_199 x1 (x2 + 1) (si_ q27.2 106 8 (((10 * (gi_ q4.2 106 8)) + q27.1) - 48))))))))) :=
  (am_lp_eq _ _).trans (fe_bd fun q1 => (fe_bd fun q4 => (fe_if (fe_if (fe_if (rfl) (rfl)) (fe_bd fun q13 => (fe_bd fun q16 => (fe_if (fe_if (rfl) (rfl)) (fe_if (rfl) (rfl)))))) (fe_if (rfl) (fe_bd fun q27 => (rfl))))))
noncomputable def f_X12_next  (m : fm_) : Option (Int32 × fm_) :=
  ((f_X12_next_0 m))
def sp_X12_next : am_S := fn_sp [(187, fn_F, G_X12_here), (191, fn_F, G_X12_pointSize), (188, fn_0, G_X12_isLetter), (189, fn_0, G_X12_isDigit), (190, fn_0, G_X12_isSign)]
theorem sm_X12_next : am_Smono (sp_X12_next) := fn_sp_mono _
def P_X12_next (n : Nat) (r : Nat → Nat → Option Nat) (s : S_X12_next) (q : Int32 × fm_) : Prop := match s with
  | Sum.inl ((m)) => ∀ (Q : Option Value → am_W → Prop), Q (en_v q).1 (mk_ n r q.2) → am_T m_X12_next sp_X12_next n Q 0 [some (.ref 106), none, none] [] (mk_ n r m)
  | Sum.inr (Sum.inl ((x1, x2, m))) => ∀ (Q : Option Value → am_W → Prop), Q (en_v q).1 (mk_ n r q.2) → am_T m_X12_next sp_X12_next n Q 133 [some (.ref 106), some (.int x1), some (.int x2)] [] (mk_ n r m)
  | Sum.inr (Sum.inr ((x1, x2, m))) => ∀ (Q : Option Value → am_W → Prop), Q (en_v q).1 (mk_ n r q.2) → am_T m_X12_next sp_X12_next n Q 199 [some (.ref 106), some (.int x1), some (.int x2)] [] (mk_ n r m)
set_option maxRecDepth 100000 in
theorem t_X12_next_0 {n : Nat} {r : Nat → Nat → Option Nat} (hf : fn_F n r) {K : S_X12_next → Option (Int32 × fm_)} {q : Int32 × fm_} (hK : ∀ s, K s = some q → P_X12_next n r s q)  (m : fm_)
  (h : am_k K (st_X12_next (Sum.inl ((m)))) = some q) : P_X12_next n r (Sum.inl ((m))) q := fun Q hQ =>
  am_T.wp sm_X12_next (K := am_T m_X12_next sp_X12_next n Q) (cuts := [0, 133, 199]) (fun _ _ _ _ h => h) 65
    (fj_bd h fun q1 e2 h3 => ⟨Nat.le_of_ble_eq_true rfl, fn_aF hf rfl rfl, ⟨hf, some (.int q1.1), q1.2, gp_X12_here (n := n) (r := r)  e2, fun _ => fj_if h3 (fun c4 h5 => ⟨fn_aF hf rfl rfl, ⟨fn_aF hf rfl rfl, hK _ h5 _ hQ⟩⟩) (fun c4 h5 => fj_bd h5 fun q6 e7 h8 => ⟨Nat.le_of_ble_eq_true rfl, fn_aF hf rfl rfl, ⟨hf, some (.int q6.1), q6.2, gp_X12_here (n := n) (r := r)  e7, fun _ => fj_in h8 (fun c9 h10 => ⟨fn_aF hf rfl rfl, ⟨fn_aF hf rfl rfl, fj_bd h10 fun q11 e12 h13 => ⟨Nat.le_of_ble_eq_true rfl, fn_aF hf rfl rfl, ⟨hf, some (.int q11.1), q11.2, gp_X12_here (n := n) (r := r)  e12, fun _ => fj_bd h13 fun q14 e15 h16 => ⟨Nat.le_of_ble_eq_true rfl, fn_aF hf rfl rfl, ⟨hf, some (.int q14.1), q14.2, gp_X12_pointSize (n := n) (r := r)  e15, fun _ => ⟨fn_aF hf rfl rfl, ⟨fn_aF hf rfl rfl, fj_if h16 (fun c17 h18 => fj_if h18 (fun c19 h20 => fj_bd h20 fun q21 e22 h23 => ⟨Nat.le_of_ble_eq_true rfl, trivial, ⟨trivial, some (.int q21.1), q21.2, gp_X12_isLetter (n := n) (r := r)  e22, fun _ => fj_if h23 (fun c24 h25 => fj_bd h25 fun q26 e27 h28 => ⟨Nat.le_of_ble_eq_true rfl, trivial, ⟨trivial, some (.int q26.1), q26.2, gp_X12_isDigit (n := n) (r := r)  e27, fun _ => fj_if h28 (fun c29 h30 => fj_bd h30 fun q31 e32 h33 => ⟨Nat.le_of_ble_eq_true rfl, trivial, ⟨trivial, some (.int q31.1), q31.2, gp_X12_isSign (n := n) (r := r)  e32, fun _ => fj_if h33 (fun c34 h35 => ⟨fn_aF hf rfl rfl, ⟨fn_aF hf rfl rfl, fj_if h35 (fun c36 h37 => ⟨rfl, fj_rt h37 hQ⟩) (fun c36 h37 => ⟨fn_aF hf rfl rfl, ⟨fn_aF hf rfl rfl, ⟨rfl, fj_rt h37 hQ⟩⟩⟩)⟩⟩) (fun c34 h35 => ⟨fn_aF hf rfl rfl, ⟨fn_aF hf rfl rfl, fj_if h35 (fun c38 h39 => ⟨rfl, fj_rt h39 hQ⟩) (fun c38 h39 => ⟨fn_aF hf rfl rfl, ⟨fn_aF hf rfl rfl, ⟨rfl, fj_rt h39 hQ⟩⟩⟩)⟩⟩)⟩⟩) (fun c29 h30 => hK _ h30 _ hQ)⟩⟩) (fun c24 h25 => hK _ h25 _ hQ)⟩⟩) (fun c19 h20 => fj_in h20 (fun c40 h41 => fj_bd h41 fun q42 e43 h44 => ⟨Nat.le_of_ble_eq_true rfl, fn_aF hf rfl rfl, ⟨hf, some (.int q42.1), q42.2, gp_X12_here (n := n) (r := r)  e43, fun _ => fj_bd h44 fun q45 e46 h47 => ⟨Nat.le_of_ble_eq_true rfl, fn_aF hf rfl rfl, ⟨hf, some (.int q45.1), q45.2, gp_X12_here (n := n) (r := r)  e46, fun _ => ⟨fn_aF hf rfl rfl, ⟨fn_aF hf rfl rfl, ⟨fn_aF hf rfl rfl, fj_if h47 (fun c48 h49 => ⟨rfl, fj_rt h49 hQ⟩) (fun c48 h49 => ⟨fn_aF hf rfl rfl, ⟨fn_aF hf rfl rfl, ⟨rfl, fj_rt h49 hQ⟩⟩⟩)⟩⟩⟩⟩⟩⟩⟩) (fun c40 h41 => fj_bd h41 fun q50 e51 h52 => ⟨Nat.le_of_ble_eq_true rfl, fn_aF hf rfl rfl, ⟨hf, some (.int q50.1), q50.2, gp_X12_here (n := n) (r := r)  e51, fun _ => ⟨fn_aF hf rfl rfl, ⟨fn_aF hf rfl rfl, ⟨fn_aF hf rfl rfl, fj_if h52 (fun c53 h54 => ⟨rfl, fj_rt h54 hQ⟩) (fun c53 h54 => ⟨fn_aF hf rfl rfl, ⟨fn_aF hf rfl rfl, ⟨rfl, fj_rt h54 hQ⟩⟩⟩)⟩⟩⟩⟩⟩))) (fun c17 h18 => ⟨fn_aF hf rfl rfl, ⟨fn_aF hf rfl rfl, fj_if h18 (fun c55 h56 => ⟨rfl, fj_rt h56 hQ⟩) (fun c55 h56 => ⟨fn_aF hf rfl rfl, ⟨fn_aF hf rfl rfl, ⟨rfl, fj_rt h56 hQ⟩⟩⟩)⟩⟩)⟩⟩⟩⟩⟩⟩⟩⟩) (fun c9 h10 => ⟨fn_aF hf rfl rfl, ⟨fn_aF hf rfl rfl, hK _ h10 _ hQ⟩⟩)⟩⟩)⟩⟩)
set_option maxRecDepth 100000 in
theorem t_X12_next_133 {n : Nat} {r : Nat → Nat → Option Nat} (hf : fn_F n r) {K : S_X12_next → Option (Int32 × fm_)} {q : Int32 × fm_} (hK : ∀ s, K s = some q → P_X12_next n r s q) (x1 : Int32) (x2 : Int32) (m : fm_)
  (h : am_k K (st_X12_next (Sum.inr (Sum.inl ((x1, x2, m))))) = some q) : P_X12_next n r (Sum.inr (Sum.inl ((x1, x2, m)))) q := fun Q hQ =>
  am_T.wp sm_X12_next (K := am_T m_X12_next sp_X12_next n Q) (cuts := [0, 133, 199]) (fun _ _ _ _ h => h) 25
    (fj_bd h fun q1 e2 h3 => ⟨Nat.le_of_ble_eq_true rfl, fn_aF hf rfl rfl, ⟨hf, some (.int q1.1), q1.2, gp_X12_here (n := n) (r := r)  e2, fun _ => fj_bd h3 fun q4 e5 h6 => ⟨Nat.le_of_ble_eq_true rfl, trivial, ⟨trivial, some (.int q4.1), q4.2, gp_X12_isLetter (n := n) (r := r)  e5, fun _ => fj_if h6 (fun c7 h8 => fj_if h8 (fun c9 h10 => ⟨fn_aF hf rfl rfl, ⟨fn_aF hf rfl rfl, fj_if h10 (fun c11 h12 => ⟨rfl, fj_rt h12 hQ⟩) (fun c11 h12 => ⟨fn_aF hf rfl rfl, ⟨fn_aF hf rfl rfl, ⟨rfl, fj_rt h12 hQ⟩⟩⟩)⟩⟩) (fun c9 h10 => ⟨fn_aF hf rfl rfl, ⟨fn_aF hf rfl rfl, fj_if h10 (fun c13 h14 => ⟨rfl, fj_rt h14 hQ⟩) (fun c13 h14 => ⟨fn_aF hf rfl rfl, ⟨fn_aF hf rfl rfl, ⟨rfl, fj_rt h14 hQ⟩⟩⟩)⟩⟩)) (fun c7 h8 => fj_if h8 (fun c15 h16 => hK _ h16 _ hQ) (fun c15 h16 => ⟨fn_aF hf rfl rfl, fj_bd h16 fun q17 e18 h19 => ⟨Nat.le_of_ble_eq_true rfl, fn_aF hf rfl rfl, ⟨hf, some (.int q17.1), q17.2, gp_X12_here (n := n) (r := r)  e18, fun _ => ⟨fn_aF hf rfl rfl, hK _ h19 _ hQ⟩⟩⟩⟩))⟩⟩⟩⟩)
set_option maxRecDepth 100000 in
theorem t_X12_next_199 {n : Nat} {r : Nat → Nat → Option Nat} (hf : fn_F n r) {K : S_X12_next → Option (Int32 × fm_)} {q : Int32 × fm_} (hK : ∀ s, K s = some q → P_X12_next n r s q) (x1 : Int32) (x2 : Int32) (m : fm_)
  (h : am_k K (st_X12_next (Sum.inr (Sum.inr ((x1, x2, m))))) = some q) : P_X12_next n r (Sum.inr (Sum.inr ((x1, x2, m)))) q := fun Q hQ =>
  am_T.wp sm_X12_next (K := am_T m_X12_next sp_X12_next n Q) (cuts := [0, 133, 199]) (fun _ _ _ _ h => h) 30
    (fj_bd h fun q1 e2 h3 => ⟨Nat.le_of_ble_eq_true rfl, fn_aF hf rfl rfl, ⟨hf, some (.int q1.1), q1.2, gp_X12_here (n := n) (r := r)  e2, fun _ => fj_bd h3 fun q4 e5 h6 => ⟨Nat.le_of_ble_eq_true rfl, trivial, ⟨trivial, some (.int q4.1), q4.2, gp_X12_isDigit (n := n) (r := r)  e5, fun _ => fj_if h6 (fun c7 h8 => fj_if h8 (fun c9 h10 => ⟨fn_aF hf rfl rfl, ⟨fn_aF hf rfl rfl, fj_if h10 (fun c11 h12 => ⟨rfl, fj_rt h12 hQ⟩) (fun c11 h12 => ⟨fn_aF hf rfl rfl, ⟨fn_aF hf rfl rfl, ⟨rfl, fj_rt h12 hQ⟩⟩⟩)⟩⟩) (fun c9 h10 => fj_bd h10 fun q13 e14 h15 => ⟨Nat.le_of_ble_eq_true rfl, fn_aF hf rfl rfl, ⟨hf, some (.int q13.1), q13.2, gp_X12_here (n := n) (r := r)  e14, fun _ => fj_bd h15 fun q16 e17 h18 => ⟨Nat.le_of_ble_eq_true rfl, trivial, ⟨trivial, some (.int q16.1), q16.2, gp_X12_isLetter (n := n) (r := r)  e17, fun _ => fj_if h18 (fun c19 h20 => ⟨fn_aF hf rfl rfl, ⟨fn_aF hf rfl rfl, fj_if h20 (fun c21 h22 => ⟨rfl, fj_rt h22 hQ⟩) (fun c21 h22 => ⟨fn_aF hf rfl rfl, ⟨fn_aF hf rfl rfl, ⟨rfl, fj_rt h22 hQ⟩⟩⟩)⟩⟩) (fun c19 h20 => ⟨fn_aF hf rfl rfl, ⟨fn_aF hf rfl rfl, fj_if h20 (fun c23 h24 => ⟨rfl, fj_rt h24 hQ⟩) (fun c23 h24 => ⟨fn_aF hf rfl rfl, ⟨fn_aF hf rfl rfl, ⟨rfl, fj_rt h24 hQ⟩⟩⟩)⟩⟩)⟩⟩⟩⟩)) (fun c7 h8 => fj_if h8 (fun c25 h26 => hK _ h26 _ hQ) (fun c25 h26 => ⟨fn_aF hf rfl rfl, fj_bd h26 fun q27 e28 h29 => ⟨Nat.le_of_ble_eq_true rfl, fn_aF hf rfl rfl, ⟨hf, some (.int q27.1), q27.2, gp_X12_here (n := n) (r := r)  e28, fun _ => ⟨fn_aF hf rfl rfl, hK _ h29 _ hQ⟩⟩⟩⟩))⟩⟩⟩⟩)
theorem l_X12_next {n : Nat} {r : Nat → Nat → Option Nat} (hf : fn_F n r) (s : S_X12_next) (q : Int32 × fm_) (h : am_lp (st_X12_next) s = some q) : P_X12_next n r s q :=
  am_lp_snd (P := P_X12_next n r) (fun K hK s q h => match s, h with
    | Sum.inl ((m)), h => t_X12_next_0 hf (fun s => hK s q)  m h
    | Sum.inr (Sum.inl ((x1, x2, m))), h => t_X12_next_133 hf (fun s => hK s q) x1 x2 m h
    | Sum.inr (Sum.inr ((x1, x2, m))), h => t_X12_next_199 hf (fun s => hK s q) x1 x2 m h) s q h
set_option maxRecDepth 100000 in
theorem t_X12_next {n : Nat} {r : Nat → Nat → Option Nat} (hf : fn_F n r) {q : Int32 × fm_}  {m : fm_}
  (h : f_X12_next  m = some q) {Q : Option Value → am_W → Prop} (hQ : Q (en_v q).1 (mk_ n r q.2)) : am_T m_X12_next sp_X12_next n Q 0 [some (.ref 106), none, none] [] (mk_ n r m) :=
  am_T.wp sm_X12_next (K := am_T m_X12_next sp_X12_next n Q) (cuts := [0, 133, 199]) (fun _ _ _ _ h => h) 0
    (l_X12_next hf _ _ h _ hQ)
noncomputable def G_X12_next (n : Nat) (r : Nat → Nat → Option Nat) (as : List Value) (m : fm_) : Option (Option Value × fm_) := match as with
  | [.ref x0] => gd_ (Nat.beq x0 106) ((f_X12_next  m).map en_v)
  | _ => none
set_option maxRecDepth 100000 in
theorem gp_X12_next {n : Nat} {r : Nat → Nat → Option Nat}   {m : fm_} {q : Int32 × fm_}  (e : f_X12_next  m = some q) : G_X12_next n r [.ref 106] m = some (en_v q) := by
  show (gd_ (Nat.beq 106 106) ((f_X12_next  m).map en_v)) = _
  exact fn_gd rfl (fn_mp e)
set_option maxRecDepth 100000 in
theorem ok_X12_next : am_mok 12 192 m_X12_next = true := by decide +kernel
set_option maxRecDepth 100000 in
theorem c_X12_next (l : Launch) {g : am_G} (hg : fx_ l g) : am_Met l g 2 192 (fn_s fn_F G_X12_next) := by
  refine am_sound (own := 12) (M := m_X12_next) (SP := sp_X12_next) hg.1 (by decide +kernel) ok_X12_next (by decide +kernel) ?_ (fun q hq hk => absurd hk (am_no61 (M := m_X12_next) (by decide +kernel) q hq)) (fn_ext l _ rfl g 12) (Or.inl (by decide +kernel)) ?_ ?_
  · intro q hq hk
    have hm : q.2.2.2.1 ∈ am_cs m_X12_next := am_cs_in hq hk
    rw [show am_cs m_X12_next = [187, 187, 187, 191, 187, 187, 187, 188, 187, 188, 187, 189, 187, 189, 187, 187, 188, 190] by decide +kernel] at hm
    have hm : q.2.2.2.1 ∈ [187, 188, 189, 190, 191] := (List.all_eq_true.mp (show ([187, 187, 187, 191, 187, 187, 187, 188, 187, 188, 187, 189, 187, 189, 187, 187, 188, 190] : List Nat).all (fun a => decide (a ∈ ([187, 188, 189, 190, 191] : List Nat))) = true by decide +kernel) _ hm |> of_decide_eq_true)
    simp only [List.mem_cons, List.not_mem_nil, or_false] at hm
    rcases hm with hm | hm | hm | hm | hm
    · rw [hm]; exact ⟨0, by omega, c_X12_here l hg⟩
    · rw [hm]; exact ⟨0, by omega, c_X12_isLetter l hg⟩
    · rw [hm]; exact ⟨0, by omega, c_X12_isDigit l hg⟩
    · rw [hm]; exact ⟨0, by omega, c_X12_isSign l hg⟩
    · rw [hm]; exact ⟨1, by omega, c_X12_pointSize l hg⟩
  · intro as w K h
    obtain ⟨hf, y, m1, hG, hK⟩ := h
    unfold G_X12_next at hG
    split at hG
    · exact Nat.le_of_ble_eq_true rfl
    · cases hG
  · intro as w K h
    obtain ⟨n, i0, l0, r⟩ := w
    obtain ⟨hf, y, m1, hG, hK⟩ := h
    unfold G_X12_next at hG
    split at hG
    · next x0 =>
      obtain ⟨hx1, hG1⟩ := gd_u hG
      obtain rfl := Nat.eq_of_beq_eq_true hx1
      obtain ⟨q, hq, he⟩ := fn_mu hG1
      obtain ⟨rfl, rfl⟩ := Prod.mk.inj he
      exact t_X12_next  hf   (m := (i0, l0)) hq hK
    · cases hG

/-! == X12_wrong == -/
noncomputable def f_X12_wrong (p1 : Int32) (m : fm_) : Option (Int32 × fm_) :=
  (if (gi_ m 106 2) ≤ 0 then
(if (gi_ m 106 6) = 4 then
((some (0, (si_ (si_ m 106 2 1) 106 3 (gi_ m 106 7)))))
else
((some (0, (si_ (si_ m 106 2 p1) 106 3 (gi_ m 106 7))))))
else
((some (0, m))))
def sp_X12_wrong : am_S := fn_sp []
theorem sm_X12_wrong : am_Smono (sp_X12_wrong) := fn_sp_mono _
set_option maxRecDepth 100000 in
theorem t_X12_wrong {n : Nat} {r : Nat → Nat → Option Nat} (hf : fn_F n r) {q : Int32 × fm_} (p1 : Int32) {m : fm_}
  (h : f_X12_wrong p1 m = some q) {Q : Option Value → am_W → Prop} (hQ : Q (en_v q).1 (mk_ n r q.2)) : am_T m_X12_wrong sp_X12_wrong n Q 0 [some (.ref 106), some (.int p1)] [] (mk_ n r m) :=
  am_T.wp sm_X12_wrong (K := am_T m_X12_wrong sp_X12_wrong n Q) (cuts := []) (fun _ _ _ _ h => h) 17
    (⟨fn_aF hf rfl rfl, fh_if h (fun c1 h2 => ⟨fn_aF hf rfl rfl, fh_in h2 (fun c3 h4 => ⟨fn_aF hf rfl rfl, ⟨fn_aF hf rfl rfl, ⟨fn_aF hf rfl rfl, ⟨rfl, fh_rt h4 hQ⟩⟩⟩⟩) (fun c3 h4 => ⟨fn_aF hf rfl rfl, ⟨fn_aF hf rfl rfl, ⟨fn_aF hf rfl rfl, ⟨rfl, fh_rt h4 hQ⟩⟩⟩⟩)⟩) (fun c1 h2 => ⟨rfl, fh_rt h2 hQ⟩)⟩)
noncomputable def G_X12_wrong (n : Nat) (r : Nat → Nat → Option Nat) (as : List Value) (m : fm_) : Option (Option Value × fm_) := match as with
  | [.ref x0, .int p1] => gd_ (Nat.beq x0 106) ((f_X12_wrong p1 m).map en_v)
  | _ => none
set_option maxRecDepth 100000 in
theorem gp_X12_wrong {n : Nat} {r : Nat → Nat → Option Nat}  {p1 : Int32} {m : fm_} {q : Int32 × fm_}  (e : f_X12_wrong p1 m = some q) : G_X12_wrong n r [.ref 106, .int p1] m = some (en_v q) := by
  show (gd_ (Nat.beq 106 106) ((f_X12_wrong p1 m).map en_v)) = _
  exact fn_gd rfl (fn_mp e)
set_option maxRecDepth 100000 in
theorem ok_X12_wrong : am_mok 12 193 m_X12_wrong = true := by decide +kernel
set_option maxRecDepth 100000 in
theorem c_X12_wrong (l : Launch) {g : am_G} (hg : fx_ l g) : am_Met l g 0 193 (fn_s fn_F G_X12_wrong) := by
  refine am_sound (own := 12) (M := m_X12_wrong) (SP := sp_X12_wrong) hg.1 (by decide +kernel) ok_X12_wrong (by decide +kernel) ?_ (fun q hq hk => absurd hk (am_no61 (M := m_X12_wrong) (by decide +kernel) q hq)) (fn_ext l _ rfl g 12) (Or.inl (by decide +kernel)) ?_ ?_
  · intro q hq hk
    have hm : q.2.2.2.1 ∈ am_cs m_X12_wrong := am_cs_in hq hk
    rw [show am_cs m_X12_wrong = [] by decide +kernel] at hm
    cases hm
  · intro as w K h
    obtain ⟨hf, y, m1, hG, hK⟩ := h
    unfold G_X12_wrong at hG
    split at hG
    · exact Nat.le_of_ble_eq_true rfl
    · cases hG
  · intro as w K h
    obtain ⟨n, i0, l0, r⟩ := w
    obtain ⟨hf, y, m1, hG, hK⟩ := h
    unfold G_X12_wrong at hG
    split at hG
    · next x0 p1 =>
      obtain ⟨hx1, hG1⟩ := gd_u hG
      obtain rfl := Nat.eq_of_beq_eq_true hx1
      obtain ⟨q, hq, he⟩ := fn_mu hG1
      obtain ⟨rfl, rfl⟩ := Prod.mk.inj he
      exact t_X12_wrong  hf  p1 (m := (i0, l0)) hq hK
    · cases hG

/-! == X12_isWord == -/
noncomputable def f_X12_isWord (p1 : Int64) (m : fm_) : Option (Int32 × fm_) :=
  (if (gi_ m 106 6) = 1 then
(if (lg_cmp (gl_ m 106 9) p1) = 0 then
((some (1, m)))
else
((some (0, m))))
else
((some (0, m))))
def sp_X12_isWord : am_S := fn_sp []
theorem sm_X12_isWord : am_Smono (sp_X12_isWord) := fn_sp_mono _
set_option maxRecDepth 100000 in
theorem t_X12_isWord {n : Nat} {r : Nat → Nat → Option Nat} (hf : fn_F n r) {q : Int32 × fm_} (p1 : Int64) {m : fm_}
  (h : f_X12_isWord p1 m = some q) {Q : Option Value → am_W → Prop} (hQ : Q (en_i q).1 (mk_ n r q.2)) : am_T m_X12_isWord sp_X12_isWord n Q 0 [some (.ref 106), some (.long p1), none] [] (mk_ n r m) :=
  am_T.wp sm_X12_isWord (K := am_T m_X12_isWord sp_X12_isWord n Q) (cuts := []) (fun _ _ _ _ h => h) 13
    (⟨fn_aF hf rfl rfl, fh_in h (fun c1 h2 => ⟨rfl, Or.inl rfl, fh_rt h2 hQ⟩) (fun c1 h2 => ⟨fn_aF hf rfl rfl, fh_in h2 (fun c3 h4 => ⟨rfl, Or.inl rfl, fh_rt h4 hQ⟩) (fun c3 h4 => ⟨rfl, Or.inr rfl, fh_rt h4 hQ⟩)⟩)⟩)
noncomputable def G_X12_isWord (n : Nat) (r : Nat → Nat → Option Nat) (as : List Value) (m : fm_) : Option (Option Value × fm_) := match as with
  | [.ref x0, .long p1] => gd_ (Nat.beq x0 106) ((f_X12_isWord p1 m).map en_i)
  | _ => none
set_option maxRecDepth 100000 in
theorem gp_X12_isWord {n : Nat} {r : Nat → Nat → Option Nat}  {p1 : Int64} {m : fm_} {q : Int32 × fm_}  (e : f_X12_isWord p1 m = some q) : G_X12_isWord n r [.ref 106, .long p1] m = some (en_i q) := by
  show (gd_ (Nat.beq 106 106) ((f_X12_isWord p1 m).map en_i)) = _
  exact fn_gd rfl (fn_mp e)
set_option maxRecDepth 100000 in
theorem ok_X12_isWord : am_mok 12 194 m_X12_isWord = true := by decide +kernel
set_option maxRecDepth 100000 in
theorem c_X12_isWord (l : Launch) {g : am_G} (hg : fx_ l g) : am_Met l g 0 194 (fn_s fn_F G_X12_isWord) := by
  refine am_sound (own := 12) (M := m_X12_isWord) (SP := sp_X12_isWord) hg.1 (by decide +kernel) ok_X12_isWord (by decide +kernel) ?_ (fun q hq hk => absurd hk (am_no61 (M := m_X12_isWord) (by decide +kernel) q hq)) (fn_ext l _ rfl g 12) (Or.inl (by decide +kernel)) ?_ ?_
  · intro q hq hk
    have hm : q.2.2.2.1 ∈ am_cs m_X12_isWord := am_cs_in hq hk
    rw [show am_cs m_X12_isWord = [] by decide +kernel] at hm
    cases hm
  · intro as w K h
    obtain ⟨hf, y, m1, hG, hK⟩ := h
    unfold G_X12_isWord at hG
    split at hG
    · exact Nat.le_of_ble_eq_true rfl
    · cases hG
  · intro as w K h
    obtain ⟨n, i0, l0, r⟩ := w
    obtain ⟨hf, y, m1, hG, hK⟩ := h
    unfold G_X12_isWord at hG
    split at hG
    · next x0 p1 =>
      obtain ⟨hx1, hG1⟩ := gd_u hG
      obtain rfl := Nat.eq_of_beq_eq_true hx1
      obtain ⟨q, hq, he⟩ := fn_mu hG1
      obtain ⟨rfl, rfl⟩ := Prod.mk.inj he
      exact t_X12_isWord  hf  p1 (m := (i0, l0)) hq hK
    · cases hG

/-! == X12_wantWord == -/
noncomputable def f_X12_wantWord (p1 : Int64) (m : fm_) : Option (Int32 × fm_) :=
  (if (gi_ m 106 2) ≤ 0 then
(Option.bind (f_X12_isWord p1 m) fun q3 =>
(if q3.1 = 0 then
(Option.bind (f_X12_wrong 2 q3.2) fun q11 =>
((some (0, q11.2))))
else
(Option.bind (f_X12_next q3.2) fun q8 =>
((some (0, q8.2))))))
else
((some (0, m))))
def sp_X12_wantWord : am_S := fn_sp [(194, fn_F, G_X12_isWord), (193, fn_F, G_X12_wrong), (192, fn_F, G_X12_next)]
theorem sm_X12_wantWord : am_Smono (sp_X12_wantWord) := fn_sp_mono _
set_option maxRecDepth 100000 in
theorem t_X12_wantWord {n : Nat} {r : Nat → Nat → Option Nat} (hf : fn_F n r) {q : Int32 × fm_} (p1 : Int64) {m : fm_}
  (h : f_X12_wantWord p1 m = some q) {Q : Option Value → am_W → Prop} (hQ : Q (en_v q).1 (mk_ n r q.2)) : am_T m_X12_wantWord sp_X12_wantWord n Q 0 [some (.ref 106), some (.long p1), none] [] (mk_ n r m) :=
  am_T.wp sm_X12_wantWord (K := am_T m_X12_wantWord sp_X12_wantWord n Q) (cuts := []) (fun _ _ _ _ h => h) 13
    (⟨fn_aF hf rfl rfl, fh_if h (fun c1 h2 => fh_bd h2 fun q3 e4 h5 => ⟨Nat.le_of_ble_eq_true rfl, fn_aF hf rfl rfl, ⟨hf, some (.int q3.1), q3.2, gp_X12_isWord (n := n) (r := r)  e4, fun _ => fh_in h5 (fun c6 h7 => fh_bd h7 fun q8 e9 h10 => ⟨Nat.le_of_ble_eq_true rfl, fn_aF hf rfl rfl, ⟨hf, none, q8.2, gp_X12_next (n := n) (r := r)  e9, fun _ => ⟨rfl, ⟨rfl, fh_rt h10 hQ⟩⟩⟩⟩) (fun c6 h7 => fh_bd h7 fun q11 e12 h13 => ⟨Nat.le_of_ble_eq_true rfl, fn_aF hf rfl rfl, ⟨hf, none, q11.2, gp_X12_wrong (n := n) (r := r)  e12, fun _ => ⟨rfl, ⟨rfl, fh_rt h13 hQ⟩⟩⟩⟩)⟩⟩) (fun c1 h2 => ⟨rfl, fh_rt h2 hQ⟩)⟩)
noncomputable def G_X12_wantWord (n : Nat) (r : Nat → Nat → Option Nat) (as : List Value) (m : fm_) : Option (Option Value × fm_) := match as with
  | [.ref x0, .long p1] => gd_ (Nat.beq x0 106) ((f_X12_wantWord p1 m).map en_v)
  | _ => none
set_option maxRecDepth 100000 in
theorem gp_X12_wantWord {n : Nat} {r : Nat → Nat → Option Nat}  {p1 : Int64} {m : fm_} {q : Int32 × fm_}  (e : f_X12_wantWord p1 m = some q) : G_X12_wantWord n r [.ref 106, .long p1] m = some (en_v q) := by
  show (gd_ (Nat.beq 106 106) ((f_X12_wantWord p1 m).map en_v)) = _
  exact fn_gd rfl (fn_mp e)
set_option maxRecDepth 100000 in
theorem ok_X12_wantWord : am_mok 12 195 m_X12_wantWord = true := by decide +kernel
set_option maxRecDepth 100000 in
theorem c_X12_wantWord (l : Launch) {g : am_G} (hg : fx_ l g) : am_Met l g 3 195 (fn_s fn_F G_X12_wantWord) := by
  refine am_sound (own := 12) (M := m_X12_wantWord) (SP := sp_X12_wantWord) hg.1 (by decide +kernel) ok_X12_wantWord (by decide +kernel) ?_ (fun q hq hk => absurd hk (am_no61 (M := m_X12_wantWord) (by decide +kernel) q hq)) (fn_ext l _ rfl g 12) (Or.inl (by decide +kernel)) ?_ ?_
  · intro q hq hk
    have hm : q.2.2.2.1 ∈ am_cs m_X12_wantWord := am_cs_in hq hk
    rw [show am_cs m_X12_wantWord = [194, 193, 192] by decide +kernel] at hm
    have hm : q.2.2.2.1 ∈ [192, 193, 194] := (List.all_eq_true.mp (show ([194, 193, 192] : List Nat).all (fun a => decide (a ∈ ([192, 193, 194] : List Nat))) = true by decide +kernel) _ hm |> of_decide_eq_true)
    simp only [List.mem_cons, List.not_mem_nil, or_false] at hm
    rcases hm with hm | hm | hm
    · rw [hm]; exact ⟨2, by omega, c_X12_next l hg⟩
    · rw [hm]; exact ⟨0, by omega, c_X12_wrong l hg⟩
    · rw [hm]; exact ⟨0, by omega, c_X12_isWord l hg⟩
  · intro as w K h
    obtain ⟨hf, y, m1, hG, hK⟩ := h
    unfold G_X12_wantWord at hG
    split at hG
    · exact Nat.le_of_ble_eq_true rfl
    · cases hG
  · intro as w K h
    obtain ⟨n, i0, l0, r⟩ := w
    obtain ⟨hf, y, m1, hG, hK⟩ := h
    unfold G_X12_wantWord at hG
    split at hG
    · next x0 p1 =>
      obtain ⟨hx1, hG1⟩ := gd_u hG
      obtain rfl := Nat.eq_of_beq_eq_true hx1
      obtain ⟨q, hq, he⟩ := fn_mu hG1
      obtain ⟨rfl, rfl⟩ := Prod.mk.inj he
      exact t_X12_wantWord  hf  p1 (m := (i0, l0)) hq hK
    · cases hG

/-! == X12_told == -/
noncomputable def f_X12_told (p1 : Int32) (p2 : Int32) (m : fm_) : Option (Int32 × fm_) :=
  (if (gi_ m 106 2) ≤ 0 then
(if (gi_ m 106 6) = 2 then
(if (gi_ m 106 8) < p1 then
(Option.bind (f_X12_wrong 4 m) fun q7 =>
(if (gi_ q7.2 106 2) = 0 then
(Option.bind (f_X12_next q7.2) fun q12 =>
((some ((gi_ q7.2 106 8), q12.2))))
else
((some ((gi_ q7.2 106 8), q7.2)))))
else
(if (gi_ m 106 8) ≤ p2 then
(if (gi_ m 106 2) = 0 then
(Option.bind (f_X12_next m) fun q19 =>
((some ((gi_ m 106 8), q19.2))))
else
((some ((gi_ m 106 8), m))))
else
(Option.bind (f_X12_wrong 4 m) fun q22 =>
(if (gi_ q22.2 106 2) = 0 then
(Option.bind (f_X12_next q22.2) fun q27 =>
((some ((gi_ q22.2 106 8), q27.2))))
else
((some ((gi_ q22.2 106 8), q22.2)))))))
else
(Option.bind (f_X12_wrong 2 m) fun q30 =>
(if (gi_ q30.2 106 2) = 0 then
(Option.bind (f_X12_next q30.2) fun q35 =>
((some ((gi_ q30.2 106 8), q35.2))))
else
((some ((gi_ q30.2 106 8), q30.2))))))
else
((some (0, m))))
def sp_X12_told : am_S := fn_sp [(193, fn_F, G_X12_wrong), (192, fn_F, G_X12_next)]
theorem sm_X12_told : am_Smono (sp_X12_told) := fn_sp_mono _
set_option maxRecDepth 100000 in
theorem t_X12_told {n : Nat} {r : Nat → Nat → Option Nat} (hf : fn_F n r) {q : Int32 × fm_} (p1 : Int32) (p2 : Int32) {m : fm_}
  (h : f_X12_told p1 p2 m = some q) {Q : Option Value → am_W → Prop} (hQ : Q (en_i q).1 (mk_ n r q.2)) : am_T m_X12_told sp_X12_told n Q 0 [some (.ref 106), some (.int p1), some (.int p2), none] [] (mk_ n r m) :=
  am_T.wp sm_X12_told (K := am_T m_X12_told sp_X12_told n Q) (cuts := []) (fun _ _ _ _ h => h) 29
    (⟨fn_aF hf rfl rfl, fh_if h (fun c1 h2 => ⟨fn_aF hf rfl rfl, fh_if h2 (fun c3 h4 => ⟨fn_aF hf rfl rfl, fh_if h4 (fun c5 h6 => fh_bd h6 fun q7 e8 h9 => ⟨Nat.le_of_ble_eq_true rfl, fn_aF hf rfl rfl, ⟨hf, none, q7.2, gp_X12_wrong (n := n) (r := r)  e8, fun _ => ⟨rfl, ⟨fn_aF hf rfl rfl, ⟨fn_aF hf rfl rfl, fh_in h9 (fun c10 h11 => ⟨rfl, fh_rt h11 hQ⟩) (fun c10 h11 => fh_bd h11 fun q12 e13 h14 => ⟨Nat.le_of_ble_eq_true rfl, fn_aF hf rfl rfl, ⟨hf, none, q12.2, gp_X12_next (n := n) (r := r)  e13, fun _ => ⟨rfl, ⟨rfl, fh_rt h14 hQ⟩⟩⟩⟩)⟩⟩⟩⟩⟩) (fun c5 h6 => ⟨fn_aF hf rfl rfl, fh_if h6 (fun c15 h16 => ⟨fn_aF hf rfl rfl, ⟨fn_aF hf rfl rfl, fh_in h16 (fun c17 h18 => ⟨rfl, fh_rt h18 hQ⟩) (fun c17 h18 => fh_bd h18 fun q19 e20 h21 => ⟨Nat.le_of_ble_eq_true rfl, fn_aF hf rfl rfl, ⟨hf, none, q19.2, gp_X12_next (n := n) (r := r)  e20, fun _ => ⟨rfl, ⟨rfl, fh_rt h21 hQ⟩⟩⟩⟩)⟩⟩) (fun c15 h16 => fh_bd h16 fun q22 e23 h24 => ⟨Nat.le_of_ble_eq_true rfl, fn_aF hf rfl rfl, ⟨hf, none, q22.2, gp_X12_wrong (n := n) (r := r)  e23, fun _ => ⟨rfl, ⟨fn_aF hf rfl rfl, ⟨fn_aF hf rfl rfl, fh_in h24 (fun c25 h26 => ⟨rfl, fh_rt h26 hQ⟩) (fun c25 h26 => fh_bd h26 fun q27 e28 h29 => ⟨Nat.le_of_ble_eq_true rfl, fn_aF hf rfl rfl, ⟨hf, none, q27.2, gp_X12_next (n := n) (r := r)  e28, fun _ => ⟨rfl, ⟨rfl, fh_rt h29 hQ⟩⟩⟩⟩)⟩⟩⟩⟩⟩)⟩)⟩) (fun c3 h4 => fh_bd h4 fun q30 e31 h32 => ⟨Nat.le_of_ble_eq_true rfl, fn_aF hf rfl rfl, ⟨hf, none, q30.2, gp_X12_wrong (n := n) (r := r)  e31, fun _ => ⟨rfl, ⟨fn_aF hf rfl rfl, ⟨fn_aF hf rfl rfl, fh_in h32 (fun c33 h34 => ⟨rfl, fh_rt h34 hQ⟩) (fun c33 h34 => fh_bd h34 fun q35 e36 h37 => ⟨Nat.le_of_ble_eq_true rfl, fn_aF hf rfl rfl, ⟨hf, none, q35.2, gp_X12_next (n := n) (r := r)  e36, fun _ => ⟨rfl, ⟨rfl, fh_rt h37 hQ⟩⟩⟩⟩)⟩⟩⟩⟩⟩)⟩) (fun c1 h2 => ⟨rfl, fh_rt h2 hQ⟩)⟩)
noncomputable def G_X12_told (n : Nat) (r : Nat → Nat → Option Nat) (as : List Value) (m : fm_) : Option (Option Value × fm_) := match as with
  | [.ref x0, .int p1, .int p2] => gd_ (Nat.beq x0 106) ((f_X12_told p1 p2 m).map en_i)
  | _ => none
set_option maxRecDepth 100000 in
theorem gp_X12_told {n : Nat} {r : Nat → Nat → Option Nat}  {p1 : Int32} {p2 : Int32} {m : fm_} {q : Int32 × fm_}  (e : f_X12_told p1 p2 m = some q) : G_X12_told n r [.ref 106, .int p1, .int p2] m = some (en_i q) := by
  show (gd_ (Nat.beq 106 106) ((f_X12_told p1 p2 m).map en_i)) = _
  exact fn_gd rfl (fn_mp e)
set_option maxRecDepth 100000 in
theorem ok_X12_told : am_mok 12 196 m_X12_told = true := by decide +kernel
set_option maxRecDepth 100000 in
theorem c_X12_told (l : Launch) {g : am_G} (hg : fx_ l g) : am_Met l g 3 196 (fn_s fn_F G_X12_told) := by
  refine am_sound (own := 12) (M := m_X12_told) (SP := sp_X12_told) hg.1 (by decide +kernel) ok_X12_told (by decide +kernel) ?_ (fun q hq hk => absurd hk (am_no61 (M := m_X12_told) (by decide +kernel) q hq)) (fn_ext l _ rfl g 12) (Or.inl (by decide +kernel)) ?_ ?_
  · intro q hq hk
    have hm : q.2.2.2.1 ∈ am_cs m_X12_told := am_cs_in hq hk
    rw [show am_cs m_X12_told = [193, 193, 192] by decide +kernel] at hm
    have hm : q.2.2.2.1 ∈ [192, 193] := (List.all_eq_true.mp (show ([193, 193, 192] : List Nat).all (fun a => decide (a ∈ ([192, 193] : List Nat))) = true by decide +kernel) _ hm |> of_decide_eq_true)
    simp only [List.mem_cons, List.not_mem_nil, or_false] at hm
    rcases hm with hm | hm
    · rw [hm]; exact ⟨2, by omega, c_X12_next l hg⟩
    · rw [hm]; exact ⟨0, by omega, c_X12_wrong l hg⟩
  · intro as w K h
    obtain ⟨hf, y, m1, hG, hK⟩ := h
    unfold G_X12_told at hG
    split at hG
    · exact Nat.le_of_ble_eq_true rfl
    · cases hG
  · intro as w K h
    obtain ⟨n, i0, l0, r⟩ := w
    obtain ⟨hf, y, m1, hG, hK⟩ := h
    unfold G_X12_told at hG
    split at hG
    · next x0 p1 p2 =>
      obtain ⟨hx1, hG1⟩ := gd_u hG
      obtain rfl := Nat.eq_of_beq_eq_true hx1
      obtain ⟨q, hq, he⟩ := fn_mu hG1
      obtain ⟨rfl, rfl⟩ := Prod.mk.inj he
      exact t_X12_told  hf  p1 p2 (m := (i0, l0)) hq hK
    · cases hG

/-! == X12_point == -/
noncomputable def f_X12_point (p1 : Int32) (m : fm_) : Option (Int32 × fm_) :=
  (if (gi_ m 106 2) ≤ 0 then
(if (gi_ m 106 6) = 3 then
(if ((p1 >>> ((gi_ m 106 8) &&& 31)) &&& 1) = 1 then
(Option.bind (f_X12_wrong 5 m) fun q12 =>
(if (gi_ q12.2 106 2) = 0 then
(Option.bind (f_X12_next q12.2) fun q17 =>
((some ((gi_ q12.2 106 8), q17.2))))
else
((some ((gi_ q12.2 106 8), q12.2)))))
else
(if (gi_ m 106 2) = 0 then
(Option.bind (f_X12_next m) fun q9 =>
((some ((gi_ m 106 8), q9.2))))
else
((some ((gi_ m 106 8), m)))))
else
(Option.bind (f_X12_wrong 2 m) fun q20 =>
(if (gi_ q20.2 106 2) = 0 then
(Option.bind (f_X12_next q20.2) fun q25 =>
((some ((gi_ q20.2 106 8), q25.2))))
else
((some ((gi_ q20.2 106 8), q20.2))))))
else
((some (0, m))))
def sp_X12_point : am_S := fn_sp [(193, fn_F, G_X12_wrong), (192, fn_F, G_X12_next)]
theorem sm_X12_point : am_Smono (sp_X12_point) := fn_sp_mono _
set_option maxRecDepth 100000 in
theorem t_X12_point {n : Nat} {r : Nat → Nat → Option Nat} (hf : fn_F n r) {q : Int32 × fm_} (p1 : Int32) {m : fm_}
  (h : f_X12_point p1 m = some q) {Q : Option Value → am_W → Prop} (hQ : Q (en_i q).1 (mk_ n r q.2)) : am_T m_X12_point sp_X12_point n Q 0 [some (.ref 106), some (.int p1), none] [] (mk_ n r m) :=
  am_T.wp sm_X12_point (K := am_T m_X12_point sp_X12_point n Q) (cuts := []) (fun _ _ _ _ h => h) 29
    (⟨fn_aF hf rfl rfl, fh_if h (fun c1 h2 => ⟨fn_aF hf rfl rfl, fh_if h2 (fun c3 h4 => ⟨fn_aF hf rfl rfl, fh_in h4 (fun c5 h6 => ⟨fn_aF hf rfl rfl, ⟨fn_aF hf rfl rfl, fh_in h6 (fun c7 h8 => ⟨rfl, fh_rt h8 hQ⟩) (fun c7 h8 => fh_bd h8 fun q9 e10 h11 => ⟨Nat.le_of_ble_eq_true rfl, fn_aF hf rfl rfl, ⟨hf, none, q9.2, gp_X12_next (n := n) (r := r)  e10, fun _ => ⟨rfl, ⟨rfl, fh_rt h11 hQ⟩⟩⟩⟩)⟩⟩) (fun c5 h6 => fh_bd h6 fun q12 e13 h14 => ⟨Nat.le_of_ble_eq_true rfl, fn_aF hf rfl rfl, ⟨hf, none, q12.2, gp_X12_wrong (n := n) (r := r)  e13, fun _ => ⟨rfl, ⟨fn_aF hf rfl rfl, ⟨fn_aF hf rfl rfl, fh_in h14 (fun c15 h16 => ⟨rfl, fh_rt h16 hQ⟩) (fun c15 h16 => fh_bd h16 fun q17 e18 h19 => ⟨Nat.le_of_ble_eq_true rfl, fn_aF hf rfl rfl, ⟨hf, none, q17.2, gp_X12_next (n := n) (r := r)  e18, fun _ => ⟨rfl, ⟨rfl, fh_rt h19 hQ⟩⟩⟩⟩)⟩⟩⟩⟩⟩)⟩) (fun c3 h4 => fh_bd h4 fun q20 e21 h22 => ⟨Nat.le_of_ble_eq_true rfl, fn_aF hf rfl rfl, ⟨hf, none, q20.2, gp_X12_wrong (n := n) (r := r)  e21, fun _ => ⟨rfl, ⟨fn_aF hf rfl rfl, ⟨fn_aF hf rfl rfl, fh_in h22 (fun c23 h24 => ⟨rfl, fh_rt h24 hQ⟩) (fun c23 h24 => fh_bd h24 fun q25 e26 h27 => ⟨Nat.le_of_ble_eq_true rfl, fn_aF hf rfl rfl, ⟨hf, none, q25.2, gp_X12_next (n := n) (r := r)  e26, fun _ => ⟨rfl, ⟨rfl, fh_rt h27 hQ⟩⟩⟩⟩)⟩⟩⟩⟩⟩)⟩) (fun c1 h2 => ⟨rfl, fh_rt h2 hQ⟩)⟩)
noncomputable def G_X12_point (n : Nat) (r : Nat → Nat → Option Nat) (as : List Value) (m : fm_) : Option (Option Value × fm_) := match as with
  | [.ref x0, .int p1] => gd_ (Nat.beq x0 106) ((f_X12_point p1 m).map en_i)
  | _ => none
set_option maxRecDepth 100000 in
theorem gp_X12_point {n : Nat} {r : Nat → Nat → Option Nat}  {p1 : Int32} {m : fm_} {q : Int32 × fm_}  (e : f_X12_point p1 m = some q) : G_X12_point n r [.ref 106, .int p1] m = some (en_i q) := by
  show (gd_ (Nat.beq 106 106) ((f_X12_point p1 m).map en_i)) = _
  exact fn_gd rfl (fn_mp e)
set_option maxRecDepth 100000 in
theorem ok_X12_point : am_mok 12 197 m_X12_point = true := by decide +kernel
set_option maxRecDepth 100000 in
theorem c_X12_point (l : Launch) {g : am_G} (hg : fx_ l g) : am_Met l g 3 197 (fn_s fn_F G_X12_point) := by
  refine am_sound (own := 12) (M := m_X12_point) (SP := sp_X12_point) hg.1 (by decide +kernel) ok_X12_point (by decide +kernel) ?_ (fun q hq hk => absurd hk (am_no61 (M := m_X12_point) (by decide +kernel) q hq)) (fn_ext l _ rfl g 12) (Or.inl (by decide +kernel)) ?_ ?_
  · intro q hq hk
    have hm : q.2.2.2.1 ∈ am_cs m_X12_point := am_cs_in hq hk
    rw [show am_cs m_X12_point = [193, 193, 192] by decide +kernel] at hm
    have hm : q.2.2.2.1 ∈ [192, 193] := (List.all_eq_true.mp (show ([193, 193, 192] : List Nat).all (fun a => decide (a ∈ ([192, 193] : List Nat))) = true by decide +kernel) _ hm |> of_decide_eq_true)
    simp only [List.mem_cons, List.not_mem_nil, or_false] at hm
    rcases hm with hm | hm
    · rw [hm]; exact ⟨2, by omega, c_X12_next l hg⟩
    · rw [hm]; exact ⟨0, by omega, c_X12_wrong l hg⟩
  · intro as w K h
    obtain ⟨hf, y, m1, hG, hK⟩ := h
    unfold G_X12_point at hG
    split at hG
    · exact Nat.le_of_ble_eq_true rfl
    · cases hG
  · intro as w K h
    obtain ⟨n, i0, l0, r⟩ := w
    obtain ⟨hf, y, m1, hG, hK⟩ := h
    unfold G_X12_point at hG
    split at hG
    · next x0 p1 =>
      obtain ⟨hx1, hG1⟩ := gd_u hG
      obtain rfl := Nat.eq_of_beq_eq_true hx1
      obtain ⟨q, hq, he⟩ := fn_mu hG1
      obtain ⟨rfl, rfl⟩ := Prod.mk.inj he
      exact t_X12_point  hf  p1 (m := (i0, l0)) hq hK
    · cases hG

/-! == X12_wantEnd == -/
noncomputable def f_X12_wantEnd  (m : fm_) : Option (Int32 × fm_) :=
  (if (gi_ m 106 2) ≤ 0 then
(if (gi_ m 106 6) = 59 then
(Option.bind (f_X12_next m) fun q5 =>
((some (0, q5.2))))
else
(Option.bind (f_X12_wrong 2 m) fun q8 =>
((some (0, q8.2)))))
else
((some (0, m))))
def sp_X12_wantEnd : am_S := fn_sp [(193, fn_F, G_X12_wrong), (192, fn_F, G_X12_next)]
theorem sm_X12_wantEnd : am_Smono (sp_X12_wantEnd) := fn_sp_mono _
set_option maxRecDepth 100000 in
theorem t_X12_wantEnd {n : Nat} {r : Nat → Nat → Option Nat} (hf : fn_F n r) {q : Int32 × fm_}  {m : fm_}
  (h : f_X12_wantEnd  m = some q) {Q : Option Value → am_W → Prop} (hQ : Q (en_v q).1 (mk_ n r q.2)) : am_T m_X12_wantEnd sp_X12_wantEnd n Q 0 [some (.ref 106)] [] (mk_ n r m) :=
  am_T.wp sm_X12_wantEnd (K := am_T m_X12_wantEnd sp_X12_wantEnd n Q) (cuts := []) (fun _ _ _ _ h => h) 13
    (⟨fn_aF hf rfl rfl, fh_if h (fun c1 h2 => ⟨fn_aF hf rfl rfl, fh_if h2 (fun c3 h4 => fh_bd h4 fun q5 e6 h7 => ⟨Nat.le_of_ble_eq_true rfl, fn_aF hf rfl rfl, ⟨hf, none, q5.2, gp_X12_next (n := n) (r := r)  e6, fun _ => ⟨rfl, ⟨rfl, fh_rt h7 hQ⟩⟩⟩⟩) (fun c3 h4 => fh_bd h4 fun q8 e9 h10 => ⟨Nat.le_of_ble_eq_true rfl, fn_aF hf rfl rfl, ⟨hf, none, q8.2, gp_X12_wrong (n := n) (r := r)  e9, fun _ => ⟨rfl, ⟨rfl, fh_rt h10 hQ⟩⟩⟩⟩)⟩) (fun c1 h2 => ⟨rfl, fh_rt h2 hQ⟩)⟩)
noncomputable def G_X12_wantEnd (n : Nat) (r : Nat → Nat → Option Nat) (as : List Value) (m : fm_) : Option (Option Value × fm_) := match as with
  | [.ref x0] => gd_ (Nat.beq x0 106) ((f_X12_wantEnd  m).map en_v)
  | _ => none
set_option maxRecDepth 100000 in
theorem gp_X12_wantEnd {n : Nat} {r : Nat → Nat → Option Nat}   {m : fm_} {q : Int32 × fm_}  (e : f_X12_wantEnd  m = some q) : G_X12_wantEnd n r [.ref 106] m = some (en_v q) := by
  show (gd_ (Nat.beq 106 106) ((f_X12_wantEnd  m).map en_v)) = _
  exact fn_gd rfl (fn_mp e)
set_option maxRecDepth 100000 in
theorem ok_X12_wantEnd : am_mok 12 198 m_X12_wantEnd = true := by decide +kernel
set_option maxRecDepth 100000 in
theorem c_X12_wantEnd (l : Launch) {g : am_G} (hg : fx_ l g) : am_Met l g 3 198 (fn_s fn_F G_X12_wantEnd) := by
  refine am_sound (own := 12) (M := m_X12_wantEnd) (SP := sp_X12_wantEnd) hg.1 (by decide +kernel) ok_X12_wantEnd (by decide +kernel) ?_ (fun q hq hk => absurd hk (am_no61 (M := m_X12_wantEnd) (by decide +kernel) q hq)) (fn_ext l _ rfl g 12) (Or.inl (by decide +kernel)) ?_ ?_
  · intro q hq hk
    have hm : q.2.2.2.1 ∈ am_cs m_X12_wantEnd := am_cs_in hq hk
    rw [show am_cs m_X12_wantEnd = [193, 192] by decide +kernel] at hm
    have hm : q.2.2.2.1 ∈ [192, 193] := (List.all_eq_true.mp (show ([193, 192] : List Nat).all (fun a => decide (a ∈ ([192, 193] : List Nat))) = true by decide +kernel) _ hm |> of_decide_eq_true)
    simp only [List.mem_cons, List.not_mem_nil, or_false] at hm
    rcases hm with hm | hm
    · rw [hm]; exact ⟨2, by omega, c_X12_next l hg⟩
    · rw [hm]; exact ⟨0, by omega, c_X12_wrong l hg⟩
  · intro as w K h
    obtain ⟨hf, y, m1, hG, hK⟩ := h
    unfold G_X12_wantEnd at hG
    split at hG
    · exact Nat.le_of_ble_eq_true rfl
    · cases hG
  · intro as w K h
    obtain ⟨n, i0, l0, r⟩ := w
    obtain ⟨hf, y, m1, hG, hK⟩ := h
    unfold G_X12_wantEnd at hG
    split at hG
    · next x0 =>
      obtain ⟨hx1, hG1⟩ := gd_u hG
      obtain rfl := Nat.eq_of_beq_eq_true hx1
      obtain ⟨q, hq, he⟩ := fn_mu hG1
      obtain ⟨rfl, rfl⟩ := Prod.mk.inj he
      exact t_X12_wantEnd  hf   (m := (i0, l0)) hq hK
    · cases hG

