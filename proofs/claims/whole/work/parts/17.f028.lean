/-! == X12_operand == -/
abbrev S_X12_operand : Type := (Int32 × Int32 × fm_) ⊕ (Int32 × Int32 × Int32 × fm_) ⊕ (Int32 × Int32 × Int32 × fm_) ⊕ (Int32 × Int32 × Int32 × Int32 × fm_) ⊕ (Int32 × Int32 × Int32 × Int32 × fm_) ⊕ (Int32 × Int32 × Int32 × Int32 × fm_) ⊕ (Int32 × Int32 × Int32 × Int32 × fm_) ⊕ (Int32 × Int32 × Int32 × Int32 × fm_)
noncomputable def st_X12_operand (s : S_X12_operand) : Option (S_X12_operand ⊕ (Int32 × fm_)) := match s with
  | Sum.inl ((x1, x2, m)) =>
    (if x1 = 0 then
(if (gi_ m 106 6) = 40 then
((some (Sum.inl (Sum.inr (Sum.inl ((x1, x2, 1, m)))))))
else
(Option.bind (f_X12_isWord 7237492 m) fun q5 =>
(if q5.1 = 0 then
((some (Sum.inl (Sum.inr (Sum.inr (Sum.inl ((x1, x2, 1, q5.2))))))))
else
((some (Sum.inl (Sum.inr (Sum.inl ((x1, x2, 1, q5.2))))))))))
else
((some (Sum.inl (Sum.inr (Sum.inr (Sum.inl ((x1, x2, 1, m)))))))))
  | Sum.inr (Sum.inl ((x1, x2, x3, m))) =>
    (if x3 = 0 then
((some (Sum.inl (Sum.inr (Sum.inr (Sum.inr (Sum.inl ((x1, x2, x3, 1, m)))))))))
else
((some (Sum.inl (Sum.inr (Sum.inr (Sum.inr (Sum.inl ((x1, x2, x3, 1, m))))))))))
  | Sum.inr (Sum.inr (Sum.inl ((x1, x2, x3, m)))) =>
    (if x3 = 0 then
((some (Sum.inl (Sum.inr (Sum.inr (Sum.inr (Sum.inr (Sum.inr (Sum.inl ((x1, x2, x3, 0, m)))))))))))
else
((some (Sum.inl (Sum.inr (Sum.inr (Sum.inr (Sum.inl ((x1, x2, x3, 0, m))))))))))
  | Sum.inr (Sum.inr (Sum.inr (Sum.inl ((x1, x2, x3, x4, m))))) =>
    (if x4 = 0 then
((some (Sum.inl (Sum.inr (Sum.inr (Sum.inr (Sum.inr (Sum.inl ((x1, x2, x3, x4, m))))))))))
else
(if 7 ≤ (gi_ m 106 53) then
((some (Sum.inl (Sum.inr (Sum.inr (Sum.inr (Sum.inr (Sum.inr (Sum.inl ((x1, x2, x3, x4, m)))))))))))
else
((some (Sum.inl (Sum.inr (Sum.inr (Sum.inr (Sum.inr (Sum.inl ((x1, x2, x3, x4, m))))))))))))
  | Sum.inr (Sum.inr (Sum.inr (Sum.inr (Sum.inl ((x1, x2, x3, x4, m)))))) =>
    (if x3 = 0 then
((some (Sum.inl (Sum.inr (Sum.inr (Sum.inr (Sum.inr (Sum.inr (Sum.inr (Sum.inl ((x1, x2, x3, x4, m))))))))))))
else
(if (gi_ m 106 50) = 50 then
((some (Sum.inl (Sum.inr (Sum.inr (Sum.inr (Sum.inr (Sum.inr (Sum.inl ((x1, x2, x3, x4, m)))))))))))
else
((some (Sum.inl (Sum.inr (Sum.inr (Sum.inr (Sum.inr (Sum.inr (Sum.inr (Sum.inl ((x1, x2, x3, x4, m))))))))))))))
  | Sum.inr (Sum.inr (Sum.inr (Sum.inr (Sum.inr (Sum.inl ((x1, x2, x3, x4, m))))))) =>
    (Option.bind (f_X12_wrong 2 m) fun q1 =>
((some (Sum.inl (Sum.inr (Sum.inr (Sum.inr (Sum.inr (Sum.inr (Sum.inr (Sum.inr ((x1, x2, x3, x4, q1.2)))))))))))))
  | Sum.inr (Sum.inr (Sum.inr (Sum.inr (Sum.inr (Sum.inr (Sum.inl ((x1, x2, x3, x4, m)))))))) =>
    (if x3 = 0 then
((some (Sum.inl (Sum.inr (Sum.inr (Sum.inr (Sum.inr (Sum.inr (Sum.inr (Sum.inr ((x1, x2, x3, x4, m))))))))))))
else
(Option.bind (f_X12_mayAsk x2 m) fun q3 =>
(if q3.1 = 0 then
(Option.bind (f_X12_wrong 6 q3.2) fun q8 =>
((some (Sum.inl (Sum.inr (Sum.inr (Sum.inr (Sum.inr (Sum.inr (Sum.inr (Sum.inr ((x1, x2, x3, x4, q8.2)))))))))))))
else
((some (Sum.inl (Sum.inr (Sum.inr (Sum.inr (Sum.inr (Sum.inr (Sum.inr (Sum.inr ((x1, x2, x3, x4, q3.2)))))))))))))))
  | Sum.inr (Sum.inr (Sum.inr (Sum.inr (Sum.inr (Sum.inr (Sum.inr ((x1, x2, x3, x4, m)))))))) =>
    (if (gi_ m 106 2) ≤ 0 then
(if x4 = 0 then
(if x2 < 0 then
(Option.bind (f_X12_step 0 (gi_ m 106 8) (si_ m 106 50 ((gi_ m 106 50) + 1))) fun q7 =>
(Option.bind (f_X12_next q7.2) fun q10 =>
(if x1 = 2 then
((some (Sum.inr (4, q10.2))))
else
((some (Sum.inr (3, q10.2)))))))
else
(Option.bind (f_X12_step x2 (gi_ m 106 8) (si_ m 106 50 ((gi_ m 106 50) + 1))) fun q15 =>
(Option.bind (f_X12_next q15.2) fun q18 =>
(if x1 = 2 then
((some (Sum.inr (4, q18.2))))
else
((some (Sum.inr (3, q18.2))))))))
else
(if (gi_ m 106 6) = 40 then
(Option.bind (f_X12_hold 28 m) fun q31 =>
(Option.bind (f_X12_next q31.2) fun q34 =>
((some (Sum.inr (0, q34.2))))))
else
(Option.bind (f_X12_hold 20 m) fun q25 =>
(Option.bind (f_X12_next q25.2) fun q28 =>
((some (Sum.inr (0, q28.2))))))))
else
((some (Sum.inr (x1, m)))))
noncomputable def f_X12_operand_17 (x1 : Int32) (x2 : Int32) (m : fm_) : Option (Int32 × fm_) := am_lp (st_X12_operand) (Sum.inl ((x1, x2, m)))
noncomputable def f_X12_operand_46 (x1 : Int32) (x2 : Int32) (x3 : Int32) (m : fm_) : Option (Int32 × fm_) := am_lp (st_X12_operand) (Sum.inr (Sum.inl ((x1, x2, x3, m))))
noncomputable def f_X12_operand_50 (x1 : Int32) (x2 : Int32) (x3 : Int32) (m : fm_) : Option (Int32 × fm_) := am_lp (st_X12_operand) (Sum.inr (Sum.inr (Sum.inl ((x1, x2, x3, m)))))
noncomputable def f_X12_operand_62 (x1 : Int32) (x2 : Int32) (x3 : Int32) (x4 : Int32) (m : fm_) : Option (Int32 × fm_) := am_lp (st_X12_operand) (Sum.inr (Sum.inr (Sum.inr (Sum.inl ((x1, x2, x3, x4, m))))))
noncomputable def f_X12_operand_76 (x1 : Int32) (x2 : Int32) (x3 : Int32) (x4 : Int32) (m : fm_) : Option (Int32 × fm_) := am_lp (st_X12_operand) (Sum.inr (Sum.inr (Sum.inr (Sum.inr (Sum.inl ((x1, x2, x3, x4, m)))))))
noncomputable def f_X12_operand_89 (x1 : Int32) (x2 : Int32) (x3 : Int32) (x4 : Int32) (m : fm_) : Option (Int32 × fm_) := am_lp (st_X12_operand) (Sum.inr (Sum.inr (Sum.inr (Sum.inr (Sum.inr (Sum.inl ((x1, x2, x3, x4, m))))))))
noncomputable def f_X12_operand_97 (x1 : Int32) (x2 : Int32) (x3 : Int32) (x4 : Int32) (m : fm_) : Option (Int32 × fm_) := am_lp (st_X12_operand) (Sum.inr (Sum.inr (Sum.inr (Sum.inr (Sum.inr (Sum.inr (Sum.inl ((x1, x2, x3, x4, m)))))))))
noncomputable def f_X12_operand_115 (x1 : Int32) (x2 : Int32) (x3 : Int32) (x4 : Int32) (m : fm_) : Option (Int32 × fm_) := am_lp (st_X12_operand) (Sum.inr (Sum.inr (Sum.inr (Sum.inr (Sum.inr (Sum.inr (Sum.inr ((x1, x2, x3, x4, m)))))))))
theorem e_X12_operand_17 (x1 : Int32) (x2 : Int32) (m : fm_) : f_X12_operand_17 x1 x2 m =
(if x1 = 0 then
(if (gi_ m 106 6) = 40 then
((f_X12_operand_46 x1 x2 1 m))
else
(Option.bind (f_X12_isWord 7237492 m) fun q5 =>
(if q5.1 = 0 then
((f_X12_operand_50 x1 x2 1 q5.2))
else
((f_X12_operand_46 x1 x2 1 q5.2)))))
else
((f_X12_operand_50 x1 x2 1 m))) :=
  (am_lp_eq _ _).trans (fe_if (fe_if (rfl) (fe_bd fun q5 => (fe_if (rfl) (rfl)))) (rfl))
theorem e_X12_operand_46 (x1 : Int32) (x2 : Int32) (x3 : Int32) (m : fm_) : f_X12_operand_46 x1 x2 x3 m =
(if x3 = 0 then
((f_X12_operand_62 x1 x2 x3 1 m))
else
((f_X12_operand_62 x1 x2 x3 1 m))) :=
  (am_lp_eq _ _).trans (fe_if (rfl) (rfl))
theorem e_X12_operand_50 (x1 : Int32) (x2 : Int32) (x3 : Int32) (m : fm_) : f_X12_operand_50 x1 x2 x3 m =
(if x3 = 0 then
((f_X12_operand_89 x1 x2 x3 0 m))
else
((f_X12_operand_62 x1 x2 x3 0 m))) :=
  (am_lp_eq _ _).trans (fe_if (rfl) (rfl))
theorem e_X12_operand_62 (x1 : Int32) (x2 : Int32) (x3 : Int32) (x4 : Int32) (m : fm_) : f_X12_operand_62 x1 x2 x3 x4 m =
(if x4 = 0 then
((f_X12_operand_76 x1 x2 x3 x4 m))
else
(if 7 ≤ (gi_ m 106 53) then
((f_X12_operand_89 x1 x2 x3 x4 m))
else
((f_X12_operand_76 x1 x2 x3 x4 m)))) :=
  (am_lp_eq _ _).trans (fe_if (rfl) (fe_if (rfl) (rfl)))
theorem e_X12_operand_76 (x1 : Int32) (x2 : Int32) (x3 : Int32) (x4 : Int32) (m : fm_) : f_X12_operand_76 x1 x2 x3 x4 m =
(if x3 = 0 then
((f_X12_operand_97 x1 x2 x3 x4 m))
else
(if (gi_ m 106 50) = 50 then
((f_X12_operand_89 x1 x2 x3 x4 m))
else
((f_X12_operand_97 x1 x2 x3 x4 m)))) :=
  (am_lp_eq _ _).trans (fe_if (rfl) (fe_if (rfl) (rfl)))
theorem e_X12_operand_89 (x1 : Int32) (x2 : Int32) (x3 : Int32) (x4 : Int32) (m : fm_) : f_X12_operand_89 x1 x2 x3 x4 m =
(Option.bind (f_X12_wrong 2 m) fun q1 =>
((f_X12_operand_115 x1 x2 x3 x4 q1.2))) :=
  (am_lp_eq _ _).trans (fe_bd fun q1 => (rfl))
theorem e_X12_operand_97 (x1 : Int32) (x2 : Int32) (x3 : Int32) (x4 : Int32) (m : fm_) : f_X12_operand_97 x1 x2 x3 x4 m =
(if x3 = 0 then
((f_X12_operand_115 x1 x2 x3 x4 m))
else
(Option.bind (f_X12_mayAsk x2 m) fun q3 =>
(if q3.1 = 0 then
(Option.bind (f_X12_wrong 6 q3.2) fun q8 =>
((f_X12_operand_115 x1 x2 x3 x4 q8.2)))
else
((f_X12_operand_115 x1 x2 x3 x4 q3.2))))) :=
  (am_lp_eq _ _).trans (fe_if (rfl) (fe_bd fun q3 => (fe_if (fe_bd fun q8 => (rfl)) (rfl))))
theorem e_X12_operand_115 (x1 : Int32) (x2 : Int32) (x3 : Int32) (x4 : Int32) (m : fm_) : f_X12_operand_115 x1 x2 x3 x4 m =
(if (gi_ m 106 2) ≤ 0 then
(if x4 = 0 then
(if x2 < 0 then
(Option.bind (f_X12_step 0 (gi_ m 106 8) (si_ m 106 50 ((gi_ m 106 50) + 1))) fun q7 =>
(Option.bind (f_X12_next q7.2) fun q10 =>
(if x1 = 2 then
((some (4, q10.2)))
else
((some (3, q10.2))))))
else
(Option.bind (f_X12_step x2 (gi_ m 106 8) (si_ m 106 50 ((gi_ m 106 50) + 1))) fun q15 =>
(Option.bind (f_X12_next q15.2) fun q18 =>
(if x1 = 2 then
((some (4, q18.2)))
else
((some (3, q18.2)))))))
else
(if (gi_ m 106 6) = 40 then
(Option.bind (f_X12_hold 28 m) fun q31 =>
(Option.bind (f_X12_next q31.2) fun q34 =>
((some (0, q34.2)))))
else
(Option.bind (f_X12_hold 20 m) fun q25 =>
(Option.bind (f_X12_next q25.2) fun q28 =>
((some (0, q28.2)))))))
else
((some (x1, m)))) :=
  (am_lp_eq _ _).trans (fe_if (fe_if (fe_if (fe_bd fun q7 => (fe_bd fun q10 => (fe_if (rfl) (rfl)))) (fe_bd fun q15 => (fe_bd fun q18 => (fe_if (rfl) (rfl))))) (fe_if (fe_bd fun q31 => (fe_bd fun q34 => (rfl))) (fe_bd fun q25 => (fe_bd fun q28 => (rfl))))) (rfl))
noncomputable def f_X12_operand (p1 : Int32) (m : fm_) : Option (Int32 × fm_) :=
  (Option.bind (f_X12_named m) fun q1 =>
(if (gi_ q1.2 106 6) = 2 then
((f_X12_operand_17 p1 q1.1 q1.2))
else
(if q1.1 < 0 then
(if p1 = 0 then
(if (gi_ q1.2 106 6) = 40 then
((f_X12_operand_46 p1 q1.1 0 q1.2))
else
(Option.bind (f_X12_isWord 7237492 q1.2) fun q12 =>
(if q12.1 = 0 then
((f_X12_operand_50 p1 q1.1 0 q12.2))
else
((f_X12_operand_46 p1 q1.1 0 q12.2)))))
else
((f_X12_operand_50 p1 q1.1 0 q1.2)))
else
((f_X12_operand_17 p1 q1.1 q1.2)))))
def sp_X12_operand : am_S := fn_sp [(214, fn_F, G_X12_named), (194, fn_F, G_X12_isWord), (193, fn_F, G_X12_wrong), (215, fn_F, G_X12_mayAsk), (208, fn_F, G_X12_hold), (192, fn_F, G_X12_next), (206, fn_F, G_X12_step)]
theorem sm_X12_operand : am_Smono (sp_X12_operand) := fn_sp_mono _
def P_X12_operand (n : Nat) (r : Nat → Nat → Option Nat) (s : S_X12_operand) (q : Int32 × fm_) : Prop := match s with
  | Sum.inl ((x1, x2, m)) => ∀ (Q : Option Value → am_W → Prop), Q (en_i q).1 (mk_ n r q.2) → am_T m_X12_operand sp_X12_operand n Q 17 [some (.ref 106), some (.int x1), some (.int x2), none, none] [] (mk_ n r m)
  | Sum.inr (Sum.inl ((x1, x2, x3, m))) => ∀ (Q : Option Value → am_W → Prop), Q (en_i q).1 (mk_ n r q.2) → am_T m_X12_operand sp_X12_operand n Q 46 [some (.ref 106), some (.int x1), some (.int x2), some (.int x3), none] [] (mk_ n r m)
  | Sum.inr (Sum.inr (Sum.inl ((x1, x2, x3, m)))) => ∀ (Q : Option Value → am_W → Prop), Q (en_i q).1 (mk_ n r q.2) → am_T m_X12_operand sp_X12_operand n Q 50 [some (.ref 106), some (.int x1), some (.int x2), some (.int x3), none] [] (mk_ n r m)
  | Sum.inr (Sum.inr (Sum.inr (Sum.inl ((x1, x2, x3, x4, m))))) => ∀ (Q : Option Value → am_W → Prop), Q (en_i q).1 (mk_ n r q.2) → am_T m_X12_operand sp_X12_operand n Q 62 [some (.ref 106), some (.int x1), some (.int x2), some (.int x3), some (.int x4)] [] (mk_ n r m)
  | Sum.inr (Sum.inr (Sum.inr (Sum.inr (Sum.inl ((x1, x2, x3, x4, m)))))) => ∀ (Q : Option Value → am_W → Prop), Q (en_i q).1 (mk_ n r q.2) → am_T m_X12_operand sp_X12_operand n Q 76 [some (.ref 106), some (.int x1), some (.int x2), some (.int x3), some (.int x4)] [] (mk_ n r m)
  | Sum.inr (Sum.inr (Sum.inr (Sum.inr (Sum.inr (Sum.inl ((x1, x2, x3, x4, m))))))) => ∀ (Q : Option Value → am_W → Prop), Q (en_i q).1 (mk_ n r q.2) → am_T m_X12_operand sp_X12_operand n Q 89 [some (.ref 106), some (.int x1), some (.int x2), some (.int x3), some (.int x4)] [] (mk_ n r m)
  | Sum.inr (Sum.inr (Sum.inr (Sum.inr (Sum.inr (Sum.inr (Sum.inl ((x1, x2, x3, x4, m)))))))) => ∀ (Q : Option Value → am_W → Prop), Q (en_i q).1 (mk_ n r q.2) → am_T m_X12_operand sp_X12_operand n Q 97 [some (.ref 106), some (.int x1), some (.int x2), some (.int x3), some (.int x4)] [] (mk_ n r m)
  | Sum.inr (Sum.inr (Sum.inr (Sum.inr (Sum.inr (Sum.inr (Sum.inr ((x1, x2, x3, x4, m)))))))) => ∀ (Q : Option Value → am_W → Prop), Q (en_i q).1 (mk_ n r q.2) → am_T m_X12_operand sp_X12_operand n Q 115 [some (.ref 106), some (.int x1), some (.int x2), some (.int x3), some (.int x4)] [] (mk_ n r m)
set_option maxRecDepth 100000 in
theorem t_X12_operand_17 {n : Nat} {r : Nat → Nat → Option Nat} (hf : fn_F n r) {K : S_X12_operand → Option (Int32 × fm_)} {q : Int32 × fm_} (hK : ∀ s, K s = some q → P_X12_operand n r s q) (x1 : Int32) (x2 : Int32) (m : fm_)
  (h : am_k K (st_X12_operand (Sum.inl ((x1, x2, m)))) = some q) : P_X12_operand n r (Sum.inl ((x1, x2, m))) q := fun Q hQ =>
  am_T.wp sm_X12_operand (K := am_T m_X12_operand sp_X12_operand n Q) (cuts := [17, 46, 50, 62, 76, 89, 97, 115]) (fun _ _ _ _ h => h) 15
    (fj_in h (fun c1 h2 => hK _ h2 _ hQ) (fun c1 h2 => ⟨fn_aF hf rfl rfl, fj_if h2 (fun c3 h4 => hK _ h4 _ hQ) (fun c3 h4 => fj_bd h4 fun q5 e6 h7 => ⟨Nat.le_of_ble_eq_true rfl, fn_aF hf rfl rfl, ⟨hf, some (.int q5.1), q5.2, gp_X12_isWord (n := n) (r := r)  e6, fun _ => fj_if h7 (fun c8 h9 => hK _ h9 _ hQ) (fun c8 h9 => hK _ h9 _ hQ)⟩⟩)⟩))
set_option maxRecDepth 100000 in
theorem t_X12_operand_46 {n : Nat} {r : Nat → Nat → Option Nat} (hf : fn_F n r) {K : S_X12_operand → Option (Int32 × fm_)} {q : Int32 × fm_} (hK : ∀ s, K s = some q → P_X12_operand n r s q) (x1 : Int32) (x2 : Int32) (x3 : Int32) (m : fm_)
  (h : am_k K (st_X12_operand (Sum.inr (Sum.inl ((x1, x2, x3, m))))) = some q) : P_X12_operand n r (Sum.inr (Sum.inl ((x1, x2, x3, m)))) q := fun Q hQ =>
  am_T.wp sm_X12_operand (K := am_T m_X12_operand sp_X12_operand n Q) (cuts := [17, 46, 50, 62, 76, 89, 97, 115]) (fun _ _ _ _ h => h) 9
    (fj_in h (fun c1 h2 => hK _ h2 _ hQ) (fun c1 h2 => ⟨fun c3 => absurd c3 (by decide), fun c3 => hK _ h2 _ hQ⟩))
set_option maxRecDepth 100000 in
theorem t_X12_operand_50 {n : Nat} {r : Nat → Nat → Option Nat} (hf : fn_F n r) {K : S_X12_operand → Option (Int32 × fm_)} {q : Int32 × fm_} (hK : ∀ s, K s = some q → P_X12_operand n r s q) (x1 : Int32) (x2 : Int32) (x3 : Int32) (m : fm_)
  (h : am_k K (st_X12_operand (Sum.inr (Sum.inr (Sum.inl ((x1, x2, x3, m)))))) = some q) : P_X12_operand n r (Sum.inr (Sum.inr (Sum.inl ((x1, x2, x3, m))))) q := fun Q hQ =>
  am_T.wp sm_X12_operand (K := am_T m_X12_operand sp_X12_operand n Q) (cuts := [17, 46, 50, 62, 76, 89, 97, 115]) (fun _ _ _ _ h => h) 8
    (fj_in h (fun c1 h2 => hK _ h2 _ hQ) (fun c1 h2 => ⟨fun c3 => hK _ h2 _ hQ, fun c3 => absurd c3 (by decide)⟩))
set_option maxRecDepth 100000 in
theorem t_X12_operand_62 {n : Nat} {r : Nat → Nat → Option Nat} (hf : fn_F n r) {K : S_X12_operand → Option (Int32 × fm_)} {q : Int32 × fm_} (hK : ∀ s, K s = some q → P_X12_operand n r s q) (x1 : Int32) (x2 : Int32) (x3 : Int32) (x4 : Int32) (m : fm_)
  (h : am_k K (st_X12_operand (Sum.inr (Sum.inr (Sum.inr (Sum.inl ((x1, x2, x3, x4, m))))))) = some q) : P_X12_operand n r (Sum.inr (Sum.inr (Sum.inr (Sum.inl ((x1, x2, x3, x4, m)))))) q := fun Q hQ =>
  am_T.wp sm_X12_operand (K := am_T m_X12_operand sp_X12_operand n Q) (cuts := [17, 46, 50, 62, 76, 89, 97, 115]) (fun _ _ _ _ h => h) 8
    (fj_if h (fun c1 h2 => hK _ h2 _ hQ) (fun c1 h2 => ⟨fn_aF hf rfl rfl, fj_if h2 (fun c3 h4 => hK _ h4 _ hQ) (fun c3 h4 => hK _ h4 _ hQ)⟩))
set_option maxRecDepth 100000 in
theorem t_X12_operand_76 {n : Nat} {r : Nat → Nat → Option Nat} (hf : fn_F n r) {K : S_X12_operand → Option (Int32 × fm_)} {q : Int32 × fm_} (hK : ∀ s, K s = some q → P_X12_operand n r s q) (x1 : Int32) (x2 : Int32) (x3 : Int32) (x4 : Int32) (m : fm_)
  (h : am_k K (st_X12_operand (Sum.inr (Sum.inr (Sum.inr (Sum.inr (Sum.inl ((x1, x2, x3, x4, m)))))))) = some q) : P_X12_operand n r (Sum.inr (Sum.inr (Sum.inr (Sum.inr (Sum.inl ((x1, x2, x3, x4, m))))))) q := fun Q hQ =>
  am_T.wp sm_X12_operand (K := am_T m_X12_operand sp_X12_operand n Q) (cuts := [17, 46, 50, 62, 76, 89, 97, 115]) (fun _ _ _ _ h => h) 8
    (fj_if h (fun c1 h2 => hK _ h2 _ hQ) (fun c1 h2 => ⟨fn_aF hf rfl rfl, fj_in h2 (fun c3 h4 => hK _ h4 _ hQ) (fun c3 h4 => hK _ h4 _ hQ)⟩))
set_option maxRecDepth 100000 in
theorem t_X12_operand_89 {n : Nat} {r : Nat → Nat → Option Nat} (hf : fn_F n r) {K : S_X12_operand → Option (Int32 × fm_)} {q : Int32 × fm_} (hK : ∀ s, K s = some q → P_X12_operand n r s q) (x1 : Int32) (x2 : Int32) (x3 : Int32) (x4 : Int32) (m : fm_)
  (h : am_k K (st_X12_operand (Sum.inr (Sum.inr (Sum.inr (Sum.inr (Sum.inr (Sum.inl ((x1, x2, x3, x4, m))))))))) = some q) : P_X12_operand n r (Sum.inr (Sum.inr (Sum.inr (Sum.inr (Sum.inr (Sum.inl ((x1, x2, x3, x4, m)))))))) q := fun Q hQ =>
  am_T.wp sm_X12_operand (K := am_T m_X12_operand sp_X12_operand n Q) (cuts := [17, 46, 50, 62, 76, 89, 97, 115]) (fun _ _ _ _ h => h) 6
    (fj_bd h fun q1 e2 h3 => ⟨Nat.le_of_ble_eq_true rfl, fn_aF hf rfl rfl, ⟨hf, none, q1.2, gp_X12_wrong (n := n) (r := r)  e2, fun _ => ⟨rfl, hK _ h3 _ hQ⟩⟩⟩)
set_option maxRecDepth 100000 in
theorem t_X12_operand_97 {n : Nat} {r : Nat → Nat → Option Nat} (hf : fn_F n r) {K : S_X12_operand → Option (Int32 × fm_)} {q : Int32 × fm_} (hK : ∀ s, K s = some q → P_X12_operand n r s q) (x1 : Int32) (x2 : Int32) (x3 : Int32) (x4 : Int32) (m : fm_)
  (h : am_k K (st_X12_operand (Sum.inr (Sum.inr (Sum.inr (Sum.inr (Sum.inr (Sum.inr (Sum.inl ((x1, x2, x3, x4, m)))))))))) = some q) : P_X12_operand n r (Sum.inr (Sum.inr (Sum.inr (Sum.inr (Sum.inr (Sum.inr (Sum.inl ((x1, x2, x3, x4, m))))))))) q := fun Q hQ =>
  am_T.wp sm_X12_operand (K := am_T m_X12_operand sp_X12_operand n Q) (cuts := [17, 46, 50, 62, 76, 89, 97, 115]) (fun _ _ _ _ h => h) 11
    (fj_if h (fun c1 h2 => hK _ h2 _ hQ) (fun c1 h2 => fj_bd h2 fun q3 e4 h5 => ⟨Nat.le_of_ble_eq_true rfl, fn_aF hf rfl rfl, ⟨hf, some (.int q3.1), q3.2, gp_X12_mayAsk (n := n) (r := r)  e4, fun _ => fj_in h5 (fun c6 h7 => hK _ h7 _ hQ) (fun c6 h7 => fj_bd h7 fun q8 e9 h10 => ⟨Nat.le_of_ble_eq_true rfl, fn_aF hf rfl rfl, ⟨hf, none, q8.2, gp_X12_wrong (n := n) (r := r)  e9, fun _ => ⟨rfl, hK _ h10 _ hQ⟩⟩⟩)⟩⟩))
set_option maxRecDepth 100000 in
theorem t_X12_operand_115 {n : Nat} {r : Nat → Nat → Option Nat} (hf : fn_F n r) {K : S_X12_operand → Option (Int32 × fm_)} {q : Int32 × fm_} (hK : ∀ s, K s = some q → P_X12_operand n r s q) (x1 : Int32) (x2 : Int32) (x3 : Int32) (x4 : Int32) (m : fm_)
  (h : am_k K (st_X12_operand (Sum.inr (Sum.inr (Sum.inr (Sum.inr (Sum.inr (Sum.inr (Sum.inr ((x1, x2, x3, x4, m)))))))))) = some q) : P_X12_operand n r (Sum.inr (Sum.inr (Sum.inr (Sum.inr (Sum.inr (Sum.inr (Sum.inr ((x1, x2, x3, x4, m))))))))) q := fun Q hQ =>
  am_T.wp sm_X12_operand (K := am_T m_X12_operand sp_X12_operand n Q) (cuts := [17, 46, 50, 62, 76, 89, 97, 115]) (fun _ _ _ _ h => h) 28
    (⟨fn_aF hf rfl rfl, fj_if h (fun c1 h2 => fj_if h2 (fun c3 h4 => ⟨fn_aF hf rfl rfl, ⟨fn_aF hf rfl rfl, fj_if h4 (fun c5 h6 => ⟨fn_aF hf rfl rfl, fj_bd h6 fun q7 e8 h9 => ⟨Nat.le_of_ble_eq_true rfl, fn_aF hf rfl rfl, ⟨hf, none, q7.2, gp_X12_step (n := n) (r := r)  e8, fun _ => ⟨rfl, fj_bd h9 fun q10 e11 h12 => ⟨Nat.le_of_ble_eq_true rfl, fn_aF hf rfl rfl, ⟨hf, none, q10.2, gp_X12_next (n := n) (r := r)  e11, fun _ => ⟨rfl, fj_in h12 (fun c13 h14 => ⟨rfl, fj_rt h14 hQ⟩) (fun c13 h14 => ⟨rfl, fj_rt h14 hQ⟩)⟩⟩⟩⟩⟩⟩⟩) (fun c5 h6 => ⟨fn_aF hf rfl rfl, fj_bd h6 fun q15 e16 h17 => ⟨Nat.le_of_ble_eq_true rfl, fn_aF hf rfl rfl, ⟨hf, none, q15.2, gp_X12_step (n := n) (r := r)  e16, fun _ => ⟨rfl, fj_bd h17 fun q18 e19 h20 => ⟨Nat.le_of_ble_eq_true rfl, fn_aF hf rfl rfl, ⟨hf, none, q18.2, gp_X12_next (n := n) (r := r)  e19, fun _ => ⟨rfl, fj_in h20 (fun c21 h22 => ⟨rfl, fj_rt h22 hQ⟩) (fun c21 h22 => ⟨rfl, fj_rt h22 hQ⟩)⟩⟩⟩⟩⟩⟩⟩)⟩⟩) (fun c3 h4 => ⟨fn_aF hf rfl rfl, fj_in h4 (fun c23 h24 => fj_bd h24 fun q25 e26 h27 => ⟨Nat.le_of_ble_eq_true rfl, fn_aF hf rfl rfl, ⟨hf, none, q25.2, gp_X12_hold (n := n) (r := r)  e26, fun _ => ⟨rfl, fj_bd h27 fun q28 e29 h30 => ⟨Nat.le_of_ble_eq_true rfl, fn_aF hf rfl rfl, ⟨hf, none, q28.2, gp_X12_next (n := n) (r := r)  e29, fun _ => ⟨rfl, ⟨rfl, fj_rt h30 hQ⟩⟩⟩⟩⟩⟩⟩) (fun c23 h24 => fj_bd h24 fun q31 e32 h33 => ⟨Nat.le_of_ble_eq_true rfl, fn_aF hf rfl rfl, ⟨hf, none, q31.2, gp_X12_hold (n := n) (r := r)  e32, fun _ => ⟨rfl, fj_bd h33 fun q34 e35 h36 => ⟨Nat.le_of_ble_eq_true rfl, fn_aF hf rfl rfl, ⟨hf, none, q34.2, gp_X12_next (n := n) (r := r)  e35, fun _ => ⟨rfl, ⟨rfl, fj_rt h36 hQ⟩⟩⟩⟩⟩⟩⟩)⟩)) (fun c1 h2 => ⟨rfl, fj_rt h2 hQ⟩)⟩)
theorem l_X12_operand {n : Nat} {r : Nat → Nat → Option Nat} (hf : fn_F n r) (s : S_X12_operand) (q : Int32 × fm_) (h : am_lp (st_X12_operand) s = some q) : P_X12_operand n r s q :=
  am_lp_snd (P := P_X12_operand n r) (fun K hK s q h => match s, h with
    | Sum.inl ((x1, x2, m)), h => t_X12_operand_17 hf (fun s => hK s q) x1 x2 m h
    | Sum.inr (Sum.inl ((x1, x2, x3, m))), h => t_X12_operand_46 hf (fun s => hK s q) x1 x2 x3 m h
    | Sum.inr (Sum.inr (Sum.inl ((x1, x2, x3, m)))), h => t_X12_operand_50 hf (fun s => hK s q) x1 x2 x3 m h
    | Sum.inr (Sum.inr (Sum.inr (Sum.inl ((x1, x2, x3, x4, m))))), h => t_X12_operand_62 hf (fun s => hK s q) x1 x2 x3 x4 m h
    | Sum.inr (Sum.inr (Sum.inr (Sum.inr (Sum.inl ((x1, x2, x3, x4, m)))))), h => t_X12_operand_76 hf (fun s => hK s q) x1 x2 x3 x4 m h
    | Sum.inr (Sum.inr (Sum.inr (Sum.inr (Sum.inr (Sum.inl ((x1, x2, x3, x4, m))))))), h => t_X12_operand_89 hf (fun s => hK s q) x1 x2 x3 x4 m h
    | Sum.inr (Sum.inr (Sum.inr (Sum.inr (Sum.inr (Sum.inr (Sum.inl ((x1, x2, x3, x4, m)))))))), h => t_X12_operand_97 hf (fun s => hK s q) x1 x2 x3 x4 m h
    | Sum.inr (Sum.inr (Sum.inr (Sum.inr (Sum.inr (Sum.inr (Sum.inr ((x1, x2, x3, x4, m)))))))), h => t_X12_operand_115 hf (fun s => hK s q) x1 x2 x3 x4 m h) s q h
set_option maxRecDepth 100000 in
theorem t_X12_operand {n : Nat} {r : Nat → Nat → Option Nat} (hf : fn_F n r) {q : Int32 × fm_} (p1 : Int32) {m : fm_}
  (h : f_X12_operand p1 m = some q) {Q : Option Value → am_W → Prop} (hQ : Q (en_i q).1 (mk_ n r q.2)) : am_T m_X12_operand sp_X12_operand n Q 0 [some (.ref 106), some (.int p1), none, none, none] [] (mk_ n r m) :=
  am_T.wp sm_X12_operand (K := am_T m_X12_operand sp_X12_operand n Q) (cuts := [17, 46, 50, 62, 76, 89, 97, 115]) (fun _ _ _ _ h => h) 23
    (fh_bd h fun q1 e2 h3 => ⟨Nat.le_of_ble_eq_true rfl, fn_aF hf rfl rfl, ⟨hf, some (.int q1.1), q1.2, gp_X12_named (n := n) (r := r)  e2, fun _ => ⟨fn_aF hf rfl rfl, fh_if h3 (fun c4 h5 => l_X12_operand hf _ _ h5 _ hQ) (fun c4 h5 => fh_if h5 (fun c6 h7 => fh_in h7 (fun c8 h9 => l_X12_operand hf _ _ h9 _ hQ) (fun c8 h9 => ⟨fn_aF hf rfl rfl, fh_if h9 (fun c10 h11 => l_X12_operand hf _ _ h11 _ hQ) (fun c10 h11 => fh_bd h11 fun q12 e13 h14 => ⟨Nat.le_of_ble_eq_true rfl, fn_aF hf rfl rfl, ⟨hf, some (.int q12.1), q12.2, gp_X12_isWord (n := n) (r := r)  e13, fun _ => fh_if h14 (fun c15 h16 => l_X12_operand hf _ _ h16 _ hQ) (fun c15 h16 => l_X12_operand hf _ _ h16 _ hQ)⟩⟩)⟩)) (fun c6 h7 => l_X12_operand hf _ _ h7 _ hQ))⟩⟩⟩)
noncomputable def G_X12_operand (n : Nat) (r : Nat → Nat → Option Nat) (as : List Value) (m : fm_) : Option (Option Value × fm_) := match as with
  | [.ref x0, .int p1] => gd_ (Nat.beq x0 106) ((f_X12_operand p1 m).map en_i)
  | _ => none
set_option maxRecDepth 100000 in
theorem gp_X12_operand {n : Nat} {r : Nat → Nat → Option Nat}  {p1 : Int32} {m : fm_} {q : Int32 × fm_}  (e : f_X12_operand p1 m = some q) : G_X12_operand n r [.ref 106, .int p1] m = some (en_i q) := by
  show (gd_ (Nat.beq 106 106) ((f_X12_operand p1 m).map en_i)) = _
  exact fn_gd rfl (fn_mp e)
set_option maxRecDepth 100000 in
theorem ok_X12_operand : am_mok 12 216 m_X12_operand = true := by decide +kernel
set_option maxRecDepth 100000 in
theorem c_X12_operand (l : Launch) {g : am_G} (hg : fx_ l g) : am_Met l g 3 216 (fn_s fn_F G_X12_operand) := by
  refine am_sound (own := 12) (M := m_X12_operand) (SP := sp_X12_operand) hg.1 (by decide +kernel) ok_X12_operand (by decide +kernel) ?_ (fun q hq hk => absurd hk (am_no61 (M := m_X12_operand) (by decide +kernel) q hq)) (fn_ext l _ rfl g 12) (Or.inl (by decide +kernel)) ?_ ?_
  · intro q hq hk
    have hm : q.2.2.2.1 ∈ am_cs m_X12_operand := am_cs_in hq hk
    rw [show am_cs m_X12_operand = [214, 194, 193, 215, 193, 208, 192, 206, 192] by decide +kernel] at hm
    have hm : q.2.2.2.1 ∈ [192, 193, 194, 206, 208, 214, 215] := (List.all_eq_true.mp (show ([214, 194, 193, 215, 193, 208, 192, 206, 192] : List Nat).all (fun a => decide (a ∈ ([192, 193, 194, 206, 208, 214, 215] : List Nat))) = true by decide +kernel) _ hm |> of_decide_eq_true)
    simp only [List.mem_cons, List.not_mem_nil, or_false] at hm
    rcases hm with hm | hm | hm | hm | hm | hm | hm
    · rw [hm]; exact ⟨2, by omega, c_X12_next l hg⟩
    · rw [hm]; exact ⟨0, by omega, c_X12_wrong l hg⟩
    · rw [hm]; exact ⟨0, by omega, c_X12_isWord l hg⟩
    · rw [hm]; exact ⟨0, by omega, c_X12_step l hg⟩
    · rw [hm]; exact ⟨0, by omega, c_X12_hold l hg⟩
    · rw [hm]; exact ⟨0, by omega, c_X12_named l hg⟩
    · rw [hm]; exact ⟨0, by omega, c_X12_mayAsk l hg⟩
  · intro as w K h
    obtain ⟨hf, y, m1, hG, hK⟩ := h
    unfold G_X12_operand at hG
    split at hG
    · exact Nat.le_of_ble_eq_true rfl
    · cases hG
  · intro as w K h
    obtain ⟨n, i0, l0, r⟩ := w
    obtain ⟨hf, y, m1, hG, hK⟩ := h
    unfold G_X12_operand at hG
    split at hG
    · next x0 p1 =>
      obtain ⟨hx1, hG1⟩ := gd_u hG
      obtain rfl := Nat.eq_of_beq_eq_true hx1
      obtain ⟨q, hq, he⟩ := fn_mu hG1
      obtain ⟨rfl, rfl⟩ := Prod.mk.inj he
      exact t_X12_operand  hf  p1 (m := (i0, l0)) hq hK
    · cases hG

/-! == X12_readE == -/
abbrev S_X12_readE : Type := (Int32 × Int32 × Int32 × fm_)
noncomputable def st_X12_readE (s : S_X12_readE) : Option (S_X12_readE ⊕ (Int32 × fm_)) := match s with
  | (x1, x2, x3, m) =>
    (if (gi_ m 106 2) = 0 then
(if x3 = 0 then
(if (gi_ m 106 2) ≤ 0 then
(Option.bind (f_X12_settle 0 m) fun q16 =>
(gd_ (ix_ ((8 * (gi_ q16.2 106 33)) + x1) 56)
(gd_ (ix_ ((8 * (gi_ q16.2 106 33)) + x1) 56)
((some (Sum.inr (0, (si_ (si_ q16.2 125 (Int32.toNatClampNeg ((8 * (gi_ q16.2 106 33)) + x1)) (gi_ q16.2 106 49)) 133 (Int32.toNatClampNeg ((8 * (gi_ q16.2 106 33)) + x1)) 1))))))))
else
((some (Sum.inr (0, m)))))
else
(if x2 = 4 then
(if (gi_ m 106 6) = 59 then
(Option.bind (f_X12_isOpen m) fun q38 =>
(if q38.1 = 0 then
((some (Sum.inl ((x1, x2, 0, q38.2)))))
else
(if x2 = 3 then
(Option.bind (f_X12_sign x2 q38.2) fun q47 =>
((some (Sum.inl ((x1, q47.1, 1, q47.2))))))
else
(Option.bind (f_X12_sign x2 q38.2) fun q51 =>
((some (Sum.inl ((x1, q51.1, 1, q51.2)))))))))
else
(if x2 = 3 then
(Option.bind (f_X12_sign x2 m) fun q31 =>
((some (Sum.inl ((x1, q31.1, 1, q31.2))))))
else
(Option.bind (f_X12_sign x2 m) fun q35 =>
((some (Sum.inl ((x1, q35.1, 1, q35.2))))))))
else
(if x2 = 5 then
(if (gi_ m 106 6) = 59 then
(Option.bind (f_X12_isOpen m) fun q80 =>
(if q80.1 = 0 then
((some (Sum.inl ((x1, x2, 0, q80.2)))))
else
(if x2 = 3 then
(Option.bind (f_X12_sign x2 q80.2) fun q89 =>
((some (Sum.inl ((x1, q89.1, 1, q89.2))))))
else
(Option.bind (f_X12_sign x2 q80.2) fun q93 =>
((some (Sum.inl ((x1, q93.1, 1, q93.2)))))))))
else
(if x2 = 3 then
(Option.bind (f_X12_sign x2 m) fun q73 =>
((some (Sum.inl ((x1, q73.1, 1, q73.2))))))
else
(Option.bind (f_X12_sign x2 m) fun q77 =>
((some (Sum.inl ((x1, q77.1, 1, q77.2))))))))
else
(if x2 = 3 then
(Option.bind (f_X12_sign x2 m) fun q60 =>
((some (Sum.inl ((x1, q60.1, 1, q60.2))))))
else
(Option.bind (f_X12_operand x2 m) fun q64 =>
((some (Sum.inl ((x1, q64.1, 1, q64.2))))))))))
else
(if (gi_ m 106 2) ≤ 0 then
(Option.bind (f_X12_settle 0 m) fun q5 =>
(gd_ (ix_ ((8 * (gi_ q5.2 106 33)) + x1) 56)
(gd_ (ix_ ((8 * (gi_ q5.2 106 33)) + x1) 56)
((some (Sum.inr (0, (si_ (si_ q5.2 125 (Int32.toNatClampNeg ((8 * (gi_ q5.2 106 33)) + x1)) (gi_ q5.2 106 49)) 133 (Int32.toNatClampNeg ((8 * (gi_ q5.2 106 33)) + x1)) 1))))))))
else
((some (Sum.inr (0, m))))))
noncomputable def f_X12_readE_55 (x1 : Int32) (x2 : Int32) (x3 : Int32) (m : fm_) : Option (Int32 × fm_) := am_lp (st_X12_readE) ((x1, x2, x3, m))
theorem e_X12_readE_55 (x1 : Int32) (x2 : Int32) (x3 : Int32) (m : fm_) : f_X12_readE_55 x1 x2 x3 m =
(if (gi_ m 106 2) = 0 then
(if x3 = 0 then
(if (gi_ m 106 2) ≤ 0 then
(Option.bind (f_X12_settle 0 m) fun q16 =>
(gd_ (ix_ ((8 * (gi_ q16.2 106 33)) + x1) 56)
(gd_ (ix_ ((8 * (gi_ q16.2 106 33)) + x1) 56)
((some (0, (si_ (si_ q16.2 125 (Int32.toNatClampNeg ((8 * (gi_ q16.2 106 33)) + x1)) (gi_ q16.2 106 49)) 133 (Int32.toNatClampNeg ((8 * (gi_ q16.2 106 33)) + x1)) 1)))))))
else
((some (0, m))))
else
(if x2 = 4 then
(if (gi_ m 106 6) = 59 then
(Option.bind (f_X12_isOpen m) fun q38 =>
(if q38.1 = 0 then
((f_X12_readE_55 x1 x2 0 q38.2))
else
(if x2 = 3 then
(Option.bind (f_X12_sign x2 q38.2) fun q47 =>
((f_X12_readE_55 x1 q47.1 1 q47.2)))
else
(Option.bind (f_X12_sign x2 q38.2) fun q51 =>
((f_X12_readE_55 x1 q51.1 1 q51.2))))))
else
(if x2 = 3 then
(Option.bind (f_X12_sign x2 m) fun q31 =>
((f_X12_readE_55 x1 q31.1 1 q31.2)))
else
(Option.bind (f_X12_sign x2 m) fun q35 =>
((f_X12_readE_55 x1 q35.1 1 q35.2)))))
else
(if x2 = 5 then
(if (gi_ m 106 6) = 59 then
(Option.bind (f_X12_isOpen m) fun q80 =>
(if q80.1 = 0 then
((f_X12_readE_55 x1 x2 0 q80.2))
else
(if x2 = 3 then
(Option.bind (f_X12_sign x2 q80.2) fun q89 =>
((f_X12_readE_55 x1 q89.1 1 q89.2)))
else
(Option.bind (f_X12_sign x2 q80.2) fun q93 =>
((f_X12_readE_55 x1 q93.1 1 q93.2))))))
else
(if x2 = 3 then
(Option.bind (f_X12_sign x2 m) fun q73 =>
((f_X12_readE_55 x1 q73.1 1 q73.2)))
else
(Option.bind (f_X12_sign x2 m) fun q77 =>
((f_X12_readE_55 x1 q77.1 1 q77.2)))))
else
(if x2 = 3 then
(Option.bind (f_X12_sign x2 m) fun q60 =>
((f_X12_readE_55 x1 q60.1 1 q60.2)))
else
(Option.bind (f_X12_operand x2 m) fun q64 =>
((f_X12_readE_55 x1 q64.1 1 q64.2)))))))
else
(if (gi_ m 106 2) ≤ 0 then
(Option.bind (f_X12_settle 0 m) fun q5 =>
(gd_ (ix_ ((8 * (gi_ q5.2 106 33)) + x1) 56)
(gd_ (ix_ ((8 * (gi_ q5.2 106 33)) + x1) 56)
((some (0, (si_ (si_ q5.2 125 (Int32.toNatClampNeg ((8 * (gi_ q5.2 106 33)) + x1)) (gi_ q5.2 106 49)) 133 (Int32.toNatClampNeg ((8 * (gi_ q5.2 106 33)) + x1)) 1)))))))
else
((some (0, m))))) :=
  (am_lp_eq _ _).trans (fe_if (fe_if (fe_if (fe_bd fun q16 => (fe_gd (fe_gd (rfl)))) (rfl)) (fe_if (fe_if (fe_bd fun q38 => (fe_if (rfl) (fe_if (fe_bd fun q47 => (rfl)) (fe_bd fun q51 => (rfl))))) (fe_if (fe_bd fun q31 => (rfl)) (fe_bd fun q35 => (rfl)))) (fe_if (fe_if (fe_bd fun q80 => (fe_if (rfl) (fe_if (fe_bd fun q89 => (rfl)) (fe_bd fun q93 => (rfl))))) (fe_if (fe_bd fun q73 => (rfl)) (fe_bd fun q77 => (rfl)))) (fe_if (fe_bd fun q60 => (rfl)) (fe_bd fun q64 => (rfl)))))) (fe_if (fe_bd fun q5 => (fe_gd (fe_gd (rfl)))) (rfl)))
noncomputable def f_X12_readE (p1 : Int32) (m : fm_) : Option (Int32 × fm_) :=
  (if (gi_ m 106 2) ≤ 0 then
(if 6 ≤ p1 then
(gd_ (ix_ ((8 * (gi_ m 106 33)) + p1) 56)
((f_X12_readE_55 p1 0 1 (si_ (si_ (si_ (si_ m 106 54 p1) 124 (Int32.toNatClampNeg ((8 * (gi_ m 106 33)) + p1)) (gi_ m 106 49)) 106 52 0) 106 53 0))))
else
(gd_ (ix_ ((8 * (gi_ m 106 33)) + p1) 56)
((f_X12_readE_55 p1 0 1 (si_ (si_ (si_ (si_ m 106 54 0) 124 (Int32.toNatClampNeg ((8 * (gi_ m 106 33)) + p1)) (gi_ m 106 49)) 106 52 0) 106 53 0)))))
else
((some (0, m))))
def sp_X12_readE : am_S := fn_sp [(212, fn_F, G_X12_isOpen), (217, fn_F, G_X12_sign), (216, fn_F, G_X12_operand), (210, fn_F, G_X12_settle)]
theorem sm_X12_readE : am_Smono (sp_X12_readE) := fn_sp_mono _
def P_X12_readE (n : Nat) (r : Nat → Nat → Option Nat) (s : S_X12_readE) (q : Int32 × fm_) : Prop := match s with
  | (x1, x2, x3, m) => ∀ (Q : Option Value → am_W → Prop) (y4 : Option Value), Q (en_v q).1 (mk_ n r q.2) → am_T m_X12_readE sp_X12_readE n Q 55 [some (.ref 106), some (.int x1), some (.int x2), some (.int x3), y4] [] (mk_ n r m)
set_option maxRecDepth 100000 in
theorem t_X12_readE_55 {n : Nat} {r : Nat → Nat → Option Nat} (hf : fn_F n r) {K : S_X12_readE → Option (Int32 × fm_)} {q : Int32 × fm_} (hK : ∀ s, K s = some q → P_X12_readE n r s q) (x1 : Int32) (x2 : Int32) (x3 : Int32) (m : fm_)
  (h : am_k K (st_X12_readE ((x1, x2, x3, m))) = some q) : P_X12_readE n r ((x1, x2, x3, m)) q := fun Q y4 hQ =>
  am_T.wp sm_X12_readE (K := am_T m_X12_readE sp_X12_readE n Q) (cuts := [55]) (fun _ _ _ _ h => h) 41
    (⟨fn_aF hf rfl rfl, fj_in h (fun c1 h2 => ⟨fn_aF hf rfl rfl, fj_if h2 (fun c3 h4 => fj_bd h4 fun q5 e6 h7 => ⟨Nat.le_of_ble_eq_true rfl, fn_aF hf rfl rfl, ⟨hf, none, q5.2, gp_X12_settle (n := n) (r := r)  e6, fun _ => ⟨rfl, ⟨fn_aF hf rfl rfl, Or.inl ⟨_, hf.2 106 37 125 rfl, ⟨fn_aF hf rfl rfl, ⟨fn_aF hf rfl rfl, fj_gd h7 fun g9 h8 => ⟨56, fn_aF hf rfl rfl, ix_t g9, ⟨fn_aF hf rfl rfl, Or.inl ⟨_, hf.2 106 45 133 rfl, ⟨fn_aF hf rfl rfl, fj_gd h8 fun g11 h10 => ⟨56, ix_t g11, Or.inr ⟨fn_aF hf rfl rfl, Or.inr rfl, ⟨rfl, fj_rt h10 hQ⟩⟩⟩⟩⟩⟩⟩⟩⟩⟩⟩⟩⟩⟩) (fun c3 h4 => ⟨rfl, fj_rt h4 hQ⟩)⟩) (fun c1 h2 => fj_if h2 (fun c12 h13 => ⟨fn_aF hf rfl rfl, fj_if h13 (fun c14 h15 => fj_bd h15 fun q16 e17 h18 => ⟨Nat.le_of_ble_eq_true rfl, fn_aF hf rfl rfl, ⟨hf, none, q16.2, gp_X12_settle (n := n) (r := r)  e17, fun _ => ⟨rfl, ⟨fn_aF hf rfl rfl, Or.inl ⟨_, hf.2 106 37 125 rfl, ⟨fn_aF hf rfl rfl, ⟨fn_aF hf rfl rfl, fj_gd h18 fun g20 h19 => ⟨56, fn_aF hf rfl rfl, ix_t g20, ⟨fn_aF hf rfl rfl, Or.inl ⟨_, hf.2 106 45 133 rfl, ⟨fn_aF hf rfl rfl, fj_gd h19 fun g22 h21 => ⟨56, ix_t g22, Or.inr ⟨fn_aF hf rfl rfl, Or.inr rfl, ⟨rfl, fj_rt h21 hQ⟩⟩⟩⟩⟩⟩⟩⟩⟩⟩⟩⟩⟩⟩) (fun c14 h15 => ⟨rfl, fj_rt h15 hQ⟩)⟩) (fun c12 h13 => fj_if h13 (fun c23 h24 => ⟨fun c25 => absurd c25 (by decide), fun c25 => ⟨fn_aF hf rfl rfl, fj_in h24 (fun c26 h27 => ⟨fun c28 => fj_if h27 (fun c29 h30 => fj_bd h30 fun q31 e32 h33 => ⟨Nat.le_of_ble_eq_true rfl, fn_aF hf rfl rfl, ⟨hf, some (.int q31.1), q31.2, gp_X12_sign (n := n) (r := r)  e32, fun _ => hK _ h33 _ _ hQ⟩⟩) (fun c29 h30 => ⟨fun c34 => absurd c34 (by decide), fun c34 => fj_bd h30 fun q35 e36 h37 => ⟨Nat.le_of_ble_eq_true rfl, fn_aF hf rfl rfl, ⟨hf, some (.int q35.1), q35.2, gp_X12_sign (n := n) (r := r)  e36, fun _ => hK _ h37 _ _ hQ⟩⟩⟩), fun c28 => absurd c28 (by decide)⟩) (fun c26 h27 => fj_bd h27 fun q38 e39 h40 => ⟨Nat.le_of_ble_eq_true rfl, fn_aF hf rfl rfl, ⟨hf, some (.int q38.1), q38.2, gp_X12_isOpen (n := n) (r := r)  e39, fun _ => fj_if h40 (fun c41 h42 => ⟨fun c43 => absurd c43 (by decide), fun c43 => hK _ h42 _ _ hQ⟩) (fun c41 h42 => ⟨fun c44 => fj_if h42 (fun c45 h46 => fj_bd h46 fun q47 e48 h49 => ⟨Nat.le_of_ble_eq_true rfl, fn_aF hf rfl rfl, ⟨hf, some (.int q47.1), q47.2, gp_X12_sign (n := n) (r := r)  e48, fun _ => hK _ h49 _ _ hQ⟩⟩) (fun c45 h46 => ⟨fun c50 => absurd c50 (by decide), fun c50 => fj_bd h46 fun q51 e52 h53 => ⟨Nat.le_of_ble_eq_true rfl, fn_aF hf rfl rfl, ⟨hf, some (.int q51.1), q51.2, gp_X12_sign (n := n) (r := r)  e52, fun _ => hK _ h53 _ _ hQ⟩⟩⟩), fun c44 => absurd c44 (by decide)⟩)⟩⟩)⟩⟩) (fun c23 h24 => fj_in h24 (fun c54 h55 => ⟨fun c56 => ⟨fun c57 => fj_if h55 (fun c58 h59 => fj_bd h59 fun q60 e61 h62 => ⟨Nat.le_of_ble_eq_true rfl, fn_aF hf rfl rfl, ⟨hf, some (.int q60.1), q60.2, gp_X12_sign (n := n) (r := r)  e61, fun _ => hK _ h62 _ _ hQ⟩⟩) (fun c58 h59 => ⟨fun c63 => fj_bd h59 fun q64 e65 h66 => ⟨Nat.le_of_ble_eq_true rfl, fn_aF hf rfl rfl, ⟨hf, some (.int q64.1), q64.2, gp_X12_operand (n := n) (r := r)  e65, fun _ => hK _ h66 _ _ hQ⟩⟩, fun c63 => absurd c63 (by decide)⟩), fun c57 => absurd c57 (by decide)⟩, fun c56 => absurd c56 (by decide)⟩) (fun c54 h55 => ⟨fun c67 => absurd c67 (by decide), fun c67 => ⟨fn_aF hf rfl rfl, fj_in h55 (fun c68 h69 => ⟨fun c70 => fj_if h69 (fun c71 h72 => fj_bd h72 fun q73 e74 h75 => ⟨Nat.le_of_ble_eq_true rfl, fn_aF hf rfl rfl, ⟨hf, some (.int q73.1), q73.2, gp_X12_sign (n := n) (r := r)  e74, fun _ => hK _ h75 _ _ hQ⟩⟩) (fun c71 h72 => ⟨fun c76 => absurd c76 (by decide), fun c76 => fj_bd h72 fun q77 e78 h79 => ⟨Nat.le_of_ble_eq_true rfl, fn_aF hf rfl rfl, ⟨hf, some (.int q77.1), q77.2, gp_X12_sign (n := n) (r := r)  e78, fun _ => hK _ h79 _ _ hQ⟩⟩⟩), fun c70 => absurd c70 (by decide)⟩) (fun c68 h69 => fj_bd h69 fun q80 e81 h82 => ⟨Nat.le_of_ble_eq_true rfl, fn_aF hf rfl rfl, ⟨hf, some (.int q80.1), q80.2, gp_X12_isOpen (n := n) (r := r)  e81, fun _ => fj_if h82 (fun c83 h84 => ⟨fun c85 => absurd c85 (by decide), fun c85 => hK _ h84 _ _ hQ⟩) (fun c83 h84 => ⟨fun c86 => fj_if h84 (fun c87 h88 => fj_bd h88 fun q89 e90 h91 => ⟨Nat.le_of_ble_eq_true rfl, fn_aF hf rfl rfl, ⟨hf, some (.int q89.1), q89.2, gp_X12_sign (n := n) (r := r)  e90, fun _ => hK _ h91 _ _ hQ⟩⟩) (fun c87 h88 => ⟨fun c92 => absurd c92 (by decide), fun c92 => fj_bd h88 fun q93 e94 h95 => ⟨Nat.le_of_ble_eq_true rfl, fn_aF hf rfl rfl, ⟨hf, some (.int q93.1), q93.2, gp_X12_sign (n := n) (r := r)  e94, fun _ => hK _ h95 _ _ hQ⟩⟩⟩), fun c86 => absurd c86 (by decide)⟩)⟩⟩)⟩⟩))))⟩)
theorem l_X12_readE {n : Nat} {r : Nat → Nat → Option Nat} (hf : fn_F n r) (s : S_X12_readE) (q : Int32 × fm_) (h : am_lp (st_X12_readE) s = some q) : P_X12_readE n r s q :=
  am_lp_snd (P := P_X12_readE n r) (fun K hK s q h => match s, h with
    | (x1, x2, x3, m), h => t_X12_readE_55 hf (fun s => hK s q) x1 x2 x3 m h) s q h
set_option maxRecDepth 100000 in
theorem t_X12_readE {n : Nat} {r : Nat → Nat → Option Nat} (hf : fn_F n r) {q : Int32 × fm_} (p1 : Int32) {m : fm_}
  (h : f_X12_readE p1 m = some q) {Q : Option Value → am_W → Prop} (hQ : Q (en_v q).1 (mk_ n r q.2)) : am_T m_X12_readE sp_X12_readE n Q 0 [some (.ref 106), some (.int p1), none, none, none] [] (mk_ n r m) :=
  am_T.wp sm_X12_readE (K := am_T m_X12_readE sp_X12_readE n Q) (cuts := [55]) (fun _ _ _ _ h => h) 33
    (⟨fn_aF hf rfl rfl, fh_if h (fun c1 h2 => fh_if h2 (fun c3 h4 => ⟨fn_aF hf rfl rfl, ⟨fn_aF hf rfl rfl, Or.inl ⟨_, hf.2 106 36 124 rfl, ⟨fn_aF hf rfl rfl, ⟨fn_aF hf rfl rfl, fh_gd h4 fun g6 h5 => ⟨56, fn_aF hf rfl rfl, ix_t g6, ⟨fn_aF hf rfl rfl, ⟨fn_aF hf rfl rfl, l_X12_readE hf _ _ h5 _ _ hQ⟩⟩⟩⟩⟩⟩⟩⟩) (fun c3 h4 => ⟨fn_aF hf rfl rfl, ⟨fn_aF hf rfl rfl, Or.inl ⟨_, hf.2 106 36 124 rfl, ⟨fn_aF hf rfl rfl, ⟨fn_aF hf rfl rfl, fh_gd h4 fun g8 h7 => ⟨56, fn_aF hf rfl rfl, ix_t g8, ⟨fn_aF hf rfl rfl, ⟨fn_aF hf rfl rfl, l_X12_readE hf _ _ h7 _ _ hQ⟩⟩⟩⟩⟩⟩⟩⟩)) (fun c1 h2 => ⟨rfl, fh_rt h2 hQ⟩)⟩)
noncomputable def G_X12_readE (n : Nat) (r : Nat → Nat → Option Nat) (as : List Value) (m : fm_) : Option (Option Value × fm_) := match as with
  | [.ref x0, .int p1] => gd_ (Nat.beq x0 106) ((f_X12_readE p1 m).map en_v)
  | _ => none
set_option maxRecDepth 100000 in
theorem gp_X12_readE {n : Nat} {r : Nat → Nat → Option Nat}  {p1 : Int32} {m : fm_} {q : Int32 × fm_}  (e : f_X12_readE p1 m = some q) : G_X12_readE n r [.ref 106, .int p1] m = some (en_v q) := by
  show (gd_ (Nat.beq 106 106) ((f_X12_readE p1 m).map en_v)) = _
  exact fn_gd rfl (fn_mp e)
set_option maxRecDepth 100000 in
theorem ok_X12_readE : am_mok 12 213 m_X12_readE = true := by decide +kernel
set_option maxRecDepth 100000 in
theorem c_X12_readE (l : Launch) {g : am_G} (hg : fx_ l g) : am_Met l g 4 213 (fn_s fn_F G_X12_readE) := by
  refine am_sound (own := 12) (M := m_X12_readE) (SP := sp_X12_readE) hg.1 (by decide +kernel) ok_X12_readE (by decide +kernel) ?_ (fun q hq hk => absurd hk (am_no61 (M := m_X12_readE) (by decide +kernel) q hq)) (fn_ext l _ rfl g 12) (Or.inl (by decide +kernel)) ?_ ?_
  · intro q hq hk
    have hm : q.2.2.2.1 ∈ am_cs m_X12_readE := am_cs_in hq hk
    rw [show am_cs m_X12_readE = [212, 217, 216, 210] by decide +kernel] at hm
    have hm : q.2.2.2.1 ∈ [210, 212, 216, 217] := (List.all_eq_true.mp (show ([212, 217, 216, 210] : List Nat).all (fun a => decide (a ∈ ([210, 212, 216, 217] : List Nat))) = true by decide +kernel) _ hm |> of_decide_eq_true)
    simp only [List.mem_cons, List.not_mem_nil, or_false] at hm
    rcases hm with hm | hm | hm | hm
    · rw [hm]; exact ⟨2, by omega, c_X12_settle l hg⟩
    · rw [hm]; exact ⟨0, by omega, c_X12_isOpen l hg⟩
    · rw [hm]; exact ⟨3, by omega, c_X12_operand l hg⟩
    · rw [hm]; exact ⟨3, by omega, c_X12_sign l hg⟩
  · intro as w K h
    obtain ⟨hf, y, m1, hG, hK⟩ := h
    unfold G_X12_readE at hG
    split at hG
    · exact Nat.le_of_ble_eq_true rfl
    · cases hG
  · intro as w K h
    obtain ⟨n, i0, l0, r⟩ := w
    obtain ⟨hf, y, m1, hG, hK⟩ := h
    unfold G_X12_readE at hG
    split at hG
    · next x0 p1 =>
      obtain ⟨hx1, hG1⟩ := gd_u hG
      obtain rfl := Nat.eq_of_beq_eq_true hx1
      obtain ⟨q, hq, he⟩ := fn_mu hG1
      obtain ⟨rfl, rfl⟩ := Prod.mk.inj he
      exact t_X12_readE  hf  p1 (m := (i0, l0)) hq hK
    · cases hG

