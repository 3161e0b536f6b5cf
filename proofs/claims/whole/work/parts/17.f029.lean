/-! == X12_readOrder == -/
abbrev S_X12_readOrder : Type := (Int32 × fm_) ⊕ (Int32 × fm_) ⊕ (Int32 × fm_) ⊕ (Int32 × fm_) ⊕ (Int32 × fm_) ⊕ (Int32 × fm_) ⊕ (Int32 × fm_)
noncomputable def st_X12_readOrder (s : S_X12_readOrder) : Option (S_X12_readOrder ⊕ (Int32 × fm_)) := match s with
  | Sum.inl ((x1, m)) =>
    (Option.bind (f_X12_isWord 109299962636133 m) fun q1 =>
(if q1.1 = 0 then
(Option.bind (f_X12_isWord 448546566771 q1.2) fun q6 =>
(if q6.1 = 0 then
((some (Sum.inl (Sum.inr (Sum.inr (Sum.inl ((x1, q6.2))))))))
else
(if (gi_ q6.2 106 47) = 0 then
(Option.bind (f_X12_next q6.2) fun q13 =>
(Option.bind (f_X12_told 0 1440 q13.2) fun q16 =>
(gd_ (ix_ x1 7)
(Option.bind (f_X12_wantWord 29807 (si_ q16.2 129 (Int32.toNatClampNeg x1) q16.1)) fun q21 =>
(gd_ (ix_ x1 7)
(Option.bind (f_X12_told ((gi_ q21.2 129 (Int32.toNatClampNeg x1)) + 1) 1440 q21.2) fun q26 =>
(gd_ (ix_ x1 7)
((some (Sum.inl (Sum.inr (Sum.inr (Sum.inr (Sum.inr (Sum.inr (Sum.inr ((x1, (si_ (si_ q26.2 130 (Int32.toNatClampNeg x1) q26.1) 106 47 1)))))))))))))))))))
else
((some (Sum.inl (Sum.inr (Sum.inr (Sum.inl ((x1, q6.2)))))))))))
else
(Option.bind (f_X12_next q1.2) fun q31 =>
(if (gi_ q31.2 106 6) = 2 then
(if 10 ≤ (gi_ q31.2 106 8) then
((some (Sum.inl (Sum.inr (Sum.inl ((x1, q31.2)))))))
else
(gd_ (ix_ (gi_ q31.2 106 8) 10)
(if (gi_ q31.2 134 (Int32.toNatClampNeg (gi_ q31.2 106 8))) = 0 then
((some (Sum.inl (Sum.inr (Sum.inl ((x1, q31.2)))))))
else
(Option.bind (f_X12_wrong 2 q31.2) fun q42 =>
((some (Sum.inl (Sum.inr (Sum.inl ((x1, q42.2)))))))))))
else
((some (Sum.inl (Sum.inr (Sum.inl ((x1, q31.2)))))))))))
  | Sum.inr (Sum.inl ((x1, m))) =>
    (Option.bind (f_X12_told 0 9 m) fun q1 =>
(Option.bind (f_X12_wantWord 26995 q1.2) fun q4 =>
(Option.bind (f_X12_told 0 999 q4.2) fun q7 =>
(if (gi_ q7.2 106 2) ≤ 0 then
(gd_ (ix_ ((10 * x1) + q1.1) 70)
(gd_ (ix_ q1.1 10)
((some (Sum.inl (Sum.inr (Sum.inr (Sum.inr (Sum.inr (Sum.inr (Sum.inr ((x1, (si_ (si_ q7.2 128 (Int32.toNatClampNeg ((10 * x1) + q1.1)) q7.1) 134 (Int32.toNatClampNeg q1.1) 1))))))))))))))
else
((some (Sum.inr (0, q7.2))))))))
  | Sum.inr (Sum.inr (Sum.inl ((x1, m)))) =>
    (Option.bind (f_X12_isWord 1718773093 m) fun q1 =>
(if q1.1 = 0 then
((some (Sum.inl (Sum.inr (Sum.inr (Sum.inr (Sum.inl ((x1, q1.2)))))))))
else
(gd_ (ix_ ((8 * x1) + 6) 56)
(if (gi_ q1.2 133 (Int32.toNatClampNeg ((8 * x1) + 6))) = 0 then
(Option.bind (f_X12_next q1.2) fun q10 =>
(Option.bind (f_X12_wantWord 2003330414 q10.2) fun q13 =>
(Option.bind (f_X12_readE 6 q13.2) fun q16 =>
((some (Sum.inl (Sum.inr (Sum.inr (Sum.inr (Sum.inr (Sum.inr (Sum.inr ((x1, q16.2))))))))))))))
else
((some (Sum.inl (Sum.inr (Sum.inr (Sum.inr (Sum.inl ((x1, q1.2)))))))))))))
  | Sum.inr (Sum.inr (Sum.inr (Sum.inl ((x1, m))))) =>
    (Option.bind (f_X12_isWord 444300616549 m) fun q1 =>
(if q1.1 = 0 then
((some (Sum.inl (Sum.inr (Sum.inr (Sum.inr (Sum.inr (Sum.inl ((x1, q1.2))))))))))
else
(if (gi_ q1.2 106 48) = 0 then
(Option.bind (f_X12_next q1.2) fun q8 =>
(Option.bind (f_X12_told 0 20 q8.2) fun q11 =>
(gd_ (ix_ x1 7)
((some (Sum.inl (Sum.inr (Sum.inr (Sum.inr (Sum.inr (Sum.inr (Sum.inr ((x1, (si_ (si_ q11.2 131 (Int32.toNatClampNeg x1) q11.1) 106 48 1)))))))))))))))
else
((some (Sum.inl (Sum.inr (Sum.inr (Sum.inr (Sum.inr (Sum.inl ((x1, q1.2)))))))))))))
  | Sum.inr (Sum.inr (Sum.inr (Sum.inr (Sum.inl ((x1, m)))))) =>
    (Option.bind (f_X12_isWord 107135549923692 m) fun q1 =>
(if q1.1 = 0 then
((some (Sum.inl (Sum.inr (Sum.inr (Sum.inr (Sum.inr (Sum.inr (Sum.inl ((x1, q1.2)))))))))))
else
(gd_ (ix_ ((8 * x1) + 7) 56)
(if (gi_ q1.2 133 (Int32.toNatClampNeg ((8 * x1) + 7))) = 0 then
(Option.bind (f_X12_next q1.2) fun q10 =>
(Option.bind (f_X12_wantWord 2003330414 q10.2) fun q13 =>
(Option.bind (f_X12_readE 7 q13.2) fun q16 =>
((some (Sum.inl (Sum.inr (Sum.inr (Sum.inr (Sum.inr (Sum.inr (Sum.inr ((x1, q16.2))))))))))))))
else
((some (Sum.inl (Sum.inr (Sum.inr (Sum.inr (Sum.inr (Sum.inr (Sum.inl ((x1, q1.2)))))))))))))))
  | Sum.inr (Sum.inr (Sum.inr (Sum.inr (Sum.inr (Sum.inl ((x1, m))))))) =>
    (Option.bind (f_X12_wrong 2 m) fun q1 =>
((some (Sum.inl (Sum.inr (Sum.inr (Sum.inr (Sum.inr (Sum.inr (Sum.inr ((x1, q1.2))))))))))))
  | Sum.inr (Sum.inr (Sum.inr (Sum.inr (Sum.inr (Sum.inr ((x1, m))))))) =>
    (Option.bind (f_X12_wantEnd m) fun q1 =>
((some (Sum.inr (0, q1.2)))))
noncomputable def f_X12_readOrder_83 (x1 : Int32) (m : fm_) : Option (Int32 × fm_) := am_lp (st_X12_readOrder) (Sum.inl ((x1, m)))
noncomputable def f_X12_readOrder_131 (x1 : Int32) (m : fm_) : Option (Int32 × fm_) := am_lp (st_X12_readOrder) (Sum.inr (Sum.inl ((x1, m))))
noncomputable def f_X12_readOrder_256 (x1 : Int32) (m : fm_) : Option (Int32 × fm_) := am_lp (st_X12_readOrder) (Sum.inr (Sum.inr (Sum.inl ((x1, m)))))
noncomputable def f_X12_readOrder_301 (x1 : Int32) (m : fm_) : Option (Int32 × fm_) := am_lp (st_X12_readOrder) (Sum.inr (Sum.inr (Sum.inr (Sum.inl ((x1, m))))))
noncomputable def f_X12_readOrder_343 (x1 : Int32) (m : fm_) : Option (Int32 × fm_) := am_lp (st_X12_readOrder) (Sum.inr (Sum.inr (Sum.inr (Sum.inr (Sum.inl ((x1, m)))))))
noncomputable def f_X12_readOrder_388 (x1 : Int32) (m : fm_) : Option (Int32 × fm_) := am_lp (st_X12_readOrder) (Sum.inr (Sum.inr (Sum.inr (Sum.inr (Sum.inr (Sum.inl ((x1, m))))))))
noncomputable def f_X12_readOrder_393 (x1 : Int32) (m : fm_) : Option (Int32 × fm_) := am_lp (st_X12_readOrder) (Sum.inr (Sum.inr (Sum.inr (Sum.inr (Sum.inr (Sum.inr ((x1, m))))))))
theorem e_X12_readOrder_83 (x1 : Int32) (m : fm_) : f_X12_readOrder_83 x1 m =
(Option.bind (f_X12_isWord 109299962636133 m) fun q1 =>
(if q1.1 = 0 then
(Option.bind (f_X12_isWord 448546566771 q1.2) fun q6 =>
(if q6.1 = 0 then
((f_X12_readOrder_256 x1 q6.2))
else
(if (gi_ q6.2 106 47) = 0 then
(Option.bind (f_X12_next q6.2) fun q13 =>
(Option.bind (f_X12_told 0 1440 q13.2) fun q16 =>
(gd_ (ix_ x1 7)
(Option.bind (f_X12_wantWord 29807 (si_ q16.2 129 (Int32.toNatClampNeg x1) q16.1)) fun q21 =>
(gd_ (ix_ x1 7)
(Option.bind (f_X12_told ((gi_ q21.2 129 (Int32.toNatClampNeg x1)) + 1) 1440 q21.2) fun q26 =>
(gd_ (ix_ x1 7)
((f_X12_readOrder_393 x1 (si_ (si_ q26.2 130 (Int32.toNatClampNeg x1) q26.1) 106 47 1))))))))))
else
((f_X12_readOrder_256 x1 q6.2)))))
else
(Option.bind (f_X12_next q1.2) fun q31 =>
(if (gi_ q31.2 106 6) = 2 then
(if 10 ≤ (gi_ q31.2 106 8) then
((f_X12_readOrder_131 x1 q31.2))
else
(gd_ (ix_ (gi_ q31.2 106 8) 10)
(if (gi_ q31.2 134 (Int32.toNatClampNeg (gi_ q31.2 106 8))) = 0 then
((f_X12_readOrder_131 x1 q31.2))
else
(Option.bind (f_X12_wrong 2 q31.2) fun q42 =>
((f_X12_readOrder_131 x1 q42.2))))))
else
((f_X12_readOrder_131 x1 q31.2)))))) :=
  (am_lp_eq _ _).trans (fe_bd fun q1 => (fe_if (fe_bd fun q6 => (fe_if (rfl) (fe_if (fe_bd fun q13 => (fe_bd fun q16 => (fe_gd (fe_bd fun q21 => (fe_gd (fe_bd fun q26 => (fe_gd (rfl)))))))) (rfl)))) (fe_bd fun q31 => (fe_if (fe_if (rfl) (fe_gd (fe_if (rfl) (fe_bd fun q42 => (rfl))))) (rfl)))))
theorem e_X12_readOrder_131 (x1 : Int32) (m : fm_) : f_X12_readOrder_131 x1 m =
(Option.bind (f_X12_told 0 9 m) fun q1 =>
(Option.bind (f_X12_wantWord 26995 q1.2) fun q4 =>
(Option.bind (f_X12_told 0 999 q4.2) fun q7 =>
(if (gi_ q7.2 106 2) ≤ 0 then
(gd_ (ix_ ((10 * x1) + q1.1) 70)
(gd_ (ix_ q1.1 10)
((f_X12_readOrder_393 x1 (si_ (si_ q7.2 128 (Int32.toNatClampNeg ((10 * x1) + q1.1)) q7.1) 134 (Int32.toNatClampNeg q1.1) 1)))))
else
((some (0, q7.2))))))) :=
  (am_lp_eq _ _).trans (fe_bd fun q1 => (fe_bd fun q4 => (fe_bd fun q7 => (fe_if (fe_gd (fe_gd (rfl))) (rfl)))))
theorem e_X12_readOrder_256 (x1 : Int32) (m : fm_) : f_X12_readOrder_256 x1 m =
(Option.bind (f_X12_isWord 1718773093 m) fun q1 =>
(if q1.1 = 0 then
((f_X12_readOrder_301 x1 q1.2))
else
(gd_ (ix_ ((8 * x1) + 6) 56)
(if (gi_ q1.2 133 (Int32.toNatClampNeg ((8 * x1) + 6))) = 0 then
(Option.bind (f_X12_next q1.2) fun q10 =>
(Option.bind (f_X12_wantWord 2003330414 q10.2) fun q13 =>
(Option.bind (f_X12_readE 6 q13.2) fun q16 =>
((f_X12_readOrder_393 x1 q16.2)))))
else
((f_X12_readOrder_301 x1 q1.2)))))) :=
  (am_lp_eq _ _).trans (fe_bd fun q1 => (fe_if (rfl) (fe_gd (fe_if (fe_bd fun q10 => (fe_bd fun q13 => (fe_bd fun q16 => (rfl)))) (rfl)))))
theorem e_X12_readOrder_301 (x1 : Int32) (m : fm_) : f_X12_readOrder_301 x1 m =
(Option.bind (f_X12_isWord 444300616549 m) fun q1 =>
(if q1.1 = 0 then
((f_X12_readOrder_343 x1 q1.2))
else
(if (gi_ q1.2 106 48) = 0 then
(Option.bind (f_X12_next q1.2) fun q8 =>
(Option.bind (f_X12_told 0 20 q8.2) fun q11 =>
(gd_ (ix_ x1 7)
((f_X12_readOrder_393 x1 (si_ (si_ q11.2 131 (Int32.toNatClampNeg x1) q11.1) 106 48 1))))))
else
((f_X12_readOrder_343 x1 q1.2))))) :=
  (am_lp_eq _ _).trans (fe_bd fun q1 => (fe_if (rfl) (fe_if (fe_bd fun q8 => (fe_bd fun q11 => (fe_gd (rfl)))) (rfl))))
theorem e_X12_readOrder_343 (x1 : Int32) (m : fm_) : f_X12_readOrder_343 x1 m =
(Option.bind (f_X12_isWord 107135549923692 m) fun q1 =>
(if q1.1 = 0 then
((f_X12_readOrder_388 x1 q1.2))
else
(gd_ (ix_ ((8 * x1) + 7) 56)
(if (gi_ q1.2 133 (Int32.toNatClampNeg ((8 * x1) + 7))) = 0 then
(Option.bind (f_X12_next q1.2) fun q10 =>
(Option.bind (f_X12_wantWord 2003330414 q10.2) fun q13 =>
(Option.bind (f_X12_readE 7 q13.2) fun q16 =>
((f_X12_readOrder_393 x1 q16.2)))))
else
((f_X12_readOrder_388 x1 q1.2)))))) :=
  (am_lp_eq _ _).trans (fe_bd fun q1 => (fe_if (rfl) (fe_gd (fe_if (fe_bd fun q10 => (fe_bd fun q13 => (fe_bd fun q16 => (rfl)))) (rfl)))))
theorem e_X12_readOrder_388 (x1 : Int32) (m : fm_) : f_X12_readOrder_388 x1 m =
(Option.bind (f_X12_wrong 2 m) fun q1 =>
((f_X12_readOrder_393 x1 q1.2))) :=
  (am_lp_eq _ _).trans (fe_bd fun q1 => (rfl))
theorem e_X12_readOrder_393 (x1 : Int32) (m : fm_) : f_X12_readOrder_393 x1 m =
(Option.bind (f_X12_wantEnd m) fun q1 =>
((some (0, q1.2)))) :=
  (am_lp_eq _ _).trans (fe_bd fun q1 => (rfl))
noncomputable def f_X12_readOrder  (m : fm_) : Option (Int32 × fm_) :=
  (Option.bind (f_X12_isWord 427020088179 m) fun q1 =>
(if q1.1 = 0 then
((f_X12_readOrder_83 (gi_ m 106 33) q1.2))
else
(gd_ (ix_ (gi_ m 106 33) 7)
(if 6 ≤ (gi_ q1.2 127 (Int32.toNatClampNeg (gi_ m 106 33))) then
((f_X12_readOrder_83 (gi_ m 106 33) q1.2))
else
(Option.bind (f_X12_next q1.2) fun q10 =>
(gd_ (ix_ (gi_ m 106 33) 7)
(Option.bind (f_X12_told 0 9 q10.2) fun q15 =>
(gd_ (ix_ ((6 * (gi_ m 106 33)) + (gi_ q10.2 127 (Int32.toNatClampNeg (gi_ m 106 33)))) 42)
(Option.bind (f_X12_wantWord 2003330414 (si_ q15.2 126 (Int32.toNatClampNeg ((6 * (gi_ m 106 33)) + (gi_ q10.2 127 (Int32.toNatClampNeg (gi_ m 106 33))))) q15.1)) fun q20 =>
(gd_ (ix_ (gi_ m 106 33) 7)
(Option.bind (f_X12_readE (gi_ q20.2 127 (Int32.toNatClampNeg (gi_ m 106 33))) q20.2) fun q25 =>
(gd_ (ix_ (gi_ m 106 33) 7)
(gd_ (ix_ (gi_ m 106 33) 7)
((f_X12_readOrder_393 (gi_ m 106 33) (si_ q25.2 127 (Int32.toNatClampNeg (gi_ m 106 33)) ((gi_ q25.2 127 (Int32.toNatClampNeg (gi_ m 106 33))) + 1)))))))))))))))))
def sp_X12_readOrder : am_S := fn_sp [(194, fn_F, G_X12_isWord), (192, fn_F, G_X12_next), (196, fn_F, G_X12_told), (195, fn_F, G_X12_wantWord), (213, fn_F, G_X12_readE), (193, fn_F, G_X12_wrong), (198, fn_F, G_X12_wantEnd)]
theorem sm_X12_readOrder : am_Smono (sp_X12_readOrder) := fn_sp_mono _
def P_X12_readOrder (n : Nat) (r : Nat → Nat → Option Nat) (s : S_X12_readOrder) (q : Int32 × fm_) : Prop := match s with
  | Sum.inl ((x1, m)) => ∀ (Q : Option Value → am_W → Prop), Q (en_v q).1 (mk_ n r q.2) → am_T m_X12_readOrder sp_X12_readOrder n Q 83 [some (.ref 106), some (.int x1), none, none] [] (mk_ n r m)
  | Sum.inr (Sum.inl ((x1, m))) => ∀ (Q : Option Value → am_W → Prop), Q (en_v q).1 (mk_ n r q.2) → am_T m_X12_readOrder sp_X12_readOrder n Q 131 [some (.ref 106), some (.int x1), none, none] [] (mk_ n r m)
  | Sum.inr (Sum.inr (Sum.inl ((x1, m)))) => ∀ (Q : Option Value → am_W → Prop), Q (en_v q).1 (mk_ n r q.2) → am_T m_X12_readOrder sp_X12_readOrder n Q 256 [some (.ref 106), some (.int x1), none, none] [] (mk_ n r m)
  | Sum.inr (Sum.inr (Sum.inr (Sum.inl ((x1, m))))) => ∀ (Q : Option Value → am_W → Prop), Q (en_v q).1 (mk_ n r q.2) → am_T m_X12_readOrder sp_X12_readOrder n Q 301 [some (.ref 106), some (.int x1), none, none] [] (mk_ n r m)
  | Sum.inr (Sum.inr (Sum.inr (Sum.inr (Sum.inl ((x1, m)))))) => ∀ (Q : Option Value → am_W → Prop), Q (en_v q).1 (mk_ n r q.2) → am_T m_X12_readOrder sp_X12_readOrder n Q 343 [some (.ref 106), some (.int x1), none, none] [] (mk_ n r m)
  | Sum.inr (Sum.inr (Sum.inr (Sum.inr (Sum.inr (Sum.inl ((x1, m))))))) => ∀ (Q : Option Value → am_W → Prop), Q (en_v q).1 (mk_ n r q.2) → am_T m_X12_readOrder sp_X12_readOrder n Q 388 [some (.ref 106), some (.int x1), none, none] [] (mk_ n r m)
  | Sum.inr (Sum.inr (Sum.inr (Sum.inr (Sum.inr (Sum.inr ((x1, m))))))) => ∀ (Q : Option Value → am_W → Prop) (y2 : Option Value) (y3 : Option Value), Q (en_v q).1 (mk_ n r q.2) → am_T m_X12_readOrder sp_X12_readOrder n Q 393 [some (.ref 106), some (.int x1), y2, y3] [] (mk_ n r m)
set_option maxRecDepth 100000 in
theorem t_X12_readOrder_83 {n : Nat} {r : Nat → Nat → Option Nat} (hf : fn_F n r) {K : S_X12_readOrder → Option (Int32 × fm_)} {q : Int32 × fm_} (hK : ∀ s, K s = some q → P_X12_readOrder n r s q) (x1 : Int32) (m : fm_)
  (h : am_k K (st_X12_readOrder (Sum.inl ((x1, m)))) = some q) : P_X12_readOrder n r (Sum.inl ((x1, m))) q := fun Q hQ =>
  am_T.wp sm_X12_readOrder (K := am_T m_X12_readOrder sp_X12_readOrder n Q) (cuts := [83, 131, 256, 301, 343, 388, 393]) (fun _ _ _ _ h => h) 43
    (fj_bd h fun q1 e2 h3 => ⟨Nat.le_of_ble_eq_true rfl, fn_aF hf rfl rfl, ⟨hf, some (.int q1.1), q1.2, gp_X12_isWord (n := n) (r := r)  e2, fun _ => fj_if h3 (fun c4 h5 => fj_bd h5 fun q6 e7 h8 => ⟨Nat.le_of_ble_eq_true rfl, fn_aF hf rfl rfl, ⟨hf, some (.int q6.1), q6.2, gp_X12_isWord (n := n) (r := r)  e7, fun _ => fj_if h8 (fun c9 h10 => hK _ h10 _ hQ) (fun c9 h10 => ⟨fn_aF hf rfl rfl, fj_in h10 (fun c11 h12 => hK _ h12 _ hQ) (fun c11 h12 => fj_bd h12 fun q13 e14 h15 => ⟨Nat.le_of_ble_eq_true rfl, fn_aF hf rfl rfl, ⟨hf, none, q13.2, gp_X12_next (n := n) (r := r)  e14, fun _ => ⟨rfl, ⟨fn_aF hf rfl rfl, Or.inl ⟨_, hf.2 106 41 129 rfl, fj_bd h15 fun q16 e17 h18 => ⟨Nat.le_of_ble_eq_true rfl, fn_aF hf rfl rfl, ⟨hf, some (.int q16.1), q16.2, gp_X12_told (n := n) (r := r)  e17, fun _ => fj_gd h18 fun g20 h19 => ⟨7, fn_aF hf rfl rfl, ix_t g20, fj_bd h19 fun q21 e22 h23 => ⟨Nat.le_of_ble_eq_true rfl, fn_aF hf rfl rfl, ⟨hf, none, q21.2, gp_X12_wantWord (n := n) (r := r)  e22, fun _ => ⟨rfl, ⟨fn_aF hf rfl rfl, Or.inl ⟨_, hf.2 106 42 130 rfl, ⟨fn_aF hf rfl rfl, Or.inl ⟨_, hf.2 106 41 129 rfl, fj_gd h23 fun g25 h24 => ⟨7, fn_aF hf rfl rfl, ix_t g25, fj_bd h24 fun q26 e27 h28 => ⟨Nat.le_of_ble_eq_true rfl, fn_aF hf rfl rfl, ⟨hf, some (.int q26.1), q26.2, gp_X12_told (n := n) (r := r)  e27, fun _ => fj_gd h28 fun g30 h29 => ⟨7, fn_aF hf rfl rfl, ix_t g30, ⟨fn_aF hf rfl rfl, ⟨Or.inr rfl, hK _ h29 _ _ _ hQ⟩⟩⟩⟩⟩⟩⟩⟩⟩⟩⟩⟩⟩⟩⟩⟩⟩⟩⟩⟩⟩)⟩)⟩⟩) (fun c4 h5 => fj_bd h5 fun q31 e32 h33 => ⟨Nat.le_of_ble_eq_true rfl, fn_aF hf rfl rfl, ⟨hf, none, q31.2, gp_X12_next (n := n) (r := r)  e32, fun _ => ⟨rfl, ⟨fn_aF hf rfl rfl, fj_in h33 (fun c34 h35 => hK _ h35 _ hQ) (fun c34 h35 => ⟨fn_aF hf rfl rfl, fj_if h35 (fun c36 h37 => hK _ h37 _ hQ) (fun c36 h37 => ⟨fn_aF hf rfl rfl, Or.inl ⟨_, hf.2 106 46 134 rfl, ⟨fn_aF hf rfl rfl, fj_gd h37 fun g39 h38 => ⟨10, Or.inr (fn_aF hf rfl rfl), ix_t g39, fj_if h38 (fun c40 h41 => hK _ h41 _ hQ) (fun c40 h41 => fj_bd h41 fun q42 e43 h44 => ⟨Nat.le_of_ble_eq_true rfl, fn_aF hf rfl rfl, ⟨hf, none, q42.2, gp_X12_wrong (n := n) (r := r)  e43, fun _ => ⟨rfl, hK _ h44 _ hQ⟩⟩⟩)⟩⟩⟩⟩)⟩)⟩⟩⟩⟩)⟩⟩)
set_option maxRecDepth 100000 in
theorem t_X12_readOrder_131 {n : Nat} {r : Nat → Nat → Option Nat} (hf : fn_F n r) {K : S_X12_readOrder → Option (Int32 × fm_)} {q : Int32 × fm_} (hK : ∀ s, K s = some q → P_X12_readOrder n r s q) (x1 : Int32) (m : fm_)
  (h : am_k K (st_X12_readOrder (Sum.inr (Sum.inl ((x1, m))))) = some q) : P_X12_readOrder n r (Sum.inr (Sum.inl ((x1, m)))) q := fun Q hQ =>
  am_T.wp sm_X12_readOrder (K := am_T m_X12_readOrder sp_X12_readOrder n Q) (cuts := [83, 131, 256, 301, 343, 388, 393]) (fun _ _ _ _ h => h) 33
    (fj_bd h fun q1 e2 h3 => ⟨Nat.le_of_ble_eq_true rfl, fn_aF hf rfl rfl, ⟨hf, some (.int q1.1), q1.2, gp_X12_told (n := n) (r := r)  e2, fun _ => fj_bd h3 fun q4 e5 h6 => ⟨Nat.le_of_ble_eq_true rfl, fn_aF hf rfl rfl, ⟨hf, none, q4.2, gp_X12_wantWord (n := n) (r := r)  e5, fun _ => ⟨rfl, fj_bd h6 fun q7 e8 h9 => ⟨Nat.le_of_ble_eq_true rfl, fn_aF hf rfl rfl, ⟨hf, some (.int q7.1), q7.2, gp_X12_told (n := n) (r := r)  e8, fun _ => ⟨fn_aF hf rfl rfl, fj_if h9 (fun c10 h11 => ⟨fn_aF hf rfl rfl, Or.inl ⟨_, hf.2 106 40 128 rfl, fj_gd h11 fun g13 h12 => ⟨70, fn_aF hf rfl rfl, ix_t g13, ⟨fn_aF hf rfl rfl, Or.inl ⟨_, hf.2 106 46 134 rfl, fj_gd h12 fun g15 h14 => ⟨10, ix_t g15, Or.inr ⟨fn_aF hf rfl rfl, Or.inr rfl, hK _ h14 _ _ _ hQ⟩⟩⟩⟩⟩⟩⟩) (fun c10 h11 => ⟨rfl, fj_rt h11 hQ⟩)⟩⟩⟩⟩⟩⟩⟩⟩)
set_option maxRecDepth 100000 in
theorem t_X12_readOrder_256 {n : Nat} {r : Nat → Nat → Option Nat} (hf : fn_F n r) {K : S_X12_readOrder → Option (Int32 × fm_)} {q : Int32 × fm_} (hK : ∀ s, K s = some q → P_X12_readOrder n r s q) (x1 : Int32) (m : fm_)
  (h : am_k K (st_X12_readOrder (Sum.inr (Sum.inr (Sum.inl ((x1, m)))))) = some q) : P_X12_readOrder n r (Sum.inr (Sum.inr (Sum.inl ((x1, m))))) q := fun Q hQ =>
  am_T.wp sm_X12_readOrder (K := am_T m_X12_readOrder sp_X12_readOrder n Q) (cuts := [83, 131, 256, 301, 343, 388, 393]) (fun _ _ _ _ h => h) 24
    (fj_bd h fun q1 e2 h3 => ⟨Nat.le_of_ble_eq_true rfl, fn_aF hf rfl rfl, ⟨hf, some (.int q1.1), q1.2, gp_X12_isWord (n := n) (r := r)  e2, fun _ => fj_if h3 (fun c4 h5 => hK _ h5 _ hQ) (fun c4 h5 => ⟨fn_aF hf rfl rfl, Or.inl ⟨_, hf.2 106 45 133 rfl, fj_gd h5 fun g7 h6 => ⟨56, Or.inr (fn_aF hf rfl rfl), ix_t g7, fj_in h6 (fun c8 h9 => hK _ h9 _ hQ) (fun c8 h9 => fj_bd h9 fun q10 e11 h12 => ⟨Nat.le_of_ble_eq_true rfl, fn_aF hf rfl rfl, ⟨hf, none, q10.2, gp_X12_next (n := n) (r := r)  e11, fun _ => ⟨rfl, fj_bd h12 fun q13 e14 h15 => ⟨Nat.le_of_ble_eq_true rfl, fn_aF hf rfl rfl, ⟨hf, none, q13.2, gp_X12_wantWord (n := n) (r := r)  e14, fun _ => ⟨rfl, fj_bd h15 fun q16 e17 h18 => ⟨Nat.le_of_ble_eq_true rfl, fn_aF hf rfl rfl, ⟨hf, none, q16.2, gp_X12_readE (n := n) (r := r)  e17, fun _ => ⟨rfl, hK _ h18 _ _ _ hQ⟩⟩⟩⟩⟩⟩⟩⟩⟩)⟩⟩⟩)⟩⟩)
set_option maxRecDepth 100000 in
theorem t_X12_readOrder_301 {n : Nat} {r : Nat → Nat → Option Nat} (hf : fn_F n r) {K : S_X12_readOrder → Option (Int32 × fm_)} {q : Int32 × fm_} (hK : ∀ s, K s = some q → P_X12_readOrder n r s q) (x1 : Int32) (m : fm_)
  (h : am_k K (st_X12_readOrder (Sum.inr (Sum.inr (Sum.inr (Sum.inl ((x1, m))))))) = some q) : P_X12_readOrder n r (Sum.inr (Sum.inr (Sum.inr (Sum.inl ((x1, m)))))) q := fun Q hQ =>
  am_T.wp sm_X12_readOrder (K := am_T m_X12_readOrder sp_X12_readOrder n Q) (cuts := [83, 131, 256, 301, 343, 388, 393]) (fun _ _ _ _ h => h) 23
    (fj_bd h fun q1 e2 h3 => ⟨Nat.le_of_ble_eq_true rfl, fn_aF hf rfl rfl, ⟨hf, some (.int q1.1), q1.2, gp_X12_isWord (n := n) (r := r)  e2, fun _ => fj_if h3 (fun c4 h5 => hK _ h5 _ hQ) (fun c4 h5 => ⟨fn_aF hf rfl rfl, fj_in h5 (fun c6 h7 => hK _ h7 _ hQ) (fun c6 h7 => fj_bd h7 fun q8 e9 h10 => ⟨Nat.le_of_ble_eq_true rfl, fn_aF hf rfl rfl, ⟨hf, none, q8.2, gp_X12_next (n := n) (r := r)  e9, fun _ => ⟨rfl, ⟨fn_aF hf rfl rfl, Or.inl ⟨_, hf.2 106 43 131 rfl, fj_bd h10 fun q11 e12 h13 => ⟨Nat.le_of_ble_eq_true rfl, fn_aF hf rfl rfl, ⟨hf, some (.int q11.1), q11.2, gp_X12_told (n := n) (r := r)  e12, fun _ => fj_gd h13 fun g15 h14 => ⟨7, fn_aF hf rfl rfl, ix_t g15, ⟨fn_aF hf rfl rfl, ⟨Or.inr rfl, hK _ h14 _ _ _ hQ⟩⟩⟩⟩⟩⟩⟩⟩⟩⟩)⟩)⟩⟩)
set_option maxRecDepth 100000 in
theorem t_X12_readOrder_343 {n : Nat} {r : Nat → Nat → Option Nat} (hf : fn_F n r) {K : S_X12_readOrder → Option (Int32 × fm_)} {q : Int32 × fm_} (hK : ∀ s, K s = some q → P_X12_readOrder n r s q) (x1 : Int32) (m : fm_)
  (h : am_k K (st_X12_readOrder (Sum.inr (Sum.inr (Sum.inr (Sum.inr (Sum.inl ((x1, m)))))))) = some q) : P_X12_readOrder n r (Sum.inr (Sum.inr (Sum.inr (Sum.inr (Sum.inl ((x1, m))))))) q := fun Q hQ =>
  am_T.wp sm_X12_readOrder (K := am_T m_X12_readOrder sp_X12_readOrder n Q) (cuts := [83, 131, 256, 301, 343, 388, 393]) (fun _ _ _ _ h => h) 24
    (fj_bd h fun q1 e2 h3 => ⟨Nat.le_of_ble_eq_true rfl, fn_aF hf rfl rfl, ⟨hf, some (.int q1.1), q1.2, gp_X12_isWord (n := n) (r := r)  e2, fun _ => fj_if h3 (fun c4 h5 => hK _ h5 _ hQ) (fun c4 h5 => ⟨fn_aF hf rfl rfl, Or.inl ⟨_, hf.2 106 45 133 rfl, fj_gd h5 fun g7 h6 => ⟨56, Or.inr (fn_aF hf rfl rfl), ix_t g7, fj_in h6 (fun c8 h9 => hK _ h9 _ hQ) (fun c8 h9 => fj_bd h9 fun q10 e11 h12 => ⟨Nat.le_of_ble_eq_true rfl, fn_aF hf rfl rfl, ⟨hf, none, q10.2, gp_X12_next (n := n) (r := r)  e11, fun _ => ⟨rfl, fj_bd h12 fun q13 e14 h15 => ⟨Nat.le_of_ble_eq_true rfl, fn_aF hf rfl rfl, ⟨hf, none, q13.2, gp_X12_wantWord (n := n) (r := r)  e14, fun _ => ⟨rfl, fj_bd h15 fun q16 e17 h18 => ⟨Nat.le_of_ble_eq_true rfl, fn_aF hf rfl rfl, ⟨hf, none, q16.2, gp_X12_readE (n := n) (r := r)  e17, fun _ => ⟨rfl, hK _ h18 _ _ _ hQ⟩⟩⟩⟩⟩⟩⟩⟩⟩)⟩⟩⟩)⟩⟩)
set_option maxRecDepth 100000 in
theorem t_X12_readOrder_388 {n : Nat} {r : Nat → Nat → Option Nat} (hf : fn_F n r) {K : S_X12_readOrder → Option (Int32 × fm_)} {q : Int32 × fm_} (hK : ∀ s, K s = some q → P_X12_readOrder n r s q) (x1 : Int32) (m : fm_)
  (h : am_k K (st_X12_readOrder (Sum.inr (Sum.inr (Sum.inr (Sum.inr (Sum.inr (Sum.inl ((x1, m))))))))) = some q) : P_X12_readOrder n r (Sum.inr (Sum.inr (Sum.inr (Sum.inr (Sum.inr (Sum.inl ((x1, m)))))))) q := fun Q hQ =>
  am_T.wp sm_X12_readOrder (K := am_T m_X12_readOrder sp_X12_readOrder n Q) (cuts := [83, 131, 256, 301, 343, 388, 393]) (fun _ _ _ _ h => h) 5
    (fj_bd h fun q1 e2 h3 => ⟨Nat.le_of_ble_eq_true rfl, fn_aF hf rfl rfl, ⟨hf, none, q1.2, gp_X12_wrong (n := n) (r := r)  e2, fun _ => ⟨rfl, hK _ h3 _ _ _ hQ⟩⟩⟩)
set_option maxRecDepth 100000 in
theorem t_X12_readOrder_393 {n : Nat} {r : Nat → Nat → Option Nat} (hf : fn_F n r) {K : S_X12_readOrder → Option (Int32 × fm_)} {q : Int32 × fm_} (hK : ∀ s, K s = some q → P_X12_readOrder n r s q) (x1 : Int32) (m : fm_)
  (h : am_k K (st_X12_readOrder (Sum.inr (Sum.inr (Sum.inr (Sum.inr (Sum.inr (Sum.inr ((x1, m))))))))) = some q) : P_X12_readOrder n r (Sum.inr (Sum.inr (Sum.inr (Sum.inr (Sum.inr (Sum.inr ((x1, m)))))))) q := fun Q y2 y3 hQ =>
  am_T.wp sm_X12_readOrder (K := am_T m_X12_readOrder sp_X12_readOrder n Q) (cuts := [83, 131, 256, 301, 343, 388, 393]) (fun _ _ _ _ h => h) 4
    (fj_bd h fun q1 e2 h3 => ⟨Nat.le_of_ble_eq_true rfl, fn_aF hf rfl rfl, ⟨hf, none, q1.2, gp_X12_wantEnd (n := n) (r := r)  e2, fun _ => ⟨rfl, ⟨rfl, fj_rt h3 hQ⟩⟩⟩⟩)
theorem l_X12_readOrder {n : Nat} {r : Nat → Nat → Option Nat} (hf : fn_F n r) (s : S_X12_readOrder) (q : Int32 × fm_) (h : am_lp (st_X12_readOrder) s = some q) : P_X12_readOrder n r s q :=
  am_lp_snd (P := P_X12_readOrder n r) (fun K hK s q h => match s, h with
    | Sum.inl ((x1, m)), h => t_X12_readOrder_83 hf (fun s => hK s q) x1 m h
    | Sum.inr (Sum.inl ((x1, m))), h => t_X12_readOrder_131 hf (fun s => hK s q) x1 m h
    | Sum.inr (Sum.inr (Sum.inl ((x1, m)))), h => t_X12_readOrder_256 hf (fun s => hK s q) x1 m h
    | Sum.inr (Sum.inr (Sum.inr (Sum.inl ((x1, m))))), h => t_X12_readOrder_301 hf (fun s => hK s q) x1 m h
    | Sum.inr (Sum.inr (Sum.inr (Sum.inr (Sum.inl ((x1, m)))))), h => t_X12_readOrder_343 hf (fun s => hK s q) x1 m h
    | Sum.inr (Sum.inr (Sum.inr (Sum.inr (Sum.inr (Sum.inl ((x1, m))))))), h => t_X12_readOrder_388 hf (fun s => hK s q) x1 m h
    | Sum.inr (Sum.inr (Sum.inr (Sum.inr (Sum.inr (Sum.inr ((x1, m))))))), h => t_X12_readOrder_393 hf (fun s => hK s q) x1 m h) s q h
set_option maxRecDepth 100000 in
theorem t_X12_readOrder {n : Nat} {r : Nat → Nat → Option Nat} (hf : fn_F n r) {q : Int32 × fm_}  {m : fm_}
  (h : f_X12_readOrder  m = some q) {Q : Option Value → am_W → Prop} (hQ : Q (en_v q).1 (mk_ n r q.2)) : am_T m_X12_readOrder sp_X12_readOrder n Q 0 [some (.ref 106), none, none, none] [] (mk_ n r m) :=
  am_T.wp sm_X12_readOrder (K := am_T m_X12_readOrder sp_X12_readOrder n Q) (cuts := [83, 131, 256, 301, 343, 388, 393]) (fun _ _ _ _ h => h) 50
    (⟨fn_aF hf rfl rfl, fh_bd h fun q1 e2 h3 => ⟨Nat.le_of_ble_eq_true rfl, fn_aF hf rfl rfl, ⟨hf, some (.int q1.1), q1.2, gp_X12_isWord (n := n) (r := r)  e2, fun _ => fh_if h3 (fun c4 h5 => l_X12_readOrder hf _ _ h5 _ hQ) (fun c4 h5 => ⟨fn_aF hf rfl rfl, Or.inl ⟨_, hf.2 106 39 127 rfl, fh_gd h5 fun g7 h6 => ⟨7, fn_aF hf rfl rfl, ix_t g7, fh_if h6 (fun c8 h9 => l_X12_readOrder hf _ _ h9 _ hQ) (fun c8 h9 => fh_bd h9 fun q10 e11 h12 => ⟨Nat.le_of_ble_eq_true rfl, fn_aF hf rfl rfl, ⟨hf, none, q10.2, gp_X12_next (n := n) (r := r)  e11, fun _ => ⟨rfl, ⟨fn_aF hf rfl rfl, Or.inl ⟨_, hf.2 106 38 126 rfl, ⟨fn_aF hf rfl rfl, Or.inl ⟨_, hf.2 106 39 127 rfl, fh_gd h12 fun g14 h13 => ⟨7, fn_aF hf rfl rfl, ix_t g14, fh_bd h13 fun q15 e16 h17 => ⟨Nat.le_of_ble_eq_true rfl, fn_aF hf rfl rfl, ⟨hf, some (.int q15.1), q15.2, gp_X12_told (n := n) (r := r)  e16, fun _ => fh_gd h17 fun g19 h18 => ⟨42, fn_aF hf rfl rfl, ix_t g19, fh_bd h18 fun q20 e21 h22 => ⟨Nat.le_of_ble_eq_true rfl, fn_aF hf rfl rfl, ⟨hf, none, q20.2, gp_X12_wantWord (n := n) (r := r)  e21, fun _ => ⟨rfl, ⟨fn_aF hf rfl rfl, Or.inl ⟨_, hf.2 106 39 127 rfl, fh_gd h22 fun g24 h23 => ⟨7, fn_aF hf rfl rfl, ix_t g24, fh_bd h23 fun q25 e26 h27 => ⟨Nat.le_of_ble_eq_true rfl, fn_aF hf rfl rfl, ⟨hf, none, q25.2, gp_X12_readE (n := n) (r := r)  e26, fun _ => ⟨rfl, ⟨fn_aF hf rfl rfl, Or.inl ⟨_, hf.2 106 39 127 rfl, fh_gd h27 fun g29 h28 => ⟨7, fn_aF hf rfl rfl, ix_t g29, fh_gd h28 fun g31 h30 => ⟨7, fn_aF hf rfl rfl, ix_t g31, l_X12_readOrder hf _ _ h30 _ _ _ hQ⟩⟩⟩⟩⟩⟩⟩⟩⟩⟩⟩⟩⟩⟩⟩⟩⟩⟩⟩⟩⟩⟩⟩⟩)⟩⟩⟩)⟩⟩⟩)
noncomputable def G_X12_readOrder (n : Nat) (r : Nat → Nat → Option Nat) (as : List Value) (m : fm_) : Option (Option Value × fm_) := match as with
  | [.ref x0] => gd_ (Nat.beq x0 106) ((f_X12_readOrder  m).map en_v)
  | _ => none
set_option maxRecDepth 100000 in
theorem gp_X12_readOrder {n : Nat} {r : Nat → Nat → Option Nat}   {m : fm_} {q : Int32 × fm_}  (e : f_X12_readOrder  m = some q) : G_X12_readOrder n r [.ref 106] m = some (en_v q) := by
  show (gd_ (Nat.beq 106 106) ((f_X12_readOrder  m).map en_v)) = _
  exact fn_gd rfl (fn_mp e)
set_option maxRecDepth 100000 in
theorem ok_X12_readOrder : am_mok 12 218 m_X12_readOrder = true := by decide +kernel
set_option maxRecDepth 100000 in
theorem c_X12_readOrder (l : Launch) {g : am_G} (hg : fx_ l g) : am_Met l g 5 218 (fn_s fn_F G_X12_readOrder) := by
  refine am_sound (own := 12) (M := m_X12_readOrder) (SP := sp_X12_readOrder) hg.1 (by decide +kernel) ok_X12_readOrder (by decide +kernel) ?_ (fun q hq hk => absurd hk (am_no61 (M := m_X12_readOrder) (by decide +kernel) q hq)) (fn_ext l _ rfl g 12) (Or.inl (by decide +kernel)) ?_ ?_
  · intro q hq hk
    have hm : q.2.2.2.1 ∈ am_cs m_X12_readOrder := am_cs_in hq hk
    rw [show am_cs m_X12_readOrder = [194, 192, 196, 195, 213, 194, 192, 193, 196, 195, 196, 194, 192, 196, 195, 196, 194, 192, 195, 213, 194, 192, 196, 194, 192, 195, 213, 193, 198] by decide +kernel] at hm
    have hm : q.2.2.2.1 ∈ [192, 193, 194, 195, 196, 198, 213] := (List.all_eq_true.mp (show ([194, 192, 196, 195, 213, 194, 192, 193, 196, 195, 196, 194, 192, 196, 195, 196, 194, 192, 195, 213, 194, 192, 196, 194, 192, 195, 213, 193, 198] : List Nat).all (fun a => decide (a ∈ ([192, 193, 194, 195, 196, 198, 213] : List Nat))) = true by decide +kernel) _ hm |> of_decide_eq_true)
    simp only [List.mem_cons, List.not_mem_nil, or_false] at hm
    rcases hm with hm | hm | hm | hm | hm | hm | hm
    · rw [hm]; exact ⟨2, by omega, c_X12_next l hg⟩
    · rw [hm]; exact ⟨0, by omega, c_X12_wrong l hg⟩
    · rw [hm]; exact ⟨0, by omega, c_X12_isWord l hg⟩
    · rw [hm]; exact ⟨3, by omega, c_X12_wantWord l hg⟩
    · rw [hm]; exact ⟨3, by omega, c_X12_told l hg⟩
    · rw [hm]; exact ⟨3, by omega, c_X12_wantEnd l hg⟩
    · rw [hm]; exact ⟨4, by omega, c_X12_readE l hg⟩
  · intro as w K h
    obtain ⟨hf, y, m1, hG, hK⟩ := h
    unfold G_X12_readOrder at hG
    split at hG
    · exact Nat.le_of_ble_eq_true rfl
    · cases hG
  · intro as w K h
    obtain ⟨n, i0, l0, r⟩ := w
    obtain ⟨hf, y, m1, hG, hK⟩ := h
    unfold G_X12_readOrder at hG
    split at hG
    · next x0 =>
      obtain ⟨hx1, hG1⟩ := gd_u hG
      obtain rfl := Nat.eq_of_beq_eq_true hx1
      obtain ⟨q, hq, he⟩ := fn_mu hG1
      obtain ⟨rfl, rfl⟩ := Prod.mk.inj he
      exact t_X12_readOrder  hf   (m := (i0, l0)) hq hK
    · cases hG

/-! == X12_isDay == -/
noncomputable def f_X12_isDay (p1 : Int32) (m : fm_) : Option (Int32 × fm_) :=
  (if p1 < 0 then
((some (0, m)))
else
(if 100 ≤ p1 then
((some (0, m)))
else
((some (1, m)))))
def sp_X12_isDay : am_S := fn_sp []
theorem sm_X12_isDay : am_Smono (sp_X12_isDay) := fn_sp_mono _
set_option maxRecDepth 100000 in
theorem t_X12_isDay {n : Nat} {r : Nat → Nat → Option Nat} (hf : fn_0 n r) {q : Int32 × fm_} (p1 : Int32) {m : fm_}
  (h : f_X12_isDay p1 m = some q) {Q : Option Value → am_W → Prop} (hQ : Q (en_i q).1 (mk_ n r q.2)) : am_T m_X12_isDay sp_X12_isDay n Q 0 [some (.int p1)] [] (mk_ n r m) :=
  am_T.wp sm_X12_isDay (K := am_T m_X12_isDay sp_X12_isDay n Q) (cuts := []) (fun _ _ _ _ h => h) 9
    (fh_if h (fun c1 h2 => ⟨rfl, Or.inl rfl, fh_rt h2 hQ⟩) (fun c1 h2 => fh_if h2 (fun c3 h4 => ⟨rfl, Or.inl rfl, fh_rt h4 hQ⟩) (fun c3 h4 => ⟨rfl, Or.inr rfl, fh_rt h4 hQ⟩)))
noncomputable def G_X12_isDay (n : Nat) (r : Nat → Nat → Option Nat) (as : List Value) (m : fm_) : Option (Option Value × fm_) := match as with
  | [.int p1] => (f_X12_isDay p1 m).map en_i
  | _ => none
set_option maxRecDepth 100000 in
theorem gp_X12_isDay {n : Nat} {r : Nat → Nat → Option Nat}  {p1 : Int32} {m : fm_} {q : Int32 × fm_}  (e : f_X12_isDay p1 m = some q) : G_X12_isDay n r [.int p1] m = some (en_i q) := by
  show ((f_X12_isDay p1 m).map en_i) = _
  exact fn_mp e
set_option maxRecDepth 100000 in
theorem ok_X12_isDay : am_mok 12 219 m_X12_isDay = true := by decide +kernel
set_option maxRecDepth 100000 in
theorem c_X12_isDay (l : Launch) {g : am_G} (hg : fx_ l g) : am_Met l g 0 219 (fn_s fn_0 G_X12_isDay) := by
  refine am_sound (own := 12) (M := m_X12_isDay) (SP := sp_X12_isDay) hg.1 (by decide +kernel) ok_X12_isDay (by decide +kernel) ?_ (fun q hq hk => absurd hk (am_no61 (M := m_X12_isDay) (by decide +kernel) q hq)) (fn_ext l _ rfl g 12) (Or.inl (by decide +kernel)) ?_ ?_
  · intro q hq hk
    have hm : q.2.2.2.1 ∈ am_cs m_X12_isDay := am_cs_in hq hk
    rw [show am_cs m_X12_isDay = [] by decide +kernel] at hm
    cases hm
  · intro as w K h
    obtain ⟨hf, y, m1, hG, hK⟩ := h
    unfold G_X12_isDay at hG
    split at hG
    · exact Nat.le_of_ble_eq_true rfl
    · cases hG
  · intro as w K h
    obtain ⟨n, i0, l0, r⟩ := w
    obtain ⟨hf, y, m1, hG, hK⟩ := h
    unfold G_X12_isDay at hG
    split at hG
    · next p1 =>
      obtain ⟨q, hq, he⟩ := fn_mu hG
      obtain ⟨rfl, rfl⟩ := Prod.mk.inj he
      exact t_X12_isDay  hf  p1 (m := (i0, l0)) hq hK
    · cases hG

/-! == X12_orders == -/
abbrev S_X12_orders : Type := (Int32 × Int32 × Int32 × fm_) ⊕ (Int32 × Int32 × Int32 × fm_) ⊕ (Int32 × Int32 × Int32 × fm_)
noncomputable def st_X12_orders (s : S_X12_orders) : Option (S_X12_orders ⊕ (Int32 × fm_)) := match s with
  | Sum.inl ((x1, x2, x3, m)) =>
    (if 10 ≤ x3 then
((some (Sum.inl (Sum.inr (Sum.inl ((x1, x2, 0, m)))))))
else
(gd_ (ix_ ((10 * x2) + x3) 70)
(gd_ (ix_ x3 10)
((some (Sum.inl (Sum.inl ((x1, x2, (x3 + 1), (si_ (si_ m 128 (Int32.toNatClampNeg ((10 * x2) + x3)) 0) 134 (Int32.toNatClampNeg x3) 0))))))))))
  | Sum.inr (Sum.inl ((x1, x2, x3, m))) =>
    (if 8 ≤ x3 then
(Option.bind (f_X12_begin m) fun q3 =>
((some (Sum.inl (Sum.inr (Sum.inr ((x1, x2, x3, q3.2))))))))
else
(gd_ (ix_ ((8 * x2) + x3) 56)
((some (Sum.inl (Sum.inr (Sum.inl ((x1, x2, (x3 + 1), (si_ m 133 (Int32.toNatClampNeg ((8 * x2) + x3)) 0))))))))))
  | Sum.inr (Sum.inr ((x1, x2, x3, m))) =>
    (if (gi_ m 106 2) = 0 then
(if (gi_ m 106 6) = 0 then
(if (gi_ m 106 2) ≤ 0 then
((some (Sum.inr (x2, (si_ m 106 33 ((gi_ m 106 33) + 1))))))
else
((some (Sum.inr ((-1), m)))))
else
(Option.bind (f_X12_readOrder m) fun q9 =>
((some (Sum.inl (Sum.inr (Sum.inr ((x1, x2, x3, q9.2)))))))))
else
(if (gi_ m 106 2) ≤ 0 then
((some (Sum.inr (x2, (si_ m 106 33 ((gi_ m 106 33) + 1))))))
else
((some (Sum.inr ((-1), m))))))
noncomputable def f_X12_orders_93 (x1 : Int32) (x2 : Int32) (x3 : Int32) (m : fm_) : Option (Int32 × fm_) := am_lp (st_X12_orders) (Sum.inl ((x1, x2, x3, m)))
noncomputable def f_X12_orders_126 (x1 : Int32) (x2 : Int32) (x3 : Int32) (m : fm_) : Option (Int32 × fm_) := am_lp (st_X12_orders) (Sum.inr (Sum.inl ((x1, x2, x3, m))))
noncomputable def f_X12_orders_154 (x1 : Int32) (x2 : Int32) (x3 : Int32) (m : fm_) : Option (Int32 × fm_) := am_lp (st_X12_orders) (Sum.inr (Sum.inr ((x1, x2, x3, m))))
theorem e_X12_orders_93 (x1 : Int32) (x2 : Int32) (x3 : Int32) (m : fm_) : f_X12_orders_93 x1 x2 x3 m =
(if 10 ≤ x3 then
((f_X12_orders_126 x1 x2 0 m))
else
(gd_ (ix_ ((10 * x2) + x3) 70)
(gd_ (ix_ x3 10)
((f_X12_orders_93 x1 x2 (x3 + 1) (si_ (si_ m 128 (Int32.toNatClampNeg ((10 * x2) + x3)) 0) 134 (Int32.toNatClampNeg x3) 0)))))) :=
  (am_lp_eq _ _).trans (fe_if (rfl) (fe_gd (fe_gd (rfl))))
theorem e_X12_orders_126 (x1 : Int32) (x2 : Int32) (x3 : Int32) (m : fm_) : f_X12_orders_126 x1 x2 x3 m =
(if 8 ≤ x3 then
(Option.bind (f_X12_begin m) fun q3 =>
((f_X12_orders_154 x1 x2 x3 q3.2)))
else
(gd_ (ix_ ((8 * x2) + x3) 56)
((f_X12_orders_126 x1 x2 (x3 + 1) (si_ m 133 (Int32.toNatClampNeg ((8 * x2) + x3)) 0))))) :=
  (am_lp_eq _ _).trans (fe_if (fe_bd fun q3 => (rfl)) (fe_gd (rfl)))
theorem e_X12_orders_154 (x1 : Int32) (x2 : Int32) (x3 : Int32) (m : fm_) : f_X12_orders_154 x1 x2 x3 m =
(if (gi_ m 106 2) = 0 then
(if (gi_ m 106 6) = 0 then
(if (gi_ m 106 2) ≤ 0 then
((some (x2, (si_ m 106 33 ((gi_ m 106 33) + 1)))))
else
((some ((-1), m))))
else
(Option.bind (f_X12_readOrder m) fun q9 =>
((f_X12_orders_154 x1 x2 x3 q9.2))))
else
(if (gi_ m 106 2) ≤ 0 then
((some (x2, (si_ m 106 33 ((gi_ m 106 33) + 1)))))
else
((some ((-1), m))))) :=
  (am_lp_eq _ _).trans (fe_if (fe_if (fe_if (rfl) (rfl)) (fe_bd fun q9 => (rfl))) (fe_if (rfl) (rfl)))
noncomputable def f_X12_orders (p1 : Int32) (m : fm_) : Option (Int32 × fm_) :=
  (if 700 < (gi_ m 106 1) then
((some ((-2), m)))
else
(Option.bind (f_X12_isDay p1 m) fun q3 =>
(if q3.1 = 0 then
((some ((-2), q3.2)))
else
(if (gi_ q3.2 106 33) = 6 then
((some ((-2), q3.2)))
else
(gd_ (ix_ (gi_ q3.2 106 33) 7)
(gd_ (ix_ (gi_ q3.2 106 33) 7)
(gd_ (ix_ (gi_ q3.2 106 33) 7)
(gd_ (ix_ (gi_ q3.2 106 33) 7)
(gd_ (ix_ (gi_ q3.2 106 33) 7)
((f_X12_orders_93 p1 (gi_ q3.2 106 33) 0 (si_ (si_ (si_ (si_ (si_ (si_ (si_ (si_ (si_ q3.2 132 (Int32.toNatClampNeg (gi_ q3.2 106 33)) p1) 127 (Int32.toNatClampNeg (gi_ q3.2 106 33)) 0) 129 (Int32.toNatClampNeg (gi_ q3.2 106 33)) 0) 130 (Int32.toNatClampNeg (gi_ q3.2 106 33)) 1440) 131 (Int32.toNatClampNeg (gi_ q3.2 106 33)) 0) 106 47 0) 106 48 0) 106 49 0) 106 50 0))))))))))))
def sp_X12_orders : am_S := fn_sp [(219, fn_0, G_X12_isDay), (199, fn_F, G_X12_begin), (218, fn_F, G_X12_readOrder)]
theorem sm_X12_orders : am_Smono (sp_X12_orders) := fn_sp_mono _
def P_X12_orders (n : Nat) (r : Nat → Nat → Option Nat) (s : S_X12_orders) (q : Int32 × fm_) : Prop := match s with
  | Sum.inl ((x1, x2, x3, m)) => ∀ (Q : Option Value → am_W → Prop), Q (en_i q).1 (mk_ n r q.2) → am_T m_X12_orders sp_X12_orders n Q 93 [some (.ref 106), some (.int x1), some (.int x2), some (.int x3)] [] (mk_ n r m)
  | Sum.inr (Sum.inl ((x1, x2, x3, m))) => ∀ (Q : Option Value → am_W → Prop), Q (en_i q).1 (mk_ n r q.2) → am_T m_X12_orders sp_X12_orders n Q 126 [some (.ref 106), some (.int x1), some (.int x2), some (.int x3)] [] (mk_ n r m)
  | Sum.inr (Sum.inr ((x1, x2, x3, m))) => ∀ (Q : Option Value → am_W → Prop), Q (en_i q).1 (mk_ n r q.2) → am_T m_X12_orders sp_X12_orders n Q 154 [some (.ref 106), some (.int x1), some (.int x2), some (.int x3)] [] (mk_ n r m)
set_option maxRecDepth 100000 in
theorem t_X12_orders_93 {n : Nat} {r : Nat → Nat → Option Nat} (hf : fn_F n r) {K : S_X12_orders → Option (Int32 × fm_)} {q : Int32 × fm_} (hK : ∀ s, K s = some q → P_X12_orders n r s q) (x1 : Int32) (x2 : Int32) (x3 : Int32) (m : fm_)
  (h : am_k K (st_X12_orders (Sum.inl ((x1, x2, x3, m)))) = some q) : P_X12_orders n r (Sum.inl ((x1, x2, x3, m))) q := fun Q hQ =>
  am_T.wp sm_X12_orders (K := am_T m_X12_orders sp_X12_orders n Q) (cuts := [93, 126, 154]) (fun _ _ _ _ h => h) 21
    (fj_if h (fun c1 h2 => hK _ h2 _ hQ) (fun c1 h2 => ⟨fn_aF hf rfl rfl, Or.inl ⟨_, hf.2 106 40 128 rfl, fj_gd h2 fun g4 h3 => ⟨70, fn_aF hf rfl rfl, ix_t g4, ⟨fn_aF hf rfl rfl, Or.inl ⟨_, hf.2 106 46 134 rfl, fj_gd h3 fun g6 h5 => ⟨10, ix_t g6, Or.inr ⟨fn_aF hf rfl rfl, Or.inl rfl, hK _ h5 _ hQ⟩⟩⟩⟩⟩⟩⟩))
set_option maxRecDepth 100000 in
theorem t_X12_orders_126 {n : Nat} {r : Nat → Nat → Option Nat} (hf : fn_F n r) {K : S_X12_orders → Option (Int32 × fm_)} {q : Int32 × fm_} (hK : ∀ s, K s = some q → P_X12_orders n r s q) (x1 : Int32) (x2 : Int32) (x3 : Int32) (m : fm_)
  (h : am_k K (st_X12_orders (Sum.inr (Sum.inl ((x1, x2, x3, m))))) = some q) : P_X12_orders n r (Sum.inr (Sum.inl ((x1, x2, x3, m)))) q := fun Q hQ =>
  am_T.wp sm_X12_orders (K := am_T m_X12_orders sp_X12_orders n Q) (cuts := [93, 126, 154]) (fun _ _ _ _ h => h) 16
    (fj_if h (fun c1 h2 => fj_bd h2 fun q3 e4 h5 => ⟨Nat.le_of_ble_eq_true rfl, fn_aF hf rfl rfl, ⟨hf, none, q3.2, gp_X12_begin (n := n) (r := r)  e4, fun _ => ⟨rfl, hK _ h5 _ hQ⟩⟩⟩) (fun c1 h2 => ⟨fn_aF hf rfl rfl, Or.inl ⟨_, hf.2 106 45 133 rfl, fj_gd h2 fun g7 h6 => ⟨56, ix_t g7, Or.inr ⟨fn_aF hf rfl rfl, Or.inl rfl, hK _ h6 _ hQ⟩⟩⟩⟩))
set_option maxRecDepth 100000 in
theorem t_X12_orders_154 {n : Nat} {r : Nat → Nat → Option Nat} (hf : fn_F n r) {K : S_X12_orders → Option (Int32 × fm_)} {q : Int32 × fm_} (hK : ∀ s, K s = some q → P_X12_orders n r s q) (x1 : Int32) (x2 : Int32) (x3 : Int32) (m : fm_)
  (h : am_k K (st_X12_orders (Sum.inr (Sum.inr ((x1, x2, x3, m))))) = some q) : P_X12_orders n r (Sum.inr (Sum.inr ((x1, x2, x3, m)))) q := fun Q hQ =>
  am_T.wp sm_X12_orders (K := am_T m_X12_orders sp_X12_orders n Q) (cuts := [93, 126, 154]) (fun _ _ _ _ h => h) 18
    (⟨fn_aF hf rfl rfl, fj_in h (fun c1 h2 => ⟨fn_aF hf rfl rfl, fj_if h2 (fun c3 h4 => ⟨fn_aF hf rfl rfl, ⟨fn_aF hf rfl rfl, ⟨rfl, fj_rt h4 hQ⟩⟩⟩) (fun c3 h4 => ⟨rfl, fj_rt h4 hQ⟩)⟩) (fun c1 h2 => ⟨fn_aF hf rfl rfl, fj_if h2 (fun c5 h6 => ⟨fn_aF hf rfl rfl, fj_if h6 (fun c7 h8 => ⟨fn_aF hf rfl rfl, ⟨fn_aF hf rfl rfl, ⟨rfl, fj_rt h8 hQ⟩⟩⟩) (fun c7 h8 => ⟨rfl, fj_rt h8 hQ⟩)⟩) (fun c5 h6 => fj_bd h6 fun q9 e10 h11 => ⟨Nat.le_of_ble_eq_true rfl, fn_aF hf rfl rfl, ⟨hf, none, q9.2, gp_X12_readOrder (n := n) (r := r)  e10, fun _ => ⟨rfl, hK _ h11 _ hQ⟩⟩⟩)⟩)⟩)
theorem l_X12_orders {n : Nat} {r : Nat → Nat → Option Nat} (hf : fn_F n r) (s : S_X12_orders) (q : Int32 × fm_) (h : am_lp (st_X12_orders) s = some q) : P_X12_orders n r s q :=
  am_lp_snd (P := P_X12_orders n r) (fun K hK s q h => match s, h with
    | Sum.inl ((x1, x2, x3, m)), h => t_X12_orders_93 hf (fun s => hK s q) x1 x2 x3 m h
    | Sum.inr (Sum.inl ((x1, x2, x3, m))), h => t_X12_orders_126 hf (fun s => hK s q) x1 x2 x3 m h
    | Sum.inr (Sum.inr ((x1, x2, x3, m))), h => t_X12_orders_154 hf (fun s => hK s q) x1 x2 x3 m h) s q h
set_option maxRecDepth 100000 in
theorem t_X12_orders {n : Nat} {r : Nat → Nat → Option Nat} (hf : fn_F n r) {q : Int32 × fm_} (p1 : Int32) {m : fm_}
  (h : f_X12_orders p1 m = some q) {Q : Option Value → am_W → Prop} (hQ : Q (en_i q).1 (mk_ n r q.2)) : am_T m_X12_orders sp_X12_orders n Q 0 [some (.ref 106), some (.int p1), none, none] [] (mk_ n r m) :=
  am_T.wp sm_X12_orders (K := am_T m_X12_orders sp_X12_orders n Q) (cuts := [93, 126, 154]) (fun _ _ _ _ h => h) 55
    (⟨fn_aF hf rfl rfl, fh_if h (fun c1 h2 => ⟨rfl, fh_rt h2 hQ⟩) (fun c1 h2 => fh_bd h2 fun q3 e4 h5 => ⟨Nat.le_of_ble_eq_true rfl, trivial, ⟨trivial, some (.int q3.1), q3.2, gp_X12_isDay (n := n) (r := r)  e4, fun _ => fh_if h5 (fun c6 h7 => ⟨rfl, fh_rt h7 hQ⟩) (fun c6 h7 => ⟨fn_aF hf rfl rfl, fh_in h7 (fun c8 h9 => ⟨fn_aF hf rfl rfl, ⟨fn_aF hf rfl rfl, Or.inl ⟨_, hf.2 106 44 132 rfl, fh_gd h9 fun g11 h10 => ⟨7, fn_aF hf rfl rfl, ix_t g11, ⟨fn_aF hf rfl rfl, Or.inl ⟨_, hf.2 106 39 127 rfl, fh_gd h10 fun g13 h12 => ⟨7, fn_aF hf rfl rfl, ix_t g13, ⟨fn_aF hf rfl rfl, Or.inl ⟨_, hf.2 106 41 129 rfl, fh_gd h12 fun g15 h14 => ⟨7, fn_aF hf rfl rfl, ix_t g15, ⟨fn_aF hf rfl rfl, Or.inl ⟨_, hf.2 106 42 130 rfl, fh_gd h14 fun g17 h16 => ⟨7, fn_aF hf rfl rfl, ix_t g17, ⟨fn_aF hf rfl rfl, Or.inl ⟨_, hf.2 106 43 131 rfl, fh_gd h16 fun g19 h18 => ⟨7, fn_aF hf rfl rfl, ix_t g19, ⟨fn_aF hf rfl rfl, ⟨Or.inl rfl, ⟨fn_aF hf rfl rfl, ⟨Or.inl rfl, ⟨fn_aF hf rfl rfl, ⟨fn_aF hf rfl rfl, l_X12_orders hf _ _ h18 _ hQ⟩⟩⟩⟩⟩⟩⟩⟩⟩⟩⟩⟩⟩⟩⟩⟩⟩⟩⟩⟩⟩⟩) (fun c8 h9 => ⟨rfl, fh_rt h9 hQ⟩)⟩)⟩⟩)⟩)
noncomputable def G_X12_orders (n : Nat) (r : Nat → Nat → Option Nat) (as : List Value) (m : fm_) : Option (Option Value × fm_) := match as with
  | [.ref x0, .int p1] => gd_ (Nat.beq x0 106) ((f_X12_orders p1 m).map en_i)
  | _ => none
set_option maxRecDepth 100000 in
theorem gp_X12_orders {n : Nat} {r : Nat → Nat → Option Nat}  {p1 : Int32} {m : fm_} {q : Int32 × fm_}  (e : f_X12_orders p1 m = some q) : G_X12_orders n r [.ref 106, .int p1] m = some (en_i q) := by
  show (gd_ (Nat.beq 106 106) ((f_X12_orders p1 m).map en_i)) = _
  exact fn_gd rfl (fn_mp e)
set_option maxRecDepth 100000 in
theorem ok_X12_orders : am_mok 12 220 m_X12_orders = true := by decide +kernel
set_option maxRecDepth 100000 in
theorem c_X12_orders (l : Launch) {g : am_G} (hg : fx_ l g) : am_Met l g 6 220 (fn_s fn_F G_X12_orders) := by
  refine am_sound (own := 12) (M := m_X12_orders) (SP := sp_X12_orders) hg.1 (by decide +kernel) ok_X12_orders (by decide +kernel) ?_ (fun q hq hk => absurd hk (am_no61 (M := m_X12_orders) (by decide +kernel) q hq)) (fn_ext l _ rfl g 12) (Or.inl (by decide +kernel)) ?_ ?_
  · intro q hq hk
    have hm : q.2.2.2.1 ∈ am_cs m_X12_orders := am_cs_in hq hk
    rw [show am_cs m_X12_orders = [219, 199, 218] by decide +kernel] at hm
    have hm : q.2.2.2.1 ∈ [199, 218, 219] := (List.all_eq_true.mp (show ([219, 199, 218] : List Nat).all (fun a => decide (a ∈ ([199, 218, 219] : List Nat))) = true by decide +kernel) _ hm |> of_decide_eq_true)
    simp only [List.mem_cons, List.not_mem_nil, or_false] at hm
    rcases hm with hm | hm | hm
    · rw [hm]; exact ⟨3, by omega, c_X12_begin l hg⟩
    · rw [hm]; exact ⟨5, by omega, c_X12_readOrder l hg⟩
    · rw [hm]; exact ⟨0, by omega, c_X12_isDay l hg⟩
  · intro as w K h
    obtain ⟨hf, y, m1, hG, hK⟩ := h
    unfold G_X12_orders at hG
    split at hG
    · exact Nat.le_of_ble_eq_true rfl
    · cases hG
  · intro as w K h
    obtain ⟨n, i0, l0, r⟩ := w
    obtain ⟨hf, y, m1, hG, hK⟩ := h
    unfold G_X12_orders at hG
    split at hG
    · next x0 p1 =>
      obtain ⟨hx1, hG1⟩ := gd_u hG
      obtain rfl := Nat.eq_of_beq_eq_true hx1
      obtain ⟨q, hq, he⟩ := fn_mu hG1
      obtain ⟨rfl, rfl⟩ := Prod.mk.inj he
      exact t_X12_orders  hf  p1 (m := (i0, l0)) hq hK
    · cases hG

