/-! == X5_readOne == -/
abbrev S_X5_readOne : Type := (Int32 × Int32 × fm_) ⊕ (Int32 × Int32 × Int32 × Int32 × fm_)
noncomputable def st_X5_readOne (f : Nat → Int32 → fm_ → Option (Int32 × fm_)) (o : Nat) (s : S_X5_readOne) : Option (S_X5_readOne ⊕ (Int32 × fm_)) := match s with
  | Sum.inl ((x1, x2, m)) =>
    (if 7 ≤ (x1 + x2) then
(Option.bind (f_X8_kind m) fun q3 =>
(if q3.1 = 114 then
(if (x1 + x2) < 7 then
(Option.bind (f_X8_step q3.2) fun q13 =>
(Option.bind (f o ((x1 + x2) + 1) q13.2) fun q16 =>
(if q16.1 = 0 then
((some (Sum.inr (0, q16.2))))
else
(Option.bind (f_X8_take 41 q16.2) fun q21 =>
(if q21.1 = 0 then
((some (Sum.inr (0, q21.2))))
else
((some (Sum.inl (Sum.inr ((x1, x2, 1, 0, q21.2)))))))))))
else
(Option.bind (f_X8_fail 2 q3.2) fun q26 =>
(gd_ (bl_ q26.1)
((some (Sum.inr (q26.1, q26.2)))))))
else
(Option.bind (f_X8_kind q3.2) fun q31 =>
(if q31.1 = 40 then
(if (x1 + x2) < 7 then
(Option.bind (f_X8_step q31.2) fun q49 =>
(Option.bind (f o ((x1 + x2) + 1) q49.2) fun q52 =>
(if q52.1 = 0 then
((some (Sum.inr (0, q52.2))))
else
(Option.bind (f_X8_take 41 q52.2) fun q57 =>
(if q57.1 = 0 then
((some (Sum.inr (0, q57.2))))
else
((some (Sum.inl (Sum.inr ((x1, x2, 1, 0, q57.2)))))))))))
else
(Option.bind (f_X8_fail 2 q31.2) fun q62 =>
(gd_ (bl_ q62.1)
((some (Sum.inr (q62.1, q62.2)))))))
else
(Option.bind (f_X5_readComparison o q31.2) fun q38 =>
(if q38.1 = 0 then
((some (Sum.inr (0, q38.2))))
else
((some (Sum.inl (Sum.inr ((x1, x2, 0, 0, q38.2))))))))))))
else
(Option.bind (f_X8_kind m) fun q67 =>
(if q67.1 = 114 then
(Option.bind (f_X8_step q67.2) fun q136 =>
((some (Sum.inl (Sum.inl ((x1, (x2 + 1), q136.2)))))))
else
(Option.bind (f_X8_kind q67.2) fun q72 =>
(if q72.1 = 114 then
(if (x1 + x2) < 7 then
(Option.bind (f_X8_step q72.2) fun q82 =>
(Option.bind (f o ((x1 + x2) + 1) q82.2) fun q85 =>
(if q85.1 = 0 then
((some (Sum.inr (0, q85.2))))
else
(Option.bind (f_X8_take 41 q85.2) fun q90 =>
(if q90.1 = 0 then
((some (Sum.inr (0, q90.2))))
else
((some (Sum.inl (Sum.inr ((x1, x2, 1, 0, q90.2)))))))))))
else
(Option.bind (f_X8_fail 2 q72.2) fun q95 =>
(gd_ (bl_ q95.1)
((some (Sum.inr (q95.1, q95.2)))))))
else
(Option.bind (f_X8_kind q72.2) fun q100 =>
(if q100.1 = 40 then
(if (x1 + x2) < 7 then
(Option.bind (f_X8_step q100.2) fun q118 =>
(Option.bind (f o ((x1 + x2) + 1) q118.2) fun q121 =>
(if q121.1 = 0 then
((some (Sum.inr (0, q121.2))))
else
(Option.bind (f_X8_take 41 q121.2) fun q126 =>
(if q126.1 = 0 then
((some (Sum.inr (0, q126.2))))
else
((some (Sum.inl (Sum.inr ((x1, x2, 1, 0, q126.2)))))))))))
else
(Option.bind (f_X8_fail 2 q100.2) fun q131 =>
(gd_ (bl_ q131.1)
((some (Sum.inr (q131.1, q131.2)))))))
else
(Option.bind (f_X5_readComparison o q100.2) fun q107 =>
(if q107.1 = 0 then
((some (Sum.inr (0, q107.2))))
else
((some (Sum.inl (Sum.inr ((x1, x2, 0, 0, q107.2)))))))))))))))
  | Sum.inr ((x1, x2, x3, x4, m)) =>
    (if x2 ≤ x4 then
((some (Sum.inr (1, m))))
else
(Option.bind (f_X4_addStep o (-114) m) fun q3 =>
((some (Sum.inl (Sum.inr ((x1, x2, x3, (x4 + 1), q3.2))))))))
noncomputable def f_X5_readOne_2 (f : Nat → Int32 → fm_ → Option (Int32 × fm_)) (o : Nat) (x1 : Int32) (x2 : Int32) (m : fm_) : Option (Int32 × fm_) := am_lp (st_X5_readOne f o) (Sum.inl ((x1, x2, m)))
noncomputable def f_X5_readOne_139 (f : Nat → Int32 → fm_ → Option (Int32 × fm_)) (o : Nat) (x1 : Int32) (x2 : Int32) (x3 : Int32) (x4 : Int32) (m : fm_) : Option (Int32 × fm_) := am_lp (st_X5_readOne f o) (Sum.inr ((x1, x2, x3, x4, m)))
theorem e_X5_readOne_2 (f : Nat → Int32 → fm_ → Option (Int32 × fm_)) (o : Nat) (x1 : Int32) (x2 : Int32) (m : fm_) : f_X5_readOne_2 f o x1 x2 m =
(if 7 ≤ (x1 + x2) then
(Option.bind (f_X8_kind m) fun q3 =>
(if q3.1 = 114 then
(if (x1 + x2) < 7 then
(Option.bind (f_X8_step q3.2) fun q13 =>
(Option.bind (f o ((x1 + x2) + 1) q13.2) fun q16 =>
(if q16.1 = 0 then
((some (0, q16.2)))
else
(Option.bind (f_X8_take 41 q16.2) fun q21 =>
(if q21.1 = 0 then
((some (0, q21.2)))
else
((f_X5_readOne_139 f o x1 x2 1 0 q21.2)))))))
else
(Option.bind (f_X8_fail 2 q3.2) fun q26 =>
(gd_ (bl_ q26.1)
((some (q26.1, q26.2))))))
else
(Option.bind (f_X8_kind q3.2) fun q31 =>
(if q31.1 = 40 then
(if (x1 + x2) < 7 then
(Option.bind (f_X8_step q31.2) fun q49 =>
(Option.bind (f o ((x1 + x2) + 1) q49.2) fun q52 =>
(if q52.1 = 0 then
((some (0, q52.2)))
else
(Option.bind (f_X8_take 41 q52.2) fun q57 =>
(if q57.1 = 0 then
((some (0, q57.2)))
else
((f_X5_readOne_139 f o x1 x2 1 0 q57.2)))))))
else
(Option.bind (f_X8_fail 2 q31.2) fun q62 =>
(gd_ (bl_ q62.1)
((some (q62.1, q62.2))))))
else
(Option.bind (f_X5_readComparison o q31.2) fun q38 =>
(if q38.1 = 0 then
((some (0, q38.2)))
else
((f_X5_readOne_139 f o x1 x2 0 0 q38.2))))))))
else
(Option.bind (f_X8_kind m) fun q67 =>
(if q67.1 = 114 then
(Option.bind (f_X8_step q67.2) fun q136 =>
((f_X5_readOne_2 f o x1 (x2 + 1) q136.2)))
else
(Option.bind (f_X8_kind q67.2) fun q72 =>
(if q72.1 = 114 then
(if (x1 + x2) < 7 then
(Option.bind (f_X8_step q72.2) fun q82 =>
(Option.bind (f o ((x1 + x2) + 1) q82.2) fun q85 =>
(if q85.1 = 0 then
((some (0, q85.2)))
else
(Option.bind (f_X8_take 41 q85.2) fun q90 =>
(if q90.1 = 0 then
((some (0, q90.2)))
else
((f_X5_readOne_139 f o x1 x2 1 0 q90.2)))))))
else
(Option.bind (f_X8_fail 2 q72.2) fun q95 =>
(gd_ (bl_ q95.1)
((some (q95.1, q95.2))))))
else
(Option.bind (f_X8_kind q72.2) fun q100 =>
(if q100.1 = 40 then
(if (x1 + x2) < 7 then
(Option.bind (f_X8_step q100.2) fun q118 =>
(Option.bind (f o ((x1 + x2) + 1) q118.2) fun q121 =>
(if q121.1 = 0 then
((some (0, q121.2)))
else
(Option.bind (f_X8_take 41 q121.2) fun q126 =>
(if q126.1 = 0 then
((some (0, q126.2)))
else
((f_X5_readOne_139 f o x1 x2 1 0 q126.2)))))))
else
(Option.bind (f_X8_fail 2 q100.2) fun q131 =>
(gd_ (bl_ q131.1)
((some (q131.1, q131.2))))))
else
(Option.bind (f_X5_readComparison o q100.2) fun q107 =>
(if q107.1 = 0 then
((some (0, q107.2)))
else
((f_X5_readOne_139 f o x1 x2 0 0 q107.2))))))))))) :=
  (am_lp_eq _ _).trans (fe_if (fe_bd fun q3 => (fe_if (fe_if (fe_bd fun q13 => (fe_bd fun q16 => (fe_if (rfl) (fe_bd fun q21 => (fe_if (rfl) (rfl)))))) (fe_bd fun q26 => (fe_gd rfl))) (fe_bd fun q31 => (fe_if (fe_if (fe_bd fun q49 => (fe_bd fun q52 => (fe_if (rfl) (fe_bd fun q57 => (fe_if (rfl) (rfl)))))) (fe_bd fun q62 => (fe_gd rfl))) (fe_bd fun q38 => (fe_if (rfl) (rfl))))))) (fe_bd fun q67 => (fe_if (fe_bd fun q136 => (rfl)) (fe_bd fun q72 => (fe_if (fe_if (fe_bd fun q82 => (fe_bd fun q85 => (fe_if (rfl) (fe_bd fun q90 => (fe_if (rfl) (rfl)))))) (fe_bd fun q95 => (fe_gd rfl))) (fe_bd fun q100 => (fe_if (fe_if (fe_bd fun q118 => (fe_bd fun q121 => (fe_if (rfl) (fe_bd fun q126 => (fe_if (rfl) (rfl)))))) (fe_bd fun q131 => (fe_gd rfl))) (fe_bd fun q107 => (fe_if (rfl) (rfl))))))))))
theorem e_X5_readOne_139 (f : Nat → Int32 → fm_ → Option (Int32 × fm_)) (o : Nat) (x1 : Int32) (x2 : Int32) (x3 : Int32) (x4 : Int32) (m : fm_) : f_X5_readOne_139 f o x1 x2 x3 x4 m =
(if x2 ≤ x4 then
((some (1, m)))
else
(Option.bind (f_X4_addStep o (-114) m) fun q3 =>
((f_X5_readOne_139 f o x1 x2 x3 (x4 + 1) q3.2)))) :=
  (am_lp_eq _ _).trans (fe_if (rfl) (fe_bd fun q3 => (rfl)))
noncomputable def f_X5_readOne (f : Nat → Int32 → fm_ → Option (Int32 × fm_)) (o : Nat) (p1 : Int32) (m : fm_) : Option (Int32 × fm_) :=
  ((f_X5_readOne_2 f o p1 0 m))
def sp_X5_readOne (f : Nat → Int32 → fm_ → Option (Int32 × fm_)) : am_S := fn_sp [(93, fn_F, G_X8_kind), (95, fn_F, G_X8_step), (96, fn_F, G_X8_fail), (58, fn_F, G_X5_readComparison), (56, fn_F, Gx_ f), (97, fn_F, G_X8_take), (36, fn_F, G_X4_addStep)]
theorem sm_X5_readOne (f : Nat → Int32 → fm_ → Option (Int32 × fm_)) : am_Smono (sp_X5_readOne f) := fn_sp_mono _
def P_X5_readOne (f : Nat → Int32 → fm_ → Option (Int32 × fm_)) (o : Nat) (n : Nat) (r : Nat → Nat → Option Nat) (s : S_X5_readOne) (q : Int32 × fm_) : Prop := match s with
  | Sum.inl ((x1, x2, m)) => ∀ (Q : Option Value → am_W → Prop), Q (en_i q).1 (mk_ n r q.2) → am_T m_X5_readOne (sp_X5_readOne f) n Q 2 [some (.ref 68), some (.int x1), some (.int x2), none, none] [] (mk_ n r m)
  | Sum.inr ((x1, x2, x3, x4, m)) => ∀ (Q : Option Value → am_W → Prop), Q (en_i q).1 (mk_ n r q.2) → am_T m_X5_readOne (sp_X5_readOne f) n Q 139 [some (.ref 68), some (.int x1), some (.int x2), some (.int x3), some (.int x4)] [] (mk_ n r m)
set_option maxRecDepth 100000 in
theorem t_X5_readOne_2 (f : Nat → Int32 → fm_ → Option (Int32 × fm_)) (o : Nat) {n : Nat} {r : Nat → Nat → Option Nat} (hf : fn_F n r) (ho : is_O o = true) (hr : r 68 1 = some o) {K : S_X5_readOne → Option (Int32 × fm_)} {q : Int32 × fm_} (hK : ∀ s, K s = some q → P_X5_readOne f o n r s q) (x1 : Int32) (x2 : Int32) (m : fm_)
  (h : am_k K (st_X5_readOne f o (Sum.inl ((x1, x2, m)))) = some q) : P_X5_readOne f o n r (Sum.inl ((x1, x2, m))) q := fun Q hQ =>
  am_T.wp (sm_X5_readOne f) (K := am_T m_X5_readOne (sp_X5_readOne f) n Q) (cuts := [2, 139]) (fun _ _ _ _ h => h) 54
    (fj_if h (fun c1 h2 => ⟨fn_aF hf rfl rfl, Or.inl ⟨_, hf.2 68 0 1 rfl, fj_bd h2 fun q3 e4 h5 => ⟨Nat.le_of_ble_eq_true rfl, fn_aF hf rfl rfl, ⟨hf, some (.int q3.1), q3.2, gp_X8_kind (n := n) (r := r)  e4, fun _ => fj_if h5 (fun c6 h7 => ⟨fun c8 => absurd c8 (by decide), fun c8 => fj_if h7 (fun c9 h10 => ⟨fun c11 => ⟨fun c12 => absurd c12 (by decide), fun c12 => ⟨fn_aF hf rfl rfl, Or.inl ⟨_, hf.2 68 0 1 rfl, fj_bd h10 fun q13 e14 h15 => ⟨Nat.le_of_ble_eq_true rfl, fn_aF hf rfl rfl, ⟨hf, none, q13.2, gp_X8_step (n := n) (r := r)  e14, fun _ => ⟨rfl, fj_bd h15 fun q16 e17 h18 => ⟨Nat.le_of_ble_eq_true rfl, fn_aF hf rfl rfl, ⟨hf, some (.int q16.1), q16.2, gp_Gx (n := n) (r := r) hr ho e17, fun _ => fj_if h18 (fun c19 h20 => ⟨rfl, Or.inl rfl, fj_rt h20 hQ⟩) (fun c19 h20 => ⟨fn_aF hf rfl rfl, Or.inl ⟨_, hf.2 68 0 1 rfl, fj_bd h20 fun q21 e22 h23 => ⟨Nat.le_of_ble_eq_true rfl, fn_aF hf rfl rfl, ⟨hf, some (.int q21.1), q21.2, gp_X8_take (n := n) (r := r)  e22, fun _ => fj_in h23 (fun c24 h25 => hK _ h25 _ hQ) (fun c24 h25 => ⟨rfl, Or.inl rfl, fj_rt h25 hQ⟩)⟩⟩⟩⟩)⟩⟩⟩⟩⟩⟩⟩⟩, fun c11 => absurd c11 (by decide)⟩) (fun c9 h10 => ⟨fn_aF hf rfl rfl, Or.inl ⟨_, hf.2 68 0 1 rfl, fj_bd h10 fun q26 e27 h28 => ⟨Nat.le_of_ble_eq_true rfl, fn_aF hf rfl rfl, ⟨hf, some (.int q26.1), q26.2, gp_X8_fail (n := n) (r := r)  e27, fun _ => fj_gd h28 fun g30 h29 => ⟨rfl, bl_t g30, fj_rt h29 hQ⟩⟩⟩⟩⟩)⟩) (fun c6 h7 => ⟨fn_aF hf rfl rfl, Or.inl ⟨_, hf.2 68 0 1 rfl, fj_bd h7 fun q31 e32 h33 => ⟨Nat.le_of_ble_eq_true rfl, fn_aF hf rfl rfl, ⟨hf, some (.int q31.1), q31.2, gp_X8_kind (n := n) (r := r)  e32, fun _ => fj_in h33 (fun c34 h35 => ⟨fun c36 => ⟨fun c37 => absurd c37 (by decide), fun c37 => fj_bd h35 fun q38 e39 h40 => ⟨Nat.le_of_ble_eq_true rfl, fn_aF hf rfl rfl, ⟨hf, some (.int q38.1), q38.2, gp_X5_readComparison (n := n) (r := r) hr ho e39, fun _ => fj_in h40 (fun c41 h42 => ⟨fun c43 => hK _ h42 _ hQ, fun c43 => absurd c43 (by decide)⟩) (fun c41 h42 => ⟨rfl, Or.inl rfl, fj_rt h42 hQ⟩)⟩⟩⟩, fun c36 => absurd c36 (by decide)⟩) (fun c34 h35 => ⟨fun c44 => absurd c44 (by decide), fun c44 => fj_if h35 (fun c45 h46 => ⟨fun c47 => ⟨fun c48 => absurd c48 (by decide), fun c48 => ⟨fn_aF hf rfl rfl, Or.inl ⟨_, hf.2 68 0 1 rfl, fj_bd h46 fun q49 e50 h51 => ⟨Nat.le_of_ble_eq_true rfl, fn_aF hf rfl rfl, ⟨hf, none, q49.2, gp_X8_step (n := n) (r := r)  e50, fun _ => ⟨rfl, fj_bd h51 fun q52 e53 h54 => ⟨Nat.le_of_ble_eq_true rfl, fn_aF hf rfl rfl, ⟨hf, some (.int q52.1), q52.2, gp_Gx (n := n) (r := r) hr ho e53, fun _ => fj_if h54 (fun c55 h56 => ⟨rfl, Or.inl rfl, fj_rt h56 hQ⟩) (fun c55 h56 => ⟨fn_aF hf rfl rfl, Or.inl ⟨_, hf.2 68 0 1 rfl, fj_bd h56 fun q57 e58 h59 => ⟨Nat.le_of_ble_eq_true rfl, fn_aF hf rfl rfl, ⟨hf, some (.int q57.1), q57.2, gp_X8_take (n := n) (r := r)  e58, fun _ => fj_in h59 (fun c60 h61 => hK _ h61 _ hQ) (fun c60 h61 => ⟨rfl, Or.inl rfl, fj_rt h61 hQ⟩)⟩⟩⟩⟩)⟩⟩⟩⟩⟩⟩⟩⟩, fun c47 => absurd c47 (by decide)⟩) (fun c45 h46 => ⟨fn_aF hf rfl rfl, Or.inl ⟨_, hf.2 68 0 1 rfl, fj_bd h46 fun q62 e63 h64 => ⟨Nat.le_of_ble_eq_true rfl, fn_aF hf rfl rfl, ⟨hf, some (.int q62.1), q62.2, gp_X8_fail (n := n) (r := r)  e63, fun _ => fj_gd h64 fun g66 h65 => ⟨rfl, bl_t g66, fj_rt h65 hQ⟩⟩⟩⟩⟩)⟩)⟩⟩⟩⟩)⟩⟩⟩⟩) (fun c1 h2 => ⟨fn_aF hf rfl rfl, Or.inl ⟨_, hf.2 68 0 1 rfl, fj_bd h2 fun q67 e68 h69 => ⟨Nat.le_of_ble_eq_true rfl, fn_aF hf rfl rfl, ⟨hf, some (.int q67.1), q67.2, gp_X8_kind (n := n) (r := r)  e68, fun _ => fj_in h69 (fun c70 h71 => ⟨fn_aF hf rfl rfl, Or.inl ⟨_, hf.2 68 0 1 rfl, fj_bd h71 fun q72 e73 h74 => ⟨Nat.le_of_ble_eq_true rfl, fn_aF hf rfl rfl, ⟨hf, some (.int q72.1), q72.2, gp_X8_kind (n := n) (r := r)  e73, fun _ => fj_if h74 (fun c75 h76 => ⟨fun c77 => absurd c77 (by decide), fun c77 => fj_if h76 (fun c78 h79 => ⟨fun c80 => ⟨fun c81 => absurd c81 (by decide), fun c81 => ⟨fn_aF hf rfl rfl, Or.inl ⟨_, hf.2 68 0 1 rfl, fj_bd h79 fun q82 e83 h84 => ⟨Nat.le_of_ble_eq_true rfl, fn_aF hf rfl rfl, ⟨hf, none, q82.2, gp_X8_step (n := n) (r := r)  e83, fun _ => ⟨rfl, fj_bd h84 fun q85 e86 h87 => ⟨Nat.le_of_ble_eq_true rfl, fn_aF hf rfl rfl, ⟨hf, some (.int q85.1), q85.2, gp_Gx (n := n) (r := r) hr ho e86, fun _ => fj_if h87 (fun c88 h89 => ⟨rfl, Or.inl rfl, fj_rt h89 hQ⟩) (fun c88 h89 => ⟨fn_aF hf rfl rfl, Or.inl ⟨_, hf.2 68 0 1 rfl, fj_bd h89 fun q90 e91 h92 => ⟨Nat.le_of_ble_eq_true rfl, fn_aF hf rfl rfl, ⟨hf, some (.int q90.1), q90.2, gp_X8_take (n := n) (r := r)  e91, fun _ => fj_in h92 (fun c93 h94 => hK _ h94 _ hQ) (fun c93 h94 => ⟨rfl, Or.inl rfl, fj_rt h94 hQ⟩)⟩⟩⟩⟩)⟩⟩⟩⟩⟩⟩⟩⟩, fun c80 => absurd c80 (by decide)⟩) (fun c78 h79 => ⟨fn_aF hf rfl rfl, Or.inl ⟨_, hf.2 68 0 1 rfl, fj_bd h79 fun q95 e96 h97 => ⟨Nat.le_of_ble_eq_true rfl, fn_aF hf rfl rfl, ⟨hf, some (.int q95.1), q95.2, gp_X8_fail (n := n) (r := r)  e96, fun _ => fj_gd h97 fun g99 h98 => ⟨rfl, bl_t g99, fj_rt h98 hQ⟩⟩⟩⟩⟩)⟩) (fun c75 h76 => ⟨fn_aF hf rfl rfl, Or.inl ⟨_, hf.2 68 0 1 rfl, fj_bd h76 fun q100 e101 h102 => ⟨Nat.le_of_ble_eq_true rfl, fn_aF hf rfl rfl, ⟨hf, some (.int q100.1), q100.2, gp_X8_kind (n := n) (r := r)  e101, fun _ => fj_in h102 (fun c103 h104 => ⟨fun c105 => ⟨fun c106 => absurd c106 (by decide), fun c106 => fj_bd h104 fun q107 e108 h109 => ⟨Nat.le_of_ble_eq_true rfl, fn_aF hf rfl rfl, ⟨hf, some (.int q107.1), q107.2, gp_X5_readComparison (n := n) (r := r) hr ho e108, fun _ => fj_in h109 (fun c110 h111 => ⟨fun c112 => hK _ h111 _ hQ, fun c112 => absurd c112 (by decide)⟩) (fun c110 h111 => ⟨rfl, Or.inl rfl, fj_rt h111 hQ⟩)⟩⟩⟩, fun c105 => absurd c105 (by decide)⟩) (fun c103 h104 => ⟨fun c113 => absurd c113 (by decide), fun c113 => fj_if h104 (fun c114 h115 => ⟨fun c116 => ⟨fun c117 => absurd c117 (by decide), fun c117 => ⟨fn_aF hf rfl rfl, Or.inl ⟨_, hf.2 68 0 1 rfl, fj_bd h115 fun q118 e119 h120 => ⟨Nat.le_of_ble_eq_true rfl, fn_aF hf rfl rfl, ⟨hf, none, q118.2, gp_X8_step (n := n) (r := r)  e119, fun _ => ⟨rfl, fj_bd h120 fun q121 e122 h123 => ⟨Nat.le_of_ble_eq_true rfl, fn_aF hf rfl rfl, ⟨hf, some (.int q121.1), q121.2, gp_Gx (n := n) (r := r) hr ho e122, fun _ => fj_if h123 (fun c124 h125 => ⟨rfl, Or.inl rfl, fj_rt h125 hQ⟩) (fun c124 h125 => ⟨fn_aF hf rfl rfl, Or.inl ⟨_, hf.2 68 0 1 rfl, fj_bd h125 fun q126 e127 h128 => ⟨Nat.le_of_ble_eq_true rfl, fn_aF hf rfl rfl, ⟨hf, some (.int q126.1), q126.2, gp_X8_take (n := n) (r := r)  e127, fun _ => fj_in h128 (fun c129 h130 => hK _ h130 _ hQ) (fun c129 h130 => ⟨rfl, Or.inl rfl, fj_rt h130 hQ⟩)⟩⟩⟩⟩)⟩⟩⟩⟩⟩⟩⟩⟩, fun c116 => absurd c116 (by decide)⟩) (fun c114 h115 => ⟨fn_aF hf rfl rfl, Or.inl ⟨_, hf.2 68 0 1 rfl, fj_bd h115 fun q131 e132 h133 => ⟨Nat.le_of_ble_eq_true rfl, fn_aF hf rfl rfl, ⟨hf, some (.int q131.1), q131.2, gp_X8_fail (n := n) (r := r)  e132, fun _ => fj_gd h133 fun g135 h134 => ⟨rfl, bl_t g135, fj_rt h134 hQ⟩⟩⟩⟩⟩)⟩)⟩⟩⟩⟩)⟩⟩⟩⟩) (fun c70 h71 => ⟨fn_aF hf rfl rfl, Or.inl ⟨_, hf.2 68 0 1 rfl, fj_bd h71 fun q136 e137 h138 => ⟨Nat.le_of_ble_eq_true rfl, fn_aF hf rfl rfl, ⟨hf, none, q136.2, gp_X8_step (n := n) (r := r)  e137, fun _ => ⟨rfl, hK _ h138 _ hQ⟩⟩⟩⟩⟩)⟩⟩⟩⟩))
set_option maxRecDepth 100000 in
theorem t_X5_readOne_139 (f : Nat → Int32 → fm_ → Option (Int32 × fm_)) (o : Nat) {n : Nat} {r : Nat → Nat → Option Nat} (hf : fn_F n r) (ho : is_O o = true) (hr : r 68 1 = some o) {K : S_X5_readOne → Option (Int32 × fm_)} {q : Int32 × fm_} (hK : ∀ s, K s = some q → P_X5_readOne f o n r s q) (x1 : Int32) (x2 : Int32) (x3 : Int32) (x4 : Int32) (m : fm_)
  (h : am_k K (st_X5_readOne f o (Sum.inr ((x1, x2, x3, x4, m)))) = some q) : P_X5_readOne f o n r (Sum.inr ((x1, x2, x3, x4, m))) q := fun Q hQ =>
  am_T.wp (sm_X5_readOne f) (K := am_T m_X5_readOne (sp_X5_readOne f) n Q) (cuts := [2, 139]) (fun _ _ _ _ h => h) 11
    (fj_if h (fun c1 h2 => ⟨rfl, Or.inr rfl, fj_rt h2 hQ⟩) (fun c1 h2 => ⟨fn_aF hf rfl rfl, Or.inl ⟨_, hr, fj_bd h2 fun q3 e4 h5 => ⟨Nat.le_of_ble_eq_true rfl, fn_aO0 hf ho rfl, ⟨hf, none, q3.2, gp_X4_addStep (n := n) (r := r) ho e4, fun _ => ⟨rfl, hK _ h5 _ hQ⟩⟩⟩⟩⟩))
theorem l_X5_readOne (f : Nat → Int32 → fm_ → Option (Int32 × fm_)) (o : Nat) {n : Nat} {r : Nat → Nat → Option Nat} (hf : fn_F n r) (ho : is_O o = true) (hr : r 68 1 = some o) (s : S_X5_readOne) (q : Int32 × fm_) (h : am_lp (st_X5_readOne f o) s = some q) : P_X5_readOne f o n r s q :=
  am_lp_snd (P := P_X5_readOne f o n r) (fun K hK s q h => match s, h with
    | Sum.inl ((x1, x2, m)), h => t_X5_readOne_2 f o hf ho hr (fun s => hK s q) x1 x2 m h
    | Sum.inr ((x1, x2, x3, x4, m)), h => t_X5_readOne_139 f o hf ho hr (fun s => hK s q) x1 x2 x3 x4 m h) s q h
set_option maxRecDepth 100000 in
theorem t_X5_readOne (f : Nat → Int32 → fm_ → Option (Int32 × fm_)) (o : Nat) {n : Nat} {r : Nat → Nat → Option Nat} (hf : fn_F n r) (ho : is_O o = true) (hr : r 68 1 = some o) {q : Int32 × fm_} (p1 : Int32) {m : fm_}
  (h : f_X5_readOne f o p1 m = some q) {Q : Option Value → am_W → Prop} (hQ : Q (en_i q).1 (mk_ n r q.2)) : am_T m_X5_readOne (sp_X5_readOne f) n Q 0 [some (.ref 68), some (.int p1), none, none, none] [] (mk_ n r m) :=
  am_T.wp (sm_X5_readOne f) (K := am_T m_X5_readOne (sp_X5_readOne f) n Q) (cuts := [2, 139]) (fun _ _ _ _ h => h) 4
    (l_X5_readOne f o hf ho hr _ _ h _ hQ)

/-! == X5_readEither == -/
abbrev S_X5_readEither : Type := (Int32 × Int32 × Int32 × Int32 × fm_)
noncomputable def st_X5_readEither (f : Nat → Int32 → fm_ → Option (Int32 × fm_)) (o : Nat) (s : S_X5_readEither) : Option (S_X5_readEither ⊕ (Int32 × fm_)) := match s with
  | (x1, x2, x3, x4, m) =>
    (if 50 < x4 then
((some (Sum.inr (0, m))))
else
(Option.bind (f o x1 m) fun q3 =>
(if q3.1 = 0 then
((some (Sum.inr (0, q3.2))))
else
(if x3 = 0 then
(Option.bind (f_X8_kind q3.2) fun q10 =>
(if q10.1 = 113 then
(if x2 = 0 then
(Option.bind (f_X8_step q10.2) fun q51 =>
((some (Sum.inl ((x1, x2, 1, (x4 + 1), q51.2))))))
else
(Option.bind (f_X8_step q10.2) fun q57 =>
((some (Sum.inl ((x1, x2, 1, (x4 + 1), q57.2)))))))
else
(if x2 = 0 then
(Option.bind (f_X8_kind q10.2) fun q18 =>
(if q18.1 = 112 then
(Option.bind (f_X8_step q18.2) fun q27 =>
((some (Sum.inl ((x1, 1, 0, (x4 + 1), q27.2))))))
else
((some (Sum.inr (1, q18.2))))))
else
(Option.bind (f_X4_addStep o (-112) q10.2) fun q31 =>
(Option.bind (f_X8_kind q31.2) fun q35 =>
(if q35.1 = 112 then
(Option.bind (f_X8_step q35.2) fun q44 =>
((some (Sum.inl ((x1, 1, 0, (x4 + 1), q44.2))))))
else
((some (Sum.inr (1, q35.2))))))))))
else
(Option.bind (f_X4_addStep o (-113) q3.2) fun q60 =>
(Option.bind (f_X8_kind q60.2) fun q63 =>
(if q63.1 = 113 then
(if x2 = 0 then
(Option.bind (f_X8_step q63.2) fun q104 =>
((some (Sum.inl ((x1, x2, 1, (x4 + 1), q104.2))))))
else
(Option.bind (f_X8_step q63.2) fun q110 =>
((some (Sum.inl ((x1, x2, 1, (x4 + 1), q110.2)))))))
else
(if x2 = 0 then
(Option.bind (f_X8_kind q63.2) fun q71 =>
(if q71.1 = 112 then
(Option.bind (f_X8_step q71.2) fun q80 =>
((some (Sum.inl ((x1, 1, 0, (x4 + 1), q80.2))))))
else
((some (Sum.inr (1, q71.2))))))
else
(Option.bind (f_X4_addStep o (-112) q63.2) fun q84 =>
(Option.bind (f_X8_kind q84.2) fun q88 =>
(if q88.1 = 112 then
(Option.bind (f_X8_step q88.2) fun q97 =>
((some (Sum.inl ((x1, 1, 0, (x4 + 1), q97.2))))))
else
((some (Sum.inr (1, q88.2)))))))))))))))
noncomputable def f_X5_readEither_7 (f : Nat → Int32 → fm_ → Option (Int32 × fm_)) (o : Nat) (x1 : Int32) (x2 : Int32) (x3 : Int32) (x4 : Int32) (m : fm_) : Option (Int32 × fm_) := am_lp (st_X5_readEither f o) ((x1, x2, x3, x4, m))
theorem e_X5_readEither_7 (f : Nat → Int32 → fm_ → Option (Int32 × fm_)) (o : Nat) (x1 : Int32) (x2 : Int32) (x3 : Int32) (x4 : Int32) (m : fm_) : f_X5_readEither_7 f o x1 x2 x3 x4 m =
(if 50 < x4 then
((some (0, m)))
else
(Option.bind (f o x1 m) fun q3 =>
(if q3.1 = 0 then
((some (0, q3.2)))
else
(if x3 = 0 then
(Option.bind (f_X8_kind q3.2) fun q10 =>
(if q10.1 = 113 then
(if x2 = 0 then
(Option.bind (f_X8_step q10.2) fun q51 =>
((f_X5_readEither_7 f o x1 x2 1 (x4 + 1) q51.2)))
else
(Option.bind (f_X8_step q10.2) fun q57 =>
((f_X5_readEither_7 f o x1 x2 1 (x4 + 1) q57.2))))
else
(if x2 = 0 then
(Option.bind (f_X8_kind q10.2) fun q18 =>
(if q18.1 = 112 then
(Option.bind (f_X8_step q18.2) fun q27 =>
((f_X5_readEither_7 f o x1 1 0 (x4 + 1) q27.2)))
else
((some (1, q18.2)))))
else
(Option.bind (f_X4_addStep o (-112) q10.2) fun q31 =>
(Option.bind (f_X8_kind q31.2) fun q35 =>
(if q35.1 = 112 then
(Option.bind (f_X8_step q35.2) fun q44 =>
((f_X5_readEither_7 f o x1 1 0 (x4 + 1) q44.2)))
else
((some (1, q35.2)))))))))
else
(Option.bind (f_X4_addStep o (-113) q3.2) fun q60 =>
(Option.bind (f_X8_kind q60.2) fun q63 =>
(if q63.1 = 113 then
(if x2 = 0 then
(Option.bind (f_X8_step q63.2) fun q104 =>
((f_X5_readEither_7 f o x1 x2 1 (x4 + 1) q104.2)))
else
(Option.bind (f_X8_step q63.2) fun q110 =>
((f_X5_readEither_7 f o x1 x2 1 (x4 + 1) q110.2))))
else
(if x2 = 0 then
(Option.bind (f_X8_kind q63.2) fun q71 =>
(if q71.1 = 112 then
(Option.bind (f_X8_step q71.2) fun q80 =>
((f_X5_readEither_7 f o x1 1 0 (x4 + 1) q80.2)))
else
((some (1, q71.2)))))
else
(Option.bind (f_X4_addStep o (-112) q63.2) fun q84 =>
(Option.bind (f_X8_kind q84.2) fun q88 =>
(if q88.1 = 112 then
(Option.bind (f_X8_step q88.2) fun q97 =>
((f_X5_readEither_7 f o x1 1 0 (x4 + 1) q97.2)))
else
((some (1, q88.2)))))))))))))) :=
  (am_lp_eq _ _).trans (fe_if (rfl) (fe_bd fun q3 => (fe_if (rfl) (fe_if (fe_bd fun q10 => (fe_if (fe_if (fe_bd fun q51 => (rfl)) (fe_bd fun q57 => (rfl))) (fe_if (fe_bd fun q18 => (fe_if (fe_bd fun q27 => (rfl)) (rfl))) (fe_bd fun q31 => (fe_bd fun q35 => (fe_if (fe_bd fun q44 => (rfl)) (rfl))))))) (fe_bd fun q60 => (fe_bd fun q63 => (fe_if (fe_if (fe_bd fun q104 => (rfl)) (fe_bd fun q110 => (rfl))) (fe_if (fe_bd fun q71 => (fe_if (fe_bd fun q80 => (rfl)) (rfl))) (fe_bd fun q84 => (fe_bd fun q88 => (fe_if (fe_bd fun q97 => (rfl)) (rfl))))))))))))
noncomputable def f_X5_readEither (f : Nat → Int32 → fm_ → Option (Int32 × fm_)) (o : Nat) (p1 : Int32) (m : fm_) : Option (Int32 × fm_) :=
  ((f_X5_readEither_7 f o p1 0 0 0 m))
def sp_X5_readEither (f : Nat → Int32 → fm_ → Option (Int32 × fm_)) : am_S := fn_sp [(57, fn_F, Gx_ f), (36, fn_F, G_X4_addStep), (93, fn_F, G_X8_kind), (95, fn_F, G_X8_step)]
theorem sm_X5_readEither (f : Nat → Int32 → fm_ → Option (Int32 × fm_)) : am_Smono (sp_X5_readEither f) := fn_sp_mono _
def P_X5_readEither (f : Nat → Int32 → fm_ → Option (Int32 × fm_)) (o : Nat) (n : Nat) (r : Nat → Nat → Option Nat) (s : S_X5_readEither) (q : Int32 × fm_) : Prop := match s with
  | (x1, x2, x3, x4, m) => ∀ (Q : Option Value → am_W → Prop), Q (en_i q).1 (mk_ n r q.2) → am_T m_X5_readEither (sp_X5_readEither f) n Q 7 [some (.ref 68), some (.int x1), some (.int x2), some (.int x3), some (.int x4)] [] (mk_ n r m)
set_option maxRecDepth 100000 in
theorem t_X5_readEither_7 (f : Nat → Int32 → fm_ → Option (Int32 × fm_)) (o : Nat) {n : Nat} {r : Nat → Nat → Option Nat} (hf : fn_F n r) (ho : is_O o = true) (hr : r 68 1 = some o) {K : S_X5_readEither → Option (Int32 × fm_)} {q : Int32 × fm_} (hK : ∀ s, K s = some q → P_X5_readEither f o n r s q) (x1 : Int32) (x2 : Int32) (x3 : Int32) (x4 : Int32) (m : fm_)
  (h : am_k K (st_X5_readEither f o ((x1, x2, x3, x4, m))) = some q) : P_X5_readEither f o n r ((x1, x2, x3, x4, m)) q := fun Q hQ =>
  am_T.wp (sm_X5_readEither f) (K := am_T m_X5_readEither (sp_X5_readEither f) n Q) (cuts := [7]) (fun _ _ _ _ h => h) 49
    (fj_if h (fun c1 h2 => ⟨rfl, Or.inl rfl, fj_rt h2 hQ⟩) (fun c1 h2 => fj_bd h2 fun q3 e4 h5 => ⟨Nat.le_of_ble_eq_true rfl, fn_aF hf rfl rfl, ⟨hf, some (.int q3.1), q3.2, gp_Gx (n := n) (r := r) hr ho e4, fun _ => fj_in h5 (fun c6 h7 => fj_if h7 (fun c8 h9 => ⟨fn_aF hf rfl rfl, Or.inl ⟨_, hf.2 68 0 1 rfl, fj_bd h9 fun q10 e11 h12 => ⟨Nat.le_of_ble_eq_true rfl, fn_aF hf rfl rfl, ⟨hf, some (.int q10.1), q10.2, gp_X8_kind (n := n) (r := r)  e11, fun _ => fj_in h12 (fun c13 h14 => fj_if h14 (fun c15 h16 => ⟨fun c17 => absurd c17 (by decide), fun c17 => ⟨fn_aF hf rfl rfl, Or.inl ⟨_, hf.2 68 0 1 rfl, fj_bd h16 fun q18 e19 h20 => ⟨Nat.le_of_ble_eq_true rfl, fn_aF hf rfl rfl, ⟨hf, some (.int q18.1), q18.2, gp_X8_kind (n := n) (r := r)  e19, fun _ => fj_in h20 (fun c21 h22 => ⟨fun c23 => absurd c23 (by decide), fun c23 => ⟨fun c24 => absurd c24 (by decide), fun c24 => ⟨rfl, Or.inr rfl, fj_rt h22 hQ⟩⟩⟩) (fun c21 h22 => ⟨fun c25 => absurd c25 (by decide), fun c25 => ⟨fun c26 => ⟨fn_aF hf rfl rfl, Or.inl ⟨_, hf.2 68 0 1 rfl, fj_bd h22 fun q27 e28 h29 => ⟨Nat.le_of_ble_eq_true rfl, fn_aF hf rfl rfl, ⟨hf, none, q27.2, gp_X8_step (n := n) (r := r)  e28, fun _ => ⟨rfl, hK _ h29 _ hQ⟩⟩⟩⟩⟩, fun c26 => absurd c26 (by decide)⟩⟩)⟩⟩⟩⟩⟩) (fun c15 h16 => ⟨fun c30 => absurd c30 (by decide), fun c30 => ⟨fn_aF hf rfl rfl, Or.inl ⟨_, hr, fj_bd h16 fun q31 e32 h33 => ⟨Nat.le_of_ble_eq_true rfl, fn_aO0 hf ho rfl, ⟨hf, none, q31.2, gp_X4_addStep (n := n) (r := r) ho e32, fun _ => ⟨rfl, ⟨fun c34 => absurd c34 (by decide), fun c34 => ⟨fn_aF hf rfl rfl, Or.inl ⟨_, hf.2 68 0 1 rfl, fj_bd h33 fun q35 e36 h37 => ⟨Nat.le_of_ble_eq_true rfl, fn_aF hf rfl rfl, ⟨hf, some (.int q35.1), q35.2, gp_X8_kind (n := n) (r := r)  e36, fun _ => fj_in h37 (fun c38 h39 => ⟨fun c40 => absurd c40 (by decide), fun c40 => ⟨fun c41 => absurd c41 (by decide), fun c41 => ⟨rfl, Or.inr rfl, fj_rt h39 hQ⟩⟩⟩) (fun c38 h39 => ⟨fun c42 => absurd c42 (by decide), fun c42 => ⟨fun c43 => ⟨fn_aF hf rfl rfl, Or.inl ⟨_, hf.2 68 0 1 rfl, fj_bd h39 fun q44 e45 h46 => ⟨Nat.le_of_ble_eq_true rfl, fn_aF hf rfl rfl, ⟨hf, none, q44.2, gp_X8_step (n := n) (r := r)  e45, fun _ => ⟨rfl, hK _ h46 _ hQ⟩⟩⟩⟩⟩, fun c43 => absurd c43 (by decide)⟩⟩)⟩⟩⟩⟩⟩⟩⟩⟩⟩⟩⟩)) (fun c13 h14 => fj_if h14 (fun c47 h48 => ⟨fun c49 => ⟨fun c50 => ⟨fn_aF hf rfl rfl, Or.inl ⟨_, hf.2 68 0 1 rfl, fj_bd h48 fun q51 e52 h53 => ⟨Nat.le_of_ble_eq_true rfl, fn_aF hf rfl rfl, ⟨hf, none, q51.2, gp_X8_step (n := n) (r := r)  e52, fun _ => ⟨rfl, hK _ h53 _ hQ⟩⟩⟩⟩⟩, fun c50 => absurd c50 (by decide)⟩, fun c49 => absurd c49 (by decide)⟩) (fun c47 h48 => ⟨fun c54 => ⟨fun c55 => ⟨fun c56 => ⟨fn_aF hf rfl rfl, Or.inl ⟨_, hf.2 68 0 1 rfl, fj_bd h48 fun q57 e58 h59 => ⟨Nat.le_of_ble_eq_true rfl, fn_aF hf rfl rfl, ⟨hf, none, q57.2, gp_X8_step (n := n) (r := r)  e58, fun _ => ⟨rfl, hK _ h59 _ hQ⟩⟩⟩⟩⟩, fun c56 => absurd c56 (by decide)⟩, fun c55 => absurd c55 (by decide)⟩, fun c54 => absurd c54 (by decide)⟩))⟩⟩⟩⟩) (fun c8 h9 => ⟨fn_aF hf rfl rfl, Or.inl ⟨_, hr, fj_bd h9 fun q60 e61 h62 => ⟨Nat.le_of_ble_eq_true rfl, fn_aO0 hf ho rfl, ⟨hf, none, q60.2, gp_X4_addStep (n := n) (r := r) ho e61, fun _ => ⟨rfl, ⟨fn_aF hf rfl rfl, Or.inl ⟨_, hf.2 68 0 1 rfl, fj_bd h62 fun q63 e64 h65 => ⟨Nat.le_of_ble_eq_true rfl, fn_aF hf rfl rfl, ⟨hf, some (.int q63.1), q63.2, gp_X8_kind (n := n) (r := r)  e64, fun _ => fj_in h65 (fun c66 h67 => fj_if h67 (fun c68 h69 => ⟨fun c70 => absurd c70 (by decide), fun c70 => ⟨fn_aF hf rfl rfl, Or.inl ⟨_, hf.2 68 0 1 rfl, fj_bd h69 fun q71 e72 h73 => ⟨Nat.le_of_ble_eq_true rfl, fn_aF hf rfl rfl, ⟨hf, some (.int q71.1), q71.2, gp_X8_kind (n := n) (r := r)  e72, fun _ => fj_in h73 (fun c74 h75 => ⟨fun c76 => absurd c76 (by decide), fun c76 => ⟨fun c77 => absurd c77 (by decide), fun c77 => ⟨rfl, Or.inr rfl, fj_rt h75 hQ⟩⟩⟩) (fun c74 h75 => ⟨fun c78 => absurd c78 (by decide), fun c78 => ⟨fun c79 => ⟨fn_aF hf rfl rfl, Or.inl ⟨_, hf.2 68 0 1 rfl, fj_bd h75 fun q80 e81 h82 => ⟨Nat.le_of_ble_eq_true rfl, fn_aF hf rfl rfl, ⟨hf, none, q80.2, gp_X8_step (n := n) (r := r)  e81, fun _ => ⟨rfl, hK _ h82 _ hQ⟩⟩⟩⟩⟩, fun c79 => absurd c79 (by decide)⟩⟩)⟩⟩⟩⟩⟩) (fun c68 h69 => ⟨fun c83 => absurd c83 (by decide), fun c83 => ⟨fn_aF hf rfl rfl, Or.inl ⟨_, hr, fj_bd h69 fun q84 e85 h86 => ⟨Nat.le_of_ble_eq_true rfl, fn_aO0 hf ho rfl, ⟨hf, none, q84.2, gp_X4_addStep (n := n) (r := r) ho e85, fun _ => ⟨rfl, ⟨fun c87 => absurd c87 (by decide), fun c87 => ⟨fn_aF hf rfl rfl, Or.inl ⟨_, hf.2 68 0 1 rfl, fj_bd h86 fun q88 e89 h90 => ⟨Nat.le_of_ble_eq_true rfl, fn_aF hf rfl rfl, ⟨hf, some (.int q88.1), q88.2, gp_X8_kind (n := n) (r := r)  e89, fun _ => fj_in h90 (fun c91 h92 => ⟨fun c93 => absurd c93 (by decide), fun c93 => ⟨fun c94 => absurd c94 (by decide), fun c94 => ⟨rfl, Or.inr rfl, fj_rt h92 hQ⟩⟩⟩) (fun c91 h92 => ⟨fun c95 => absurd c95 (by decide), fun c95 => ⟨fun c96 => ⟨fn_aF hf rfl rfl, Or.inl ⟨_, hf.2 68 0 1 rfl, fj_bd h92 fun q97 e98 h99 => ⟨Nat.le_of_ble_eq_true rfl, fn_aF hf rfl rfl, ⟨hf, none, q97.2, gp_X8_step (n := n) (r := r)  e98, fun _ => ⟨rfl, hK _ h99 _ hQ⟩⟩⟩⟩⟩, fun c96 => absurd c96 (by decide)⟩⟩)⟩⟩⟩⟩⟩⟩⟩⟩⟩⟩⟩)) (fun c66 h67 => fj_if h67 (fun c100 h101 => ⟨fun c102 => ⟨fun c103 => ⟨fn_aF hf rfl rfl, Or.inl ⟨_, hf.2 68 0 1 rfl, fj_bd h101 fun q104 e105 h106 => ⟨Nat.le_of_ble_eq_true rfl, fn_aF hf rfl rfl, ⟨hf, none, q104.2, gp_X8_step (n := n) (r := r)  e105, fun _ => ⟨rfl, hK _ h106 _ hQ⟩⟩⟩⟩⟩, fun c103 => absurd c103 (by decide)⟩, fun c102 => absurd c102 (by decide)⟩) (fun c100 h101 => ⟨fun c107 => ⟨fun c108 => ⟨fun c109 => ⟨fn_aF hf rfl rfl, Or.inl ⟨_, hf.2 68 0 1 rfl, fj_bd h101 fun q110 e111 h112 => ⟨Nat.le_of_ble_eq_true rfl, fn_aF hf rfl rfl, ⟨hf, none, q110.2, gp_X8_step (n := n) (r := r)  e111, fun _ => ⟨rfl, hK _ h112 _ hQ⟩⟩⟩⟩⟩, fun c109 => absurd c109 (by decide)⟩, fun c108 => absurd c108 (by decide)⟩, fun c107 => absurd c107 (by decide)⟩))⟩⟩⟩⟩⟩⟩⟩⟩⟩)) (fun c6 h7 => ⟨rfl, Or.inl rfl, fj_rt h7 hQ⟩)⟩⟩))
theorem l_X5_readEither (f : Nat → Int32 → fm_ → Option (Int32 × fm_)) (o : Nat) {n : Nat} {r : Nat → Nat → Option Nat} (hf : fn_F n r) (ho : is_O o = true) (hr : r 68 1 = some o) (s : S_X5_readEither) (q : Int32 × fm_) (h : am_lp (st_X5_readEither f o) s = some q) : P_X5_readEither f o n r s q :=
  am_lp_snd (P := P_X5_readEither f o n r) (fun K hK s q h => match s, h with
    | (x1, x2, x3, x4, m), h => t_X5_readEither_7 f o hf ho hr (fun s => hK s q) x1 x2 x3 x4 m h) s q h
set_option maxRecDepth 100000 in
theorem t_X5_readEither (f : Nat → Int32 → fm_ → Option (Int32 × fm_)) (o : Nat) {n : Nat} {r : Nat → Nat → Option Nat} (hf : fn_F n r) (ho : is_O o = true) (hr : r 68 1 = some o) {q : Int32 × fm_} (p1 : Int32) {m : fm_}
  (h : f_X5_readEither f o p1 m = some q) {Q : Option Value → am_W → Prop} (hQ : Q (en_i q).1 (mk_ n r q.2)) : am_T m_X5_readEither (sp_X5_readEither f) n Q 0 [some (.ref 68), some (.int p1), none, none, none] [] (mk_ n r m) :=
  am_T.wp (sm_X5_readEither f) (K := am_T m_X5_readEither (sp_X5_readEither f) n Q) (cuts := [7]) (fun _ _ _ _ h => h) 8
    (l_X5_readEither f o hf ho hr _ _ h _ hQ)

noncomputable def rd_E : Nat → Nat → Int32 → fm_ → Option (Int32 × fm_)
  | 0 => fun _ _ _ => none
  | d + 1 => fun o p m => f_X5_readEither (fun o p m => f_X5_readOne (rd_E d) o p m) o p m
noncomputable def rd_O (d : Nat) : Nat → Int32 → fm_ → Option (Int32 × fm_) := fun o p m => f_X5_readOne (rd_E d) o p m
set_option maxRecDepth 100000 in
theorem ok_X5_readOne : am_mok 5 57 m_X5_readOne = true := by decide +kernel
set_option maxRecDepth 100000 in
theorem cr_X5_readOne (l : Launch) {g : am_G} (hg : fx_ l g) {d : Nat} (hd : 3 ≤ d) {f : Nat → Int32 → fm_ → Option (Int32 × fm_)} (hm1 : am_Met l g d 56 (fn_s fn_F (Gx_ f))) : am_Met l g (d + 1) 57 (fn_s fn_F (Gx_ (fun o p m => f_X5_readOne f o p m))) := by
  refine am_sound (own := 5) (M := m_X5_readOne) (SP := sp_X5_readOne f) hg.1 (by decide +kernel) ok_X5_readOne (by decide +kernel) ?_ (fun q hq hk => absurd hk (am_no61 (M := m_X5_readOne) (by decide +kernel) q hq)) (fn_ext l _ rfl g 5) (Or.inl (by decide +kernel)) ?_ ?_
  · intro q hq hk
    have hm : q.2.2.2.1 ∈ am_cs m_X5_readOne := am_cs_in hq hk
    rw [show am_cs m_X5_readOne = [93, 95, 93, 93, 96, 58, 95, 56, 97, 36] by decide +kernel] at hm
    have hm : q.2.2.2.1 ∈ [36, 56, 58, 93, 95, 96, 97] := (List.all_eq_true.mp (show ([93, 95, 93, 93, 96, 58, 95, 56, 97, 36] : List Nat).all (fun a => decide (a ∈ ([36, 56, 58, 93, 95, 96, 97] : List Nat))) = true by decide +kernel) _ hm |> of_decide_eq_true)
    simp only [List.mem_cons, List.not_mem_nil, or_false] at hm
    rcases hm with hm | hm | hm | hm | hm | hm | hm
    · rw [hm]; exact ⟨0, by omega, c_X4_addStep l hg⟩
    · rw [hm]; exact ⟨d, by omega, hm1⟩
    · rw [hm]; exact ⟨2, by omega, c_X5_readComparison l hg⟩
    · rw [hm]; exact ⟨0, by omega, c_X8_kind l hg⟩
    · rw [hm]; exact ⟨0, by omega, c_X8_step l hg⟩
    · rw [hm]; exact ⟨0, by omega, c_X8_fail l hg⟩
    · rw [hm]; exact ⟨1, by omega, c_X8_take l hg⟩
  · intro as w K h
    obtain ⟨hf, y, m1, hG, hK⟩ := h
    unfold Gx_ at hG
    split at hG
    · exact Nat.le_of_ble_eq_true rfl
    · cases hG
  · intro as w K h
    obtain ⟨n, i0, l0, r⟩ := w
    obtain ⟨hf, y, m1, hG, hK⟩ := h
    unfold Gx_ at hG
    split at hG
    · next x0 p1 =>
      obtain ⟨hx1, hG1⟩ := gd_u hG
      obtain ⟨o, hr, hG8⟩ := fn_or_u hG1
      obtain ⟨ho, hG9⟩ := gd_u hG8
      obtain rfl := Nat.eq_of_beq_eq_true hx1
      obtain ⟨q, hq, he⟩ := fn_mu hG9
      obtain ⟨rfl, rfl⟩ := Prod.mk.inj he
      exact t_X5_readOne f o hf ho hr p1 (m := (i0, l0)) hq hK
    · cases hG
set_option maxRecDepth 100000 in
theorem ok_X5_readEither : am_mok 5 56 m_X5_readEither = true := by decide +kernel
set_option maxRecDepth 100000 in
theorem cr_X5_readEither (l : Launch) {g : am_G} (hg : fx_ l g) {d : Nat} (hd : 3 ≤ d) {f : Nat → Int32 → fm_ → Option (Int32 × fm_)} (hm1 : am_Met l g d 57 (fn_s fn_F (Gx_ f))) : am_Met l g (d + 1) 56 (fn_s fn_F (Gx_ (fun o p m => f_X5_readEither f o p m))) := by
  refine am_sound (own := 5) (M := m_X5_readEither) (SP := sp_X5_readEither f) hg.1 (by decide +kernel) ok_X5_readEither (by decide +kernel) ?_ (fun q hq hk => absurd hk (am_no61 (M := m_X5_readEither) (by decide +kernel) q hq)) (fn_ext l _ rfl g 5) (Or.inl (by decide +kernel)) ?_ ?_
  · intro q hq hk
    have hm : q.2.2.2.1 ∈ am_cs m_X5_readEither := am_cs_in hq hk
    rw [show am_cs m_X5_readEither = [57, 36, 93, 36, 93, 95] by decide +kernel] at hm
    have hm : q.2.2.2.1 ∈ [36, 57, 93, 95] := (List.all_eq_true.mp (show ([57, 36, 93, 36, 93, 95] : List Nat).all (fun a => decide (a ∈ ([36, 57, 93, 95] : List Nat))) = true by decide +kernel) _ hm |> of_decide_eq_true)
    simp only [List.mem_cons, List.not_mem_nil, or_false] at hm
    rcases hm with hm | hm | hm | hm
    · rw [hm]; exact ⟨0, by omega, c_X4_addStep l hg⟩
    · rw [hm]; exact ⟨d, by omega, hm1⟩
    · rw [hm]; exact ⟨0, by omega, c_X8_kind l hg⟩
    · rw [hm]; exact ⟨0, by omega, c_X8_step l hg⟩
  · intro as w K h
    obtain ⟨hf, y, m1, hG, hK⟩ := h
    unfold Gx_ at hG
    split at hG
    · exact Nat.le_of_ble_eq_true rfl
    · cases hG
  · intro as w K h
    obtain ⟨n, i0, l0, r⟩ := w
    obtain ⟨hf, y, m1, hG, hK⟩ := h
    unfold Gx_ at hG
    split at hG
    · next x0 p1 =>
      obtain ⟨hx1, hG1⟩ := gd_u hG
      obtain ⟨o, hr, hG8⟩ := fn_or_u hG1
      obtain ⟨ho, hG9⟩ := gd_u hG8
      obtain rfl := Nat.eq_of_beq_eq_true hx1
      obtain ⟨q, hq, he⟩ := fn_mu hG9
      obtain ⟨rfl, rfl⟩ := Prod.mk.inj he
      exact t_X5_readEither f o hf ho hr p1 (m := (i0, l0)) hq hK
    · cases hG
theorem cr_rd (l : Launch) {g : am_G} (hg : fx_ l g) : ∀ d : Nat, am_Met l g (3 + 2 * d) 56 (fn_s fn_F (Gx_ (rd_E d)))
  | 0 => by
    intro as w K h
    obtain ⟨_, y, m1, hG, _⟩ := h
    unfold Gx_ at hG
    split at hG
    · obtain ⟨_, hG⟩ := gd_u hG
      obtain ⟨o, _, hG⟩ := fn_or_u hG
      obtain ⟨_, hG⟩ := gd_u hG
      cases hG
    · cases hG
  | d + 1 => cr_X5_readEither l hg (d := 3 + 2 * d + 1) (by omega) (cr_X5_readOne l hg (d := 3 + 2 * d) (by omega) (cr_rd l hg d))
theorem c_X5_readEither (l : Launch) {g : am_G} (hg : fx_ l g) : am_Met l g 21 56 (fn_s fn_F (Gx_ (rd_E 9))) := cr_rd l hg 9

/-! == X5_readWhen == -/
noncomputable def f_X5_readWhen (o : Nat)  (m : fm_) : Option (Int32 × fm_) :=
  (Option.bind (f_X8_take 111 m) fun q1 =>
(if q1.1 = 0 then
((some (0, q1.2)))
else
(Option.bind (rd_E 9 o 0 q1.2) fun q6 =>
(if q6.1 = 0 then
((some (0, q6.2)))
else
(Option.bind (f_X4_addStep o (-100) q6.2) fun q11 =>
((some (1, q11.2))))))))
def sp_X5_readWhen : am_S := fn_sp [(97, fn_F, G_X8_take), (56, fn_F, Gx_ (rd_E 9)), (36, fn_F, G_X4_addStep)]
theorem sm_X5_readWhen : am_Smono (sp_X5_readWhen) := fn_sp_mono _
set_option maxRecDepth 100000 in
theorem t_X5_readWhen (o : Nat) {n : Nat} {r : Nat → Nat → Option Nat} (hf : fn_F n r) (ho : is_O o = true) (hr : r 68 1 = some o) {q : Int32 × fm_}  {m : fm_}
  (h : f_X5_readWhen o  m = some q) {Q : Option Value → am_W → Prop} (hQ : Q (en_i q).1 (mk_ n r q.2)) : am_T m_X5_readWhen sp_X5_readWhen n Q 0 [some (.ref 68)] [] (mk_ n r m) :=
  am_T.wp sm_X5_readWhen (K := am_T m_X5_readWhen sp_X5_readWhen n Q) (cuts := []) (fun _ _ _ _ h => h) 16
    (⟨fn_aF hf rfl rfl, Or.inl ⟨_, hf.2 68 0 1 rfl, fh_bd h fun q1 e2 h3 => ⟨Nat.le_of_ble_eq_true rfl, fn_aF hf rfl rfl, ⟨hf, some (.int q1.1), q1.2, gp_X8_take (n := n) (r := r)  e2, fun _ => fh_if h3 (fun c4 h5 => ⟨rfl, Or.inl rfl, fh_rt h5 hQ⟩) (fun c4 h5 => fh_bd h5 fun q6 e7 h8 => ⟨Nat.le_of_ble_eq_true rfl, fn_aF hf rfl rfl, ⟨hf, some (.int q6.1), q6.2, gp_Gx (n := n) (r := r) hr ho e7, fun _ => fh_in h8 (fun c9 h10 => ⟨fn_aF hf rfl rfl, Or.inl ⟨_, hr, fh_bd h10 fun q11 e12 h13 => ⟨Nat.le_of_ble_eq_true rfl, fn_aO0 hf ho rfl, ⟨hf, none, q11.2, gp_X4_addStep (n := n) (r := r) ho e12, fun _ => ⟨rfl, ⟨rfl, Or.inr rfl, fh_rt h13 hQ⟩⟩⟩⟩⟩⟩) (fun c9 h10 => ⟨rfl, Or.inl rfl, fh_rt h10 hQ⟩)⟩⟩)⟩⟩⟩⟩)
noncomputable def G_X5_readWhen (n : Nat) (r : Nat → Nat → Option Nat) (as : List Value) (m : fm_) : Option (Option Value × fm_) := match as with
  | [.ref x0] => gd_ (Nat.beq x0 68) (fn_or (r 68 1) fun o => gd_ (is_O o) ((f_X5_readWhen o m).map en_i))
  | _ => none
set_option maxRecDepth 100000 in
theorem gp_X5_readWhen {n : Nat} {r : Nat → Nat → Option Nat} {o : Nat}  {m : fm_} {q : Int32 × fm_} (hr : r 68 1 = some o) (ho : is_O o = true) (e : f_X5_readWhen o m = some q) : G_X5_readWhen n r [.ref 68] m = some (en_i q) := by
  show (gd_ (Nat.beq 68 68) (fn_or (r 68 1) fun o => gd_ (is_O o) ((f_X5_readWhen o m).map en_i))) = _
  exact fn_gd rfl (fn_68 hr (fn_gd ho (fn_mp e)))
set_option maxRecDepth 100000 in
theorem ok_X5_readWhen : am_mok 5 55 m_X5_readWhen = true := by decide +kernel
set_option maxRecDepth 100000 in
theorem c_X5_readWhen (l : Launch) {g : am_G} (hg : fx_ l g) : am_Met l g 22 55 (fn_s fn_F G_X5_readWhen) := by
  refine am_sound (own := 5) (M := m_X5_readWhen) (SP := sp_X5_readWhen) hg.1 (by decide +kernel) ok_X5_readWhen (by decide +kernel) ?_ (fun q hq hk => absurd hk (am_no61 (M := m_X5_readWhen) (by decide +kernel) q hq)) (fn_ext l _ rfl g 5) (Or.inl (by decide +kernel)) ?_ ?_
  · intro q hq hk
    have hm : q.2.2.2.1 ∈ am_cs m_X5_readWhen := am_cs_in hq hk
    rw [show am_cs m_X5_readWhen = [97, 56, 36] by decide +kernel] at hm
    have hm : q.2.2.2.1 ∈ [36, 56, 97] := (List.all_eq_true.mp (show ([97, 56, 36] : List Nat).all (fun a => decide (a ∈ ([36, 56, 97] : List Nat))) = true by decide +kernel) _ hm |> of_decide_eq_true)
    simp only [List.mem_cons, List.not_mem_nil, or_false] at hm
    rcases hm with hm | hm | hm
    · rw [hm]; exact ⟨0, by omega, c_X4_addStep l hg⟩
    · rw [hm]; exact ⟨21, by omega, c_X5_readEither l hg⟩
    · rw [hm]; exact ⟨1, by omega, c_X8_take l hg⟩
  · intro as w K h
    obtain ⟨hf, y, m1, hG, hK⟩ := h
    unfold G_X5_readWhen at hG
    split at hG
    · exact Nat.le_of_ble_eq_true rfl
    · cases hG
  · intro as w K h
    obtain ⟨n, i0, l0, r⟩ := w
    obtain ⟨hf, y, m1, hG, hK⟩ := h
    unfold G_X5_readWhen at hG
    split at hG
    · next x0 =>
      obtain ⟨hx1, hG1⟩ := gd_u hG
      obtain ⟨o, hr, hG8⟩ := fn_or_u hG1
      obtain ⟨ho, hG9⟩ := gd_u hG8
      obtain rfl := Nat.eq_of_beq_eq_true hx1
      obtain ⟨q, hq, he⟩ := fn_mu hG9
      obtain ⟨rfl, rfl⟩ := Prod.mk.inj he
      exact t_X5_readWhen o hf ho hr  (m := (i0, l0)) hq hK
    · cases hG

