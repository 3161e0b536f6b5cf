/-! == X10_costLeft == -/
noncomputable def f_X10_costLeft (p1 : Int32) (p2 : Int32) (p3 : Int32) (p4 : Int32) (m : fm_) : Option (Int32 × fm_) :=
  (gd_ (ix_ p1 20)
(gd_ (ix_ p1 20)
(if p3 = 0 then
(Option.bind (f_X9_beside p2 (gi_ m 100 (Int32.toNatClampNeg p1)) m) fun q7 =>
(Option.bind (f_X9_byZone p2 (gi_ m 100 (Int32.toNatClampNeg p1)) q7.2) fun q10 =>
((some ((mn_ (q7.1 * (gi_ m 102 (Int32.toNatClampNeg p1))) ((q10.1 * (gi_ m 102 (Int32.toNatClampNeg p1))) + p4)), q10.2)))))
else
(Option.bind (f_X9_near p2 (gi_ m 100 (Int32.toNatClampNeg p1)) m) fun q13 =>
((some ((q13.1 * (gi_ m 102 (Int32.toNatClampNeg p1))), q13.2)))))))
def sp_X10_costLeft : am_S := fn_sp [(118, fn_T, G_X9_near), (119, fn_F, G_X9_beside), (120, fn_F, G_X9_byZone)]
theorem sm_X10_costLeft : am_Smono (sp_X10_costLeft) := fn_sp_mono _
set_option maxRecDepth 100000 in
theorem t_X10_costLeft {n : Nat} {r : Nat → Nat → Option Nat} (hf : fn_F n r) {q : Int32 × fm_} (p1 : Int32) (p2 : Int32) (p3 : Int32) (p4 : Int32) {m : fm_}
  (h : f_X10_costLeft p1 p2 p3 p4 m = some q) {Q : Option Value → am_W → Prop} (hQ : Q (en_i q).1 (mk_ n r q.2)) : am_T m_X10_costLeft sp_X10_costLeft n Q 0 [some (.ref 98), some (.int p1), some (.int p2), some (.int p3), some (.int p4), none, none, none] [] (mk_ n r m) :=
  am_T.wp sm_X10_costLeft (K := am_T m_X10_costLeft sp_X10_costLeft n Q) (cuts := []) (fun _ _ _ _ h => h) 33
    (⟨fn_aF hf rfl rfl, Or.inl ⟨_, hf.2 98 5 102 rfl, fh_gd h fun g2 h1 => ⟨20, fn_aF hf rfl rfl, ix_t g2, ⟨fn_aF hf rfl rfl, Or.inl ⟨_, hf.2 98 3 100 rfl, fh_gd h1 fun g4 h3 => ⟨20, fn_aF hf rfl rfl, ix_t g4, fh_if h3 (fun c5 h6 => ⟨fn_aF hf rfl rfl, Or.inl ⟨_, hf.2 98 0 6 rfl, fh_bd h6 fun q7 e8 h9 => ⟨Nat.le_of_ble_eq_true rfl, fn_aF hf rfl rfl, ⟨hf, some (.int q7.1), q7.2, gp_X9_beside (n := n) (r := r)  e8, fun _ => ⟨fn_aF hf rfl rfl, Or.inl ⟨_, hf.2 98 0 6 rfl, fh_bd h9 fun q10 e11 h12 => ⟨Nat.le_of_ble_eq_true rfl, fn_aF hf rfl rfl, ⟨hf, some (.int q10.1), q10.2, gp_X9_byZone (n := n) (r := r)  e11, fun _ => ⟨Nat.le_of_ble_eq_true rfl, ⟨rfl, fh_rt h12 hQ⟩⟩⟩⟩⟩⟩⟩⟩⟩⟩) (fun c5 h6 => ⟨fn_aF hf rfl rfl, Or.inl ⟨_, hf.2 98 0 6 rfl, fh_bd h6 fun q13 e14 h15 => ⟨Nat.le_of_ble_eq_true rfl, fn_aF hf rfl rfl, ⟨fn_FT hf, some (.int q13.1), q13.2, gp_X9_near (n := n) (r := r)  e14, fun _ => ⟨rfl, fh_rt h15 hQ⟩⟩⟩⟩⟩)⟩⟩⟩⟩⟩⟩)
noncomputable def G_X10_costLeft (n : Nat) (r : Nat → Nat → Option Nat) (as : List Value) (m : fm_) : Option (Option Value × fm_) := match as with
  | [.ref x0, .int p1, .int p2, .int p3, .int p4] => gd_ (Nat.beq x0 98) ((f_X10_costLeft p1 p2 p3 p4 m).map en_i)
  | _ => none
set_option maxRecDepth 100000 in
theorem gp_X10_costLeft {n : Nat} {r : Nat → Nat → Option Nat}  {p1 : Int32} {p2 : Int32} {p3 : Int32} {p4 : Int32} {m : fm_} {q : Int32 × fm_}  (e : f_X10_costLeft p1 p2 p3 p4 m = some q) : G_X10_costLeft n r [.ref 98, .int p1, .int p2, .int p3, .int p4] m = some (en_i q) := by
  show (gd_ (Nat.beq 98 98) ((f_X10_costLeft p1 p2 p3 p4 m).map en_i)) = _
  exact fn_gd rfl (fn_mp e)
set_option maxRecDepth 100000 in
theorem ok_X10_costLeft : am_mok 10 144 m_X10_costLeft = true := by decide +kernel
set_option maxRecDepth 100000 in
theorem c_X10_costLeft (l : Launch) {g : am_G} (hg : fx_ l g) : am_Met l g 2 144 (fn_s fn_F G_X10_costLeft) := by
  refine am_sound (own := 10) (M := m_X10_costLeft) (SP := sp_X10_costLeft) hg.1 (by decide +kernel) ok_X10_costLeft (by decide +kernel) ?_ (fun q hq hk => absurd hk (am_no61 (M := m_X10_costLeft) (by decide +kernel) q hq)) (fn_ext l _ rfl g 10) (Or.inl (by decide +kernel)) ?_ ?_
  · intro q hq hk
    have hm : q.2.2.2.1 ∈ am_cs m_X10_costLeft := am_cs_in hq hk
    rw [show am_cs m_X10_costLeft = [118, 119, 120] by decide +kernel] at hm
    have hm : q.2.2.2.1 ∈ [118, 119, 120] := (List.all_eq_true.mp (show ([118, 119, 120] : List Nat).all (fun a => decide (a ∈ ([118, 119, 120] : List Nat))) = true by decide +kernel) _ hm |> of_decide_eq_true)
    simp only [List.mem_cons, List.not_mem_nil, or_false] at hm
    rcases hm with hm | hm | hm
    · rw [hm]; exact ⟨1, by omega, c_X9_near l hg⟩
    · rw [hm]; exact ⟨1, by omega, c_X9_beside l hg⟩
    · rw [hm]; exact ⟨1, by omega, c_X9_byZone l hg⟩
  · intro as w K h
    obtain ⟨hf, y, m1, hG, hK⟩ := h
    unfold G_X10_costLeft at hG
    split at hG
    · exact Nat.le_of_ble_eq_true rfl
    · cases hG
  · intro as w K h
    obtain ⟨n, i0, l0, r⟩ := w
    obtain ⟨hf, y, m1, hG, hK⟩ := h
    unfold G_X10_costLeft at hG
    split at hG
    · next x0 p1 p2 p3 p4 =>
      obtain ⟨hx1, hG1⟩ := gd_u hG
      obtain rfl := Nat.eq_of_beq_eq_true hx1
      obtain ⟨q, hq, he⟩ := fn_mu hG1
      obtain ⟨rfl, rfl⟩ := Prod.mk.inj he
      exact t_X10_costLeft  hf  p1 p2 p3 p4 (m := (i0, l0)) hq hK
    · cases hG

/-! == X10_nextPoint == -/
abbrev S_X10_nextPoint : Type := (Int32 × Int32 × Int32 × Int32 × Int32 × Int32 × fm_)
noncomputable def st_X10_nextPoint (s : S_X10_nextPoint) : Option (S_X10_nextPoint ⊕ (Int32 × fm_)) := match s with
  | (x1, x2, x3, x4, x5, x6, m) =>
    (if 12 ≤ x6 then
((some (Sum.inr ((-1), m))))
else
(Option.bind (f_X9_hop x2 x6 m) fun q3 =>
(if q3.1 = (-1) then
((some (Sum.inl ((x1, x2, x3, x4, x5, (x6 + 1), q3.2)))))
else
(if x3 = 0 then
(Option.bind (f_X9_isZone x6 q3.2) fun q28 =>
(if q28.1 = 0 then
(Option.bind (f_X9_hopMinutes x2 x6 q28.2) fun q33 =>
(gd_ (ix_ x1 20)
(Option.bind (f_X10_costLeft x1 x6 0 x4 q33.2) fun q39 =>
(if (((q33.1 * (gi_ q33.2 102 (Int32.toNatClampNeg x1))) + 0) + q39.1) = x5 then
((some (Sum.inr (x6, q39.2))))
else
((some (Sum.inl ((x1, x2, x3, x4, x5, (x6 + 1), q39.2)))))))))
else
(Option.bind (f_X9_hopMinutes x2 x6 q28.2) fun q44 =>
(gd_ (ix_ x1 20)
(if x3 = 0 then
(Option.bind (f_X10_costLeft x1 x6 1 x4 q44.2) fun q57 =>
(if (((q44.1 * (gi_ q44.2 102 (Int32.toNatClampNeg x1))) + x4) + q57.1) = x5 then
((some (Sum.inr (x6, q57.2))))
else
((some (Sum.inl ((x1, x2, x3, x4, x5, (x6 + 1), q57.2)))))))
else
(Option.bind (f_X10_costLeft x1 x6 1 x4 q44.2) fun q52 =>
(if (((q44.1 * (gi_ q44.2 102 (Int32.toNatClampNeg x1))) + 0) + q52.1) = x5 then
((some (Sum.inr (x6, q52.2))))
else
((some (Sum.inl ((x1, x2, x3, x4, x5, (x6 + 1), q52.2))))))))))))
else
(Option.bind (f_X9_hopMinutes x2 x6 q3.2) fun q10 =>
(gd_ (ix_ x1 20)
(if x3 = 0 then
(Option.bind (f_X10_costLeft x1 x6 1 x4 q10.2) fun q23 =>
(if (((q10.1 * (gi_ q10.2 102 (Int32.toNatClampNeg x1))) + x4) + q23.1) = x5 then
((some (Sum.inr (x6, q23.2))))
else
((some (Sum.inl ((x1, x2, x3, x4, x5, (x6 + 1), q23.2)))))))
else
(Option.bind (f_X10_costLeft x1 x6 1 x4 q10.2) fun q18 =>
(if (((q10.1 * (gi_ q10.2 102 (Int32.toNatClampNeg x1))) + 0) + q18.1) = x5 then
((some (Sum.inr (x6, q18.2))))
else
((some (Sum.inl ((x1, x2, x3, x4, x5, (x6 + 1), q18.2))))))))))))))
noncomputable def f_X10_nextPoint_14 (x1 : Int32) (x2 : Int32) (x3 : Int32) (x4 : Int32) (x5 : Int32) (x6 : Int32) (m : fm_) : Option (Int32 × fm_) := am_lp (st_X10_nextPoint) ((x1, x2, x3, x4, x5, x6, m))
theorem e_X10_nextPoint_14 (x1 : Int32) (x2 : Int32) (x3 : Int32) (x4 : Int32) (x5 : Int32) (x6 : Int32) (m : fm_) : f_X10_nextPoint_14 x1 x2 x3 x4 x5 x6 m =
(if 12 ≤ x6 then
((some ((-1), m)))
else
(Option.bind (f_X9_hop x2 x6 m) fun q3 =>
(if q3.1 = (-1) then
((f_X10_nextPoint_14 x1 x2 x3 x4 x5 (x6 + 1) q3.2))
else
(if x3 = 0 then
(Option.bind (f_X9_isZone x6 q3.2) fun q28 =>
(if q28.1 = 0 then
(Option.bind (f_X9_hopMinutes x2 x6 q28.2) fun q33 =>
(gd_ (ix_ x1 20)
(Option.bind (f_X10_costLeft x1 x6 0 x4 q33.2) fun q39 =>
(if (((q33.1 * (gi_ q33.2 102 (Int32.toNatClampNeg x1))) + 0) + q39.1) = x5 then
((some (x6, q39.2)))
else
((f_X10_nextPoint_14 x1 x2 x3 x4 x5 (x6 + 1) q39.2))))))
else
(Option.bind (f_X9_hopMinutes x2 x6 q28.2) fun q44 =>
(gd_ (ix_ x1 20)
(if x3 = 0 then
(Option.bind (f_X10_costLeft x1 x6 1 x4 q44.2) fun q57 =>
(if (((q44.1 * (gi_ q44.2 102 (Int32.toNatClampNeg x1))) + x4) + q57.1) = x5 then
((some (x6, q57.2)))
else
((f_X10_nextPoint_14 x1 x2 x3 x4 x5 (x6 + 1) q57.2))))
else
(Option.bind (f_X10_costLeft x1 x6 1 x4 q44.2) fun q52 =>
(if (((q44.1 * (gi_ q44.2 102 (Int32.toNatClampNeg x1))) + 0) + q52.1) = x5 then
((some (x6, q52.2)))
else
((f_X10_nextPoint_14 x1 x2 x3 x4 x5 (x6 + 1) q52.2)))))))))
else
(Option.bind (f_X9_hopMinutes x2 x6 q3.2) fun q10 =>
(gd_ (ix_ x1 20)
(if x3 = 0 then
(Option.bind (f_X10_costLeft x1 x6 1 x4 q10.2) fun q23 =>
(if (((q10.1 * (gi_ q10.2 102 (Int32.toNatClampNeg x1))) + x4) + q23.1) = x5 then
((some (x6, q23.2)))
else
((f_X10_nextPoint_14 x1 x2 x3 x4 x5 (x6 + 1) q23.2))))
else
(Option.bind (f_X10_costLeft x1 x6 1 x4 q10.2) fun q18 =>
(if (((q10.1 * (gi_ q10.2 102 (Int32.toNatClampNeg x1))) + 0) + q18.1) = x5 then
((some (x6, q18.2)))
else
((f_X10_nextPoint_14 x1 x2 x3 x4 x5 (x6 + 1) q18.2))))))))))) :=
  (am_lp_eq _ _).trans (fe_if (rfl) (fe_bd fun q3 => (fe_if (rfl) (fe_if (fe_bd fun q28 => (fe_if (fe_bd fun q33 => (fe_gd (fe_bd fun q39 => (fe_if (rfl) (rfl))))) (fe_bd fun q44 => (fe_gd (fe_if (fe_bd fun q57 => (fe_if (rfl) (rfl))) (fe_bd fun q52 => (fe_if (rfl) (rfl)))))))) (fe_bd fun q10 => (fe_gd (fe_if (fe_bd fun q23 => (fe_if (rfl) (rfl))) (fe_bd fun q18 => (fe_if (rfl) (rfl))))))))))
noncomputable def f_X10_nextPoint (p1 : Int32) (p2 : Int32) (p3 : Int32) (p4 : Int32) (m : fm_) : Option (Int32 × fm_) :=
  (Option.bind (f_X10_costLeft p1 p2 p3 p4 m) fun q1 =>
((f_X10_nextPoint_14 p1 p2 p3 p4 q1.1 0 q1.2)))
def sp_X10_nextPoint : am_S := fn_sp [(144, fn_F, G_X10_costLeft), (122, fn_T, G_X9_hop), (124, fn_F, G_X9_isZone), (123, fn_T, G_X9_hopMinutes)]
theorem sm_X10_nextPoint : am_Smono (sp_X10_nextPoint) := fn_sp_mono _
def P_X10_nextPoint (n : Nat) (r : Nat → Nat → Option Nat) (s : S_X10_nextPoint) (q : Int32 × fm_) : Prop := match s with
  | (x1, x2, x3, x4, x5, x6, m) => ∀ (Q : Option Value → am_W → Prop) (y7 : Option Value) (y8 : Option Value) (y9 : Option Value), Q (en_i q).1 (mk_ n r q.2) → am_T m_X10_nextPoint sp_X10_nextPoint n Q 14 [some (.ref 98), some (.int x1), some (.int x2), some (.int x3), some (.int x4), some (.int x5), some (.int x6), y7, y8, y9] [] (mk_ n r m)
set_option maxRecDepth 100000 in
theorem t_X10_nextPoint_14 {n : Nat} {r : Nat → Nat → Option Nat} (hf : fn_F n r) {K : S_X10_nextPoint → Option (Int32 × fm_)} {q : Int32 × fm_} (hK : ∀ s, K s = some q → P_X10_nextPoint n r s q) (x1 : Int32) (x2 : Int32) (x3 : Int32) (x4 : Int32) (x5 : Int32) (x6 : Int32) (m : fm_)
  (h : am_k K (st_X10_nextPoint ((x1, x2, x3, x4, x5, x6, m))) = some q) : P_X10_nextPoint n r ((x1, x2, x3, x4, x5, x6, m)) q := fun Q y7 y8 y9 hQ =>
  am_T.wp sm_X10_nextPoint (K := am_T m_X10_nextPoint sp_X10_nextPoint n Q) (cuts := [14]) (fun _ _ _ _ h => h) 54
    (fj_if h (fun c1 h2 => ⟨rfl, fj_rt h2 hQ⟩) (fun c1 h2 => ⟨fn_aF hf rfl rfl, Or.inl ⟨_, hf.2 98 0 6 rfl, fj_bd h2 fun q3 e4 h5 => ⟨Nat.le_of_ble_eq_true rfl, fn_aF hf rfl rfl, ⟨fn_FT hf, some (.int q3.1), q3.2, gp_X9_hop (n := n) (r := r)  e4, fun _ => fj_in h5 (fun c6 h7 => fj_in h7 (fun c8 h9 => ⟨fn_aF hf rfl rfl, Or.inl ⟨_, hf.2 98 0 6 rfl, fj_bd h9 fun q10 e11 h12 => ⟨Nat.le_of_ble_eq_true rfl, fn_aF hf rfl rfl, ⟨fn_FT hf, some (.int q10.1), q10.2, gp_X9_hopMinutes (n := n) (r := r)  e11, fun _ => ⟨fn_aF hf rfl rfl, Or.inl ⟨_, hf.2 98 5 102 rfl, fj_gd h12 fun g14 h13 => ⟨20, fn_aF hf rfl rfl, ix_t g14, ⟨fun c15 => absurd c15 (by decide), fun c15 => fj_in h13 (fun c16 h17 => fj_bd h17 fun q18 e19 h20 => ⟨Nat.le_of_ble_eq_true rfl, fn_aF hf rfl rfl, ⟨hf, some (.int q18.1), q18.2, gp_X10_costLeft (n := n) (r := r)  e19, fun _ => fj_in h20 (fun c21 h22 => hK _ h22 _ _ _ _ hQ) (fun c21 h22 => ⟨rfl, fj_rt h22 hQ⟩)⟩⟩) (fun c16 h17 => fj_bd h17 fun q23 e24 h25 => ⟨Nat.le_of_ble_eq_true rfl, fn_aF hf rfl rfl, ⟨hf, some (.int q23.1), q23.2, gp_X10_costLeft (n := n) (r := r)  e24, fun _ => fj_in h25 (fun c26 h27 => hK _ h27 _ _ _ _ hQ) (fun c26 h27 => ⟨rfl, fj_rt h27 hQ⟩)⟩⟩)⟩⟩⟩⟩⟩⟩⟩⟩) (fun c8 h9 => ⟨fn_aF hf rfl rfl, Or.inl ⟨_, hf.2 98 0 6 rfl, fj_bd h9 fun q28 e29 h30 => ⟨Nat.le_of_ble_eq_true rfl, fn_aF hf rfl rfl, ⟨hf, some (.int q28.1), q28.2, gp_X9_isZone (n := n) (r := r)  e29, fun _ => fj_if h30 (fun c31 h32 => ⟨fn_aF hf rfl rfl, Or.inl ⟨_, hf.2 98 0 6 rfl, fj_bd h32 fun q33 e34 h35 => ⟨Nat.le_of_ble_eq_true rfl, fn_aF hf rfl rfl, ⟨fn_FT hf, some (.int q33.1), q33.2, gp_X9_hopMinutes (n := n) (r := r)  e34, fun _ => ⟨fn_aF hf rfl rfl, Or.inl ⟨_, hf.2 98 5 102 rfl, fj_gd h35 fun g37 h36 => ⟨20, fn_aF hf rfl rfl, ix_t g37, ⟨fun c38 => fj_bd h36 fun q39 e40 h41 => ⟨Nat.le_of_ble_eq_true rfl, fn_aF hf rfl rfl, ⟨hf, some (.int q39.1), q39.2, gp_X10_costLeft (n := n) (r := r)  e40, fun _ => fj_in h41 (fun c42 h43 => hK _ h43 _ _ _ _ hQ) (fun c42 h43 => ⟨rfl, fj_rt h43 hQ⟩)⟩⟩, fun c38 => absurd c38 (by decide)⟩⟩⟩⟩⟩⟩⟩⟩) (fun c31 h32 => ⟨fn_aF hf rfl rfl, Or.inl ⟨_, hf.2 98 0 6 rfl, fj_bd h32 fun q44 e45 h46 => ⟨Nat.le_of_ble_eq_true rfl, fn_aF hf rfl rfl, ⟨fn_FT hf, some (.int q44.1), q44.2, gp_X9_hopMinutes (n := n) (r := r)  e45, fun _ => ⟨fn_aF hf rfl rfl, Or.inl ⟨_, hf.2 98 5 102 rfl, fj_gd h46 fun g48 h47 => ⟨20, fn_aF hf rfl rfl, ix_t g48, ⟨fun c49 => absurd c49 (by decide), fun c49 => fj_in h47 (fun c50 h51 => fj_bd h51 fun q52 e53 h54 => ⟨Nat.le_of_ble_eq_true rfl, fn_aF hf rfl rfl, ⟨hf, some (.int q52.1), q52.2, gp_X10_costLeft (n := n) (r := r)  e53, fun _ => fj_in h54 (fun c55 h56 => hK _ h56 _ _ _ _ hQ) (fun c55 h56 => ⟨rfl, fj_rt h56 hQ⟩)⟩⟩) (fun c50 h51 => fj_bd h51 fun q57 e58 h59 => ⟨Nat.le_of_ble_eq_true rfl, fn_aF hf rfl rfl, ⟨hf, some (.int q57.1), q57.2, gp_X10_costLeft (n := n) (r := r)  e58, fun _ => fj_in h59 (fun c60 h61 => hK _ h61 _ _ _ _ hQ) (fun c60 h61 => ⟨rfl, fj_rt h61 hQ⟩)⟩⟩)⟩⟩⟩⟩⟩⟩⟩⟩)⟩⟩⟩⟩)) (fun c6 h7 => hK _ h7 _ _ _ _ hQ)⟩⟩⟩⟩))
theorem l_X10_nextPoint {n : Nat} {r : Nat → Nat → Option Nat} (hf : fn_F n r) (s : S_X10_nextPoint) (q : Int32 × fm_) (h : am_lp (st_X10_nextPoint) s = some q) : P_X10_nextPoint n r s q :=
  am_lp_snd (P := P_X10_nextPoint n r) (fun K hK s q h => match s, h with
    | (x1, x2, x3, x4, x5, x6, m), h => t_X10_nextPoint_14 hf (fun s => hK s q) x1 x2 x3 x4 x5 x6 m h) s q h
set_option maxRecDepth 100000 in
theorem t_X10_nextPoint {n : Nat} {r : Nat → Nat → Option Nat} (hf : fn_F n r) {q : Int32 × fm_} (p1 : Int32) (p2 : Int32) (p3 : Int32) (p4 : Int32) {m : fm_}
  (h : f_X10_nextPoint p1 p2 p3 p4 m = some q) {Q : Option Value → am_W → Prop} (hQ : Q (en_i q).1 (mk_ n r q.2)) : am_T m_X10_nextPoint sp_X10_nextPoint n Q 0 [some (.ref 98), some (.int p1), some (.int p2), some (.int p3), some (.int p4), none, none, none, none, none] [] (mk_ n r m) :=
  am_T.wp sm_X10_nextPoint (K := am_T m_X10_nextPoint sp_X10_nextPoint n Q) (cuts := [14]) (fun _ _ _ _ h => h) 11
    (fh_bd h fun q1 e2 h3 => ⟨Nat.le_of_ble_eq_true rfl, fn_aF hf rfl rfl, ⟨hf, some (.int q1.1), q1.2, gp_X10_costLeft (n := n) (r := r)  e2, fun _ => l_X10_nextPoint hf _ _ h3 _ _ _ _ hQ⟩⟩)
noncomputable def G_X10_nextPoint (n : Nat) (r : Nat → Nat → Option Nat) (as : List Value) (m : fm_) : Option (Option Value × fm_) := match as with
  | [.ref x0, .int p1, .int p2, .int p3, .int p4] => gd_ (Nat.beq x0 98) ((f_X10_nextPoint p1 p2 p3 p4 m).map en_i)
  | _ => none
set_option maxRecDepth 100000 in
theorem gp_X10_nextPoint {n : Nat} {r : Nat → Nat → Option Nat}  {p1 : Int32} {p2 : Int32} {p3 : Int32} {p4 : Int32} {m : fm_} {q : Int32 × fm_}  (e : f_X10_nextPoint p1 p2 p3 p4 m = some q) : G_X10_nextPoint n r [.ref 98, .int p1, .int p2, .int p3, .int p4] m = some (en_i q) := by
  show (gd_ (Nat.beq 98 98) ((f_X10_nextPoint p1 p2 p3 p4 m).map en_i)) = _
  exact fn_gd rfl (fn_mp e)
set_option maxRecDepth 100000 in
theorem ok_X10_nextPoint : am_mok 10 143 m_X10_nextPoint = true := by decide +kernel
set_option maxRecDepth 100000 in
theorem c_X10_nextPoint (l : Launch) {g : am_G} (hg : fx_ l g) : am_Met l g 3 143 (fn_s fn_F G_X10_nextPoint) := by
  refine am_sound (own := 10) (M := m_X10_nextPoint) (SP := sp_X10_nextPoint) hg.1 (by decide +kernel) ok_X10_nextPoint (by decide +kernel) ?_ (fun q hq hk => absurd hk (am_no61 (M := m_X10_nextPoint) (by decide +kernel) q hq)) (fn_ext l _ rfl g 10) (Or.inl (by decide +kernel)) ?_ ?_
  · intro q hq hk
    have hm : q.2.2.2.1 ∈ am_cs m_X10_nextPoint := am_cs_in hq hk
    rw [show am_cs m_X10_nextPoint = [144, 122, 124, 123, 144] by decide +kernel] at hm
    have hm : q.2.2.2.1 ∈ [122, 123, 124, 144] := (List.all_eq_true.mp (show ([144, 122, 124, 123, 144] : List Nat).all (fun a => decide (a ∈ ([122, 123, 124, 144] : List Nat))) = true by decide +kernel) _ hm |> of_decide_eq_true)
    simp only [List.mem_cons, List.not_mem_nil, or_false] at hm
    rcases hm with hm | hm | hm | hm
    · rw [hm]; exact ⟨1, by omega, c_X9_hop l hg⟩
    · rw [hm]; exact ⟨2, by omega, c_X9_hopMinutes l hg⟩
    · rw [hm]; exact ⟨0, by omega, c_X9_isZone l hg⟩
    · rw [hm]; exact ⟨2, by omega, c_X10_costLeft l hg⟩
  · intro as w K h
    obtain ⟨hf, y, m1, hG, hK⟩ := h
    unfold G_X10_nextPoint at hG
    split at hG
    · exact Nat.le_of_ble_eq_true rfl
    · cases hG
  · intro as w K h
    obtain ⟨n, i0, l0, r⟩ := w
    obtain ⟨hf, y, m1, hG, hK⟩ := h
    unfold G_X10_nextPoint at hG
    split at hG
    · next x0 p1 p2 p3 p4 =>
      obtain ⟨hx1, hG1⟩ := gd_u hG
      obtain rfl := Nat.eq_of_beq_eq_true hx1
      obtain ⟨q, hq, he⟩ := fn_mu hG1
      obtain ⟨rfl, rfl⟩ := Prod.mk.inj he
      exact t_X10_nextPoint  hf  p1 p2 p3 p4 (m := (i0, l0)) hq hK
    · cases hG

/-! == X10_follow == -/
abbrev S_X10_follow : Type := (Int32 × Int32 × Int32 × Int32 × Int32 × Int32 × Int32 × fm_)
noncomputable def st_X10_follow (s : S_X10_follow) : Option (S_X10_follow ⊕ (Int32 × fm_)) := match s with
  | (x1, x2, x3, x4, x5, x6, x7, m) =>
    (if 12 ≤ x7 then
((some (Sum.inr (0, m))))
else
(gd_ (ix_ x1 20)
(if x4 = (gi_ m 100 (Int32.toNatClampNeg x1)) then
((some (Sum.inr (0, m))))
else
(Option.bind (f_X10_nextPoint x1 x4 x6 x5 m) fun q7 =>
(if q7.1 = (-1) then
((some (Sum.inr (0, q7.2))))
else
(Option.bind (f_X9_hopMinutes x4 q7.1 q7.2) fun q12 =>
(Option.bind (f_X10_visit q7.1 (si_ q12.2 98 11 ((gi_ q7.2 98 11) + q12.1))) fun q15 =>
(if x6 = 0 then
(Option.bind (f_X9_isZone q7.1 q15.2) fun q20 =>
(if q20.1 = 0 then
((some (Sum.inl ((x1, x2, x3, q7.1, x5, 0, (x7 + 1), q20.2)))))
else
((some (Sum.inl ((x1, x2, x3, q7.1, x5, 1, (x7 + 1), q20.2)))))))
else
((some (Sum.inl ((x1, x2, x3, q7.1, x5, 1, (x7 + 1), q15.2)))))))))))))
noncomputable def f_X10_follow_79 (x1 : Int32) (x2 : Int32) (x3 : Int32) (x4 : Int32) (x5 : Int32) (x6 : Int32) (x7 : Int32) (m : fm_) : Option (Int32 × fm_) := am_lp (st_X10_follow) ((x1, x2, x3, x4, x5, x6, x7, m))
theorem e_X10_follow_79 (x1 : Int32) (x2 : Int32) (x3 : Int32) (x4 : Int32) (x5 : Int32) (x6 : Int32) (x7 : Int32) (m : fm_) : f_X10_follow_79 x1 x2 x3 x4 x5 x6 x7 m =
(if 12 ≤ x7 then
((some (0, m)))
else
(gd_ (ix_ x1 20)
(if x4 = (gi_ m 100 (Int32.toNatClampNeg x1)) then
((some (0, m)))
else
(Option.bind (f_X10_nextPoint x1 x4 x6 x5 m) fun q7 =>
(if q7.1 = (-1) then
((some (0, q7.2)))
else
(Option.bind (f_X9_hopMinutes x4 q7.1 q7.2) fun q12 =>
(Option.bind (f_X10_visit q7.1 (si_ q12.2 98 11 ((gi_ q7.2 98 11) + q12.1))) fun q15 =>
(if x6 = 0 then
(Option.bind (f_X9_isZone q7.1 q15.2) fun q20 =>
(if q20.1 = 0 then
((f_X10_follow_79 x1 x2 x3 q7.1 x5 0 (x7 + 1) q20.2))
else
((f_X10_follow_79 x1 x2 x3 q7.1 x5 1 (x7 + 1) q20.2))))
else
((f_X10_follow_79 x1 x2 x3 q7.1 x5 1 (x7 + 1) q15.2)))))))))) :=
  (am_lp_eq _ _).trans (fe_if (rfl) (fe_gd (fe_if (rfl) (fe_bd fun q7 => (fe_if (rfl) (fe_bd fun q12 => (fe_bd fun q15 => (fe_if (fe_bd fun q20 => (fe_if (rfl) (rfl))) (rfl)))))))))
noncomputable def f_X10_follow (p1 : Int32) (p2 : Int32) (p3 : Int32) (m : fm_) : Option (Int32 × fm_) :=
  (gd_ (ix_ p1 20)
(if p3 = 0 then
(if p3 = 0 then
(Option.bind (f_X10_visit (gi_ m 99 (Int32.toNatClampNeg p1)) (si_ (si_ (si_ m 98 9 0) 98 10 0) 98 11 0)) fun q7 =>
((f_X10_follow_79 p1 p2 p3 (gi_ m 99 (Int32.toNatClampNeg p1)) 0 1 1 q7.2)))
else
(Option.bind (f_X9_isZone (gi_ m 99 (Int32.toNatClampNeg p1)) m) fun q10 =>
(if q10.1 = 0 then
(Option.bind (f_X10_visit (gi_ m 99 (Int32.toNatClampNeg p1)) (si_ (si_ (si_ q10.2 98 9 0) 98 10 0) 98 11 0)) fun q15 =>
((f_X10_follow_79 p1 p2 p3 (gi_ m 99 (Int32.toNatClampNeg p1)) 0 0 1 q15.2)))
else
(Option.bind (f_X10_visit (gi_ m 99 (Int32.toNatClampNeg p1)) (si_ (si_ (si_ q10.2 98 9 0) 98 10 0) 98 11 0)) fun q18 =>
((f_X10_follow_79 p1 p2 p3 (gi_ m 99 (Int32.toNatClampNeg p1)) 0 1 1 q18.2))))))
else
(gd_ (ix_ p1 20)
(Option.bind (f_X3_chargeOn p2 (gi_ m 103 (Int32.toNatClampNeg p1)) m) fun q23 =>
(if p3 = 0 then
(Option.bind (f_X10_visit (gi_ m 99 (Int32.toNatClampNeg p1)) (si_ (si_ (si_ q23.2 98 9 0) 98 10 0) 98 11 0)) fun q28 =>
((f_X10_follow_79 p1 p2 p3 (gi_ m 99 (Int32.toNatClampNeg p1)) q23.1 1 1 q28.2)))
else
(Option.bind (f_X9_isZone (gi_ m 99 (Int32.toNatClampNeg p1)) q23.2) fun q31 =>
(if q31.1 = 0 then
(Option.bind (f_X10_visit (gi_ m 99 (Int32.toNatClampNeg p1)) (si_ (si_ (si_ q31.2 98 9 0) 98 10 0) 98 11 0)) fun q36 =>
((f_X10_follow_79 p1 p2 p3 (gi_ m 99 (Int32.toNatClampNeg p1)) q23.1 0 1 q36.2)))
else
(Option.bind (f_X10_visit (gi_ m 99 (Int32.toNatClampNeg p1)) (si_ (si_ (si_ q31.2 98 9 0) 98 10 0) 98 11 0)) fun q39 =>
((f_X10_follow_79 p1 p2 p3 (gi_ m 99 (Int32.toNatClampNeg p1)) q23.1 1 1 q39.2))))))))))
def sp_X10_follow : am_S := fn_sp [(33, fn_F, G_X3_chargeOn), (124, fn_F, G_X9_isZone), (142, fn_F, G_X10_visit), (143, fn_F, G_X10_nextPoint), (123, fn_T, G_X9_hopMinutes)]
theorem sm_X10_follow : am_Smono (sp_X10_follow) := fn_sp_mono _
def P_X10_follow (n : Nat) (r : Nat → Nat → Option Nat) (s : S_X10_follow) (q : Int32 × fm_) : Prop := match s with
  | (x1, x2, x3, x4, x5, x6, x7, m) => ∀ (Q : Option Value → am_W → Prop) (y8 : Option Value), Q (en_v q).1 (mk_ n r q.2) → am_T m_X10_follow sp_X10_follow n Q 79 [some (.ref 98), some (.int x1), some (.int x2), some (.int x3), some (.int x4), some (.int x5), some (.int x6), some (.int x7), y8] [] (mk_ n r m)
set_option maxRecDepth 100000 in
theorem t_X10_follow_79 {n : Nat} {r : Nat → Nat → Option Nat} (hf : fn_F n r) {K : S_X10_follow → Option (Int32 × fm_)} {q : Int32 × fm_} (hK : ∀ s, K s = some q → P_X10_follow n r s q) (x1 : Int32) (x2 : Int32) (x3 : Int32) (x4 : Int32) (x5 : Int32) (x6 : Int32) (x7 : Int32) (m : fm_)
  (h : am_k K (st_X10_follow ((x1, x2, x3, x4, x5, x6, x7, m))) = some q) : P_X10_follow n r ((x1, x2, x3, x4, x5, x6, x7, m)) q := fun Q y8 hQ =>
  am_T.wp sm_X10_follow (K := am_T m_X10_follow sp_X10_follow n Q) (cuts := [79]) (fun _ _ _ _ h => h) 48
    (fj_if h (fun c1 h2 => ⟨rfl, fj_rt h2 hQ⟩) (fun c1 h2 => ⟨fn_aF hf rfl rfl, Or.inl ⟨_, hf.2 98 3 100 rfl, fj_gd h2 fun g4 h3 => ⟨20, fn_aF hf rfl rfl, ix_t g4, fj_if h3 (fun c5 h6 => ⟨rfl, fj_rt h6 hQ⟩) (fun c5 h6 => fj_bd h6 fun q7 e8 h9 => ⟨Nat.le_of_ble_eq_true rfl, fn_aF hf rfl rfl, ⟨hf, some (.int q7.1), q7.2, gp_X10_nextPoint (n := n) (r := r)  e8, fun _ => fj_in h9 (fun c10 h11 => ⟨fn_aF hf rfl rfl, ⟨fn_aF hf rfl rfl, Or.inl ⟨_, hf.2 98 0 6 rfl, fj_bd h11 fun q12 e13 h14 => ⟨Nat.le_of_ble_eq_true rfl, fn_aF hf rfl rfl, ⟨fn_FT hf, some (.int q12.1), q12.2, gp_X9_hopMinutes (n := n) (r := r)  e13, fun _ => ⟨fn_aF hf rfl rfl, fj_bd h14 fun q15 e16 h17 => ⟨Nat.le_of_ble_eq_true rfl, fn_aF hf rfl rfl, ⟨hf, none, q15.2, gp_X10_visit (n := n) (r := r)  e16, fun _ => ⟨rfl, fj_in h17 (fun c18 h19 => hK _ h19 _ _ hQ) (fun c18 h19 => ⟨fn_aF hf rfl rfl, Or.inl ⟨_, hf.2 98 0 6 rfl, fj_bd h19 fun q20 e21 h22 => ⟨Nat.le_of_ble_eq_true rfl, fn_aF hf rfl rfl, ⟨hf, some (.int q20.1), q20.2, gp_X9_isZone (n := n) (r := r)  e21, fun _ => fj_if h22 (fun c23 h24 => hK _ h24 _ _ hQ) (fun c23 h24 => hK _ h24 _ _ hQ)⟩⟩⟩⟩)⟩⟩⟩⟩⟩⟩⟩⟩⟩) (fun c10 h11 => ⟨rfl, fj_rt h11 hQ⟩)⟩⟩)⟩⟩⟩))
theorem l_X10_follow {n : Nat} {r : Nat → Nat → Option Nat} (hf : fn_F n r) (s : S_X10_follow) (q : Int32 × fm_) (h : am_lp (st_X10_follow) s = some q) : P_X10_follow n r s q :=
  am_lp_snd (P := P_X10_follow n r) (fun K hK s q h => match s, h with
    | (x1, x2, x3, x4, x5, x6, x7, m), h => t_X10_follow_79 hf (fun s => hK s q) x1 x2 x3 x4 x5 x6 x7 m h) s q h
set_option maxRecDepth 100000 in
theorem t_X10_follow {n : Nat} {r : Nat → Nat → Option Nat} (hf : fn_F n r) {q : Int32 × fm_} (p1 : Int32) (p2 : Int32) (p3 : Int32) {m : fm_}
  (h : f_X10_follow p1 p2 p3 m = some q) {Q : Option Value → am_W → Prop} (hQ : Q (en_v q).1 (mk_ n r q.2)) : am_T m_X10_follow sp_X10_follow n Q 0 [some (.ref 98), some (.int p1), some (.int p2), some (.int p3), none, none, none, none, none] [] (mk_ n r m) :=
  am_T.wp sm_X10_follow (K := am_T m_X10_follow sp_X10_follow n Q) (cuts := [79]) (fun _ _ _ _ h => h) 43
    (⟨fn_aF hf rfl rfl, Or.inl ⟨_, hf.2 98 2 99 rfl, fh_gd h fun g2 h1 => ⟨20, fn_aF hf rfl rfl, ix_t g2, fh_if h1 (fun c3 h4 => fh_if h4 (fun c5 h6 => ⟨fn_aF hf rfl rfl, ⟨fn_aF hf rfl rfl, ⟨fn_aF hf rfl rfl, fh_bd h6 fun q7 e8 h9 => ⟨Nat.le_of_ble_eq_true rfl, fn_aF hf rfl rfl, ⟨hf, none, q7.2, gp_X10_visit (n := n) (r := r)  e8, fun _ => ⟨rfl, l_X10_follow hf _ _ h9 _ _ hQ⟩⟩⟩⟩⟩⟩) (fun c5 h6 => ⟨fn_aF hf rfl rfl, Or.inl ⟨_, hf.2 98 0 6 rfl, fh_bd h6 fun q10 e11 h12 => ⟨Nat.le_of_ble_eq_true rfl, fn_aF hf rfl rfl, ⟨hf, some (.int q10.1), q10.2, gp_X9_isZone (n := n) (r := r)  e11, fun _ => fh_if h12 (fun c13 h14 => ⟨fn_aF hf rfl rfl, ⟨fn_aF hf rfl rfl, ⟨fn_aF hf rfl rfl, fh_bd h14 fun q15 e16 h17 => ⟨Nat.le_of_ble_eq_true rfl, fn_aF hf rfl rfl, ⟨hf, none, q15.2, gp_X10_visit (n := n) (r := r)  e16, fun _ => ⟨rfl, l_X10_follow hf _ _ h17 _ _ hQ⟩⟩⟩⟩⟩⟩) (fun c13 h14 => ⟨fn_aF hf rfl rfl, ⟨fn_aF hf rfl rfl, ⟨fn_aF hf rfl rfl, fh_bd h14 fun q18 e19 h20 => ⟨Nat.le_of_ble_eq_true rfl, fn_aF hf rfl rfl, ⟨hf, none, q18.2, gp_X10_visit (n := n) (r := r)  e19, fun _ => ⟨rfl, l_X10_follow hf _ _ h20 _ _ hQ⟩⟩⟩⟩⟩⟩)⟩⟩⟩⟩)) (fun c3 h4 => ⟨fn_aF hf rfl rfl, Or.inl ⟨_, hf.2 98 1 30 rfl, ⟨fn_aF hf rfl rfl, Or.inl ⟨_, hf.2 98 6 103 rfl, fh_gd h4 fun g22 h21 => ⟨20, fn_aF hf rfl rfl, ix_t g22, fh_bd h21 fun q23 e24 h25 => ⟨Nat.le_of_ble_eq_true rfl, fn_aF hf rfl rfl, ⟨hf, some (.int q23.1), q23.2, gp_X3_chargeOn (n := n) (r := r)  e24, fun _ => fh_if h25 (fun c26 h27 => ⟨fn_aF hf rfl rfl, ⟨fn_aF hf rfl rfl, ⟨fn_aF hf rfl rfl, fh_bd h27 fun q28 e29 h30 => ⟨Nat.le_of_ble_eq_true rfl, fn_aF hf rfl rfl, ⟨hf, none, q28.2, gp_X10_visit (n := n) (r := r)  e29, fun _ => ⟨rfl, l_X10_follow hf _ _ h30 _ _ hQ⟩⟩⟩⟩⟩⟩) (fun c26 h27 => ⟨fn_aF hf rfl rfl, Or.inl ⟨_, hf.2 98 0 6 rfl, fh_bd h27 fun q31 e32 h33 => ⟨Nat.le_of_ble_eq_true rfl, fn_aF hf rfl rfl, ⟨hf, some (.int q31.1), q31.2, gp_X9_isZone (n := n) (r := r)  e32, fun _ => fh_if h33 (fun c34 h35 => ⟨fn_aF hf rfl rfl, ⟨fn_aF hf rfl rfl, ⟨fn_aF hf rfl rfl, fh_bd h35 fun q36 e37 h38 => ⟨Nat.le_of_ble_eq_true rfl, fn_aF hf rfl rfl, ⟨hf, none, q36.2, gp_X10_visit (n := n) (r := r)  e37, fun _ => ⟨rfl, l_X10_follow hf _ _ h38 _ _ hQ⟩⟩⟩⟩⟩⟩) (fun c34 h35 => ⟨fn_aF hf rfl rfl, ⟨fn_aF hf rfl rfl, ⟨fn_aF hf rfl rfl, fh_bd h35 fun q39 e40 h41 => ⟨Nat.le_of_ble_eq_true rfl, fn_aF hf rfl rfl, ⟨hf, none, q39.2, gp_X10_visit (n := n) (r := r)  e40, fun _ => ⟨rfl, l_X10_follow hf _ _ h41 _ _ hQ⟩⟩⟩⟩⟩⟩)⟩⟩⟩⟩)⟩⟩⟩⟩⟩⟩⟩)⟩⟩⟩)
noncomputable def G_X10_follow (n : Nat) (r : Nat → Nat → Option Nat) (as : List Value) (m : fm_) : Option (Option Value × fm_) := match as with
  | [.ref x0, .int p1, .int p2, .int p3] => gd_ (Nat.beq x0 98) ((f_X10_follow p1 p2 p3 m).map en_v)
  | _ => none
set_option maxRecDepth 100000 in
theorem gp_X10_follow {n : Nat} {r : Nat → Nat → Option Nat}  {p1 : Int32} {p2 : Int32} {p3 : Int32} {m : fm_} {q : Int32 × fm_}  (e : f_X10_follow p1 p2 p3 m = some q) : G_X10_follow n r [.ref 98, .int p1, .int p2, .int p3] m = some (en_v q) := by
  show (gd_ (Nat.beq 98 98) ((f_X10_follow p1 p2 p3 m).map en_v)) = _
  exact fn_gd rfl (fn_mp e)
set_option maxRecDepth 100000 in
theorem ok_X10_follow : am_mok 10 137 m_X10_follow = true := by decide +kernel
set_option maxRecDepth 100000 in
theorem c_X10_follow (l : Launch) {g : am_G} (hg : fx_ l g) : am_Met l g 4 137 (fn_s fn_F G_X10_follow) := by
  refine am_sound (own := 10) (M := m_X10_follow) (SP := sp_X10_follow) hg.1 (by decide +kernel) ok_X10_follow (by decide +kernel) ?_ (fun q hq hk => absurd hk (am_no61 (M := m_X10_follow) (by decide +kernel) q hq)) (fn_ext l _ rfl g 10) (Or.inl (by decide +kernel)) ?_ ?_
  · intro q hq hk
    have hm : q.2.2.2.1 ∈ am_cs m_X10_follow := am_cs_in hq hk
    rw [show am_cs m_X10_follow = [33, 124, 142, 143, 123, 142, 124] by decide +kernel] at hm
    have hm : q.2.2.2.1 ∈ [33, 123, 124, 142, 143] := (List.all_eq_true.mp (show ([33, 124, 142, 143, 123, 142, 124] : List Nat).all (fun a => decide (a ∈ ([33, 123, 124, 142, 143] : List Nat))) = true by decide +kernel) _ hm |> of_decide_eq_true)
    simp only [List.mem_cons, List.not_mem_nil, or_false] at hm
    rcases hm with hm | hm | hm | hm | hm
    · rw [hm]; exact ⟨2, by omega, c_X3_chargeOn l hg⟩
    · rw [hm]; exact ⟨2, by omega, c_X9_hopMinutes l hg⟩
    · rw [hm]; exact ⟨0, by omega, c_X9_isZone l hg⟩
    · rw [hm]; exact ⟨0, by omega, c_X10_visit l hg⟩
    · rw [hm]; exact ⟨3, by omega, c_X10_nextPoint l hg⟩
  · intro as w K h
    obtain ⟨hf, y, m1, hG, hK⟩ := h
    unfold G_X10_follow at hG
    split at hG
    · exact Nat.le_of_ble_eq_true rfl
    · cases hG
  · intro as w K h
    obtain ⟨n, i0, l0, r⟩ := w
    obtain ⟨hf, y, m1, hG, hK⟩ := h
    unfold G_X10_follow at hG
    split at hG
    · next x0 p1 p2 p3 =>
      obtain ⟨hx1, hG1⟩ := gd_u hG
      obtain rfl := Nat.eq_of_beq_eq_true hx1
      obtain ⟨q, hq, he⟩ := fn_mu hG1
      obtain ⟨rfl, rfl⟩ := Prod.mk.inj he
      exact t_X10_follow  hf  p1 p2 p3 (m := (i0, l0)) hq hK
    · cases hG

/-! == X10_carsOn == -/
abbrev S_X10_carsOn : Type := (Int32 × Int32 × Int32 × Int32 × Int32 × fm_) ⊕ (Int32 × Int32 × Int32 × Int32 × Int32 × Int32 × fm_)
noncomputable def st_X10_carsOn (s : S_X10_carsOn) : Option (S_X10_carsOn ⊕ (Int32 × fm_)) := match s with
  | Sum.inl ((x1, x2, x3, x4, x5, m)) =>
    (if (gi_ m 98 7) ≤ x5 then
((some (Sum.inr (x4, m))))
else
(Option.bind (f_X10_follow x5 x2 x3 m) fun q3 =>
((some (Sum.inl (Sum.inr ((x1, x2, x3, x4, x5, 1, q3.2))))))))
  | Sum.inr ((x1, x2, x3, x4, x5, x6, m)) =>
    (if (gi_ m 98 9) ≤ x6 then
((some (Sum.inl (Sum.inl ((x1, x2, x3, x4, (x5 + 1), m))))))
else
(gd_ (ix_ (x6 - 1) 12)
(gd_ (ix_ x6 12)
(Option.bind (f_X9_hop (gi_ m 104 (Int32.toNatClampNeg (x6 - 1))) (gi_ m 104 (Int32.toNatClampNeg x6)) m) fun q7 =>
(if q7.1 = x1 then
(gd_ (ix_ x5 20)
((some (Sum.inl (Sum.inr ((x1, x2, x3, (x4 + (gi_ q7.2 101 (Int32.toNatClampNeg x5))), x5, (x6 + 1), q7.2)))))))
else
((some (Sum.inl (Sum.inr ((x1, x2, x3, x4, x5, (x6 + 1), q7.2)))))))))))
noncomputable def f_X10_carsOn_6 (x1 : Int32) (x2 : Int32) (x3 : Int32) (x4 : Int32) (x5 : Int32) (m : fm_) : Option (Int32 × fm_) := am_lp (st_X10_carsOn) (Sum.inl ((x1, x2, x3, x4, x5, m)))
noncomputable def f_X10_carsOn_26 (x1 : Int32) (x2 : Int32) (x3 : Int32) (x4 : Int32) (x5 : Int32) (x6 : Int32) (m : fm_) : Option (Int32 × fm_) := am_lp (st_X10_carsOn) (Sum.inr ((x1, x2, x3, x4, x5, x6, m)))
theorem e_X10_carsOn_6 (x1 : Int32) (x2 : Int32) (x3 : Int32) (x4 : Int32) (x5 : Int32) (m : fm_) : f_X10_carsOn_6 x1 x2 x3 x4 x5 m =
(if (gi_ m 98 7) ≤ x5 then
((some (x4, m)))
else
(Option.bind (f_X10_follow x5 x2 x3 m) fun q3 =>
((f_X10_carsOn_26 x1 x2 x3 x4 x5 1 q3.2)))) :=
  (am_lp_eq _ _).trans (fe_if (rfl) (fe_bd fun q3 => (rfl)))
theorem e_X10_carsOn_26 (x1 : Int32) (x2 : Int32) (x3 : Int32) (x4 : Int32) (x5 : Int32) (x6 : Int32) (m : fm_) : f_X10_carsOn_26 x1 x2 x3 x4 x5 x6 m =
(if (gi_ m 98 9) ≤ x6 then
((f_X10_carsOn_6 x1 x2 x3 x4 (x5 + 1) m))
else
(gd_ (ix_ (x6 - 1) 12)
(gd_ (ix_ x6 12)
(Option.bind (f_X9_hop (gi_ m 104 (Int32.toNatClampNeg (x6 - 1))) (gi_ m 104 (Int32.toNatClampNeg x6)) m) fun q7 =>
(if q7.1 = x1 then
(gd_ (ix_ x5 20)
((f_X10_carsOn_26 x1 x2 x3 (x4 + (gi_ q7.2 101 (Int32.toNatClampNeg x5))) x5 (x6 + 1) q7.2)))
else
((f_X10_carsOn_26 x1 x2 x3 x4 x5 (x6 + 1) q7.2))))))) :=
  (am_lp_eq _ _).trans (fe_if (rfl) (fe_gd (fe_gd (fe_bd fun q7 => (fe_if (fe_gd (rfl)) (rfl))))))
noncomputable def f_X10_carsOn (p1 : Int32) (p2 : Int32) (p3 : Int32) (m : fm_) : Option (Int32 × fm_) :=
  ((f_X10_carsOn_6 p1 p2 p3 0 0 m))
def sp_X10_carsOn : am_S := fn_sp [(137, fn_F, G_X10_follow), (122, fn_T, G_X9_hop)]
theorem sm_X10_carsOn : am_Smono (sp_X10_carsOn) := fn_sp_mono _
def P_X10_carsOn (n : Nat) (r : Nat → Nat → Option Nat) (s : S_X10_carsOn) (q : Int32 × fm_) : Prop := match s with
  | Sum.inl ((x1, x2, x3, x4, x5, m)) => ∀ (Q : Option Value → am_W → Prop) (y6 : Option Value), Q (en_i q).1 (mk_ n r q.2) → am_T m_X10_carsOn sp_X10_carsOn n Q 6 [some (.ref 98), some (.int x1), some (.int x2), some (.int x3), some (.int x4), some (.int x5), y6] [] (mk_ n r m)
  | Sum.inr ((x1, x2, x3, x4, x5, x6, m)) => ∀ (Q : Option Value → am_W → Prop), Q (en_i q).1 (mk_ n r q.2) → am_T m_X10_carsOn sp_X10_carsOn n Q 26 [some (.ref 98), some (.int x1), some (.int x2), some (.int x3), some (.int x4), some (.int x5), some (.int x6)] [] (mk_ n r m)
set_option maxRecDepth 100000 in
theorem t_X10_carsOn_6 {n : Nat} {r : Nat → Nat → Option Nat} (hf : fn_F n r) {K : S_X10_carsOn → Option (Int32 × fm_)} {q : Int32 × fm_} (hK : ∀ s, K s = some q → P_X10_carsOn n r s q) (x1 : Int32) (x2 : Int32) (x3 : Int32) (x4 : Int32) (x5 : Int32) (m : fm_)
  (h : am_k K (st_X10_carsOn (Sum.inl ((x1, x2, x3, x4, x5, m)))) = some q) : P_X10_carsOn n r (Sum.inl ((x1, x2, x3, x4, x5, m))) q := fun Q y6 hQ =>
  am_T.wp sm_X10_carsOn (K := am_T m_X10_carsOn sp_X10_carsOn n Q) (cuts := [6, 26]) (fun _ _ _ _ h => h) 13
    (⟨fn_aF hf rfl rfl, fj_if h (fun c1 h2 => ⟨rfl, fj_rt h2 hQ⟩) (fun c1 h2 => fj_bd h2 fun q3 e4 h5 => ⟨Nat.le_of_ble_eq_true rfl, fn_aF hf rfl rfl, ⟨hf, none, q3.2, gp_X10_follow (n := n) (r := r)  e4, fun _ => ⟨rfl, hK _ h5 _ hQ⟩⟩⟩)⟩)
set_option maxRecDepth 100000 in
theorem t_X10_carsOn_26 {n : Nat} {r : Nat → Nat → Option Nat} (hf : fn_F n r) {K : S_X10_carsOn → Option (Int32 × fm_)} {q : Int32 × fm_} (hK : ∀ s, K s = some q → P_X10_carsOn n r s q) (x1 : Int32) (x2 : Int32) (x3 : Int32) (x4 : Int32) (x5 : Int32) (x6 : Int32) (m : fm_)
  (h : am_k K (st_X10_carsOn (Sum.inr ((x1, x2, x3, x4, x5, x6, m)))) = some q) : P_X10_carsOn n r (Sum.inr ((x1, x2, x3, x4, x5, x6, m))) q := fun Q hQ =>
  am_T.wp sm_X10_carsOn (K := am_T m_X10_carsOn sp_X10_carsOn n Q) (cuts := [6, 26]) (fun _ _ _ _ h => h) 30
    (⟨fn_aF hf rfl rfl, fj_if h (fun c1 h2 => hK _ h2 _ _ hQ) (fun c1 h2 => ⟨fn_aF hf rfl rfl, Or.inl ⟨_, hf.2 98 0 6 rfl, ⟨fn_aF hf rfl rfl, Or.inl ⟨_, hf.2 98 8 104 rfl, fj_gd h2 fun g4 h3 => ⟨12, fn_aF hf rfl rfl, ix_t g4, ⟨fn_aF hf rfl rfl, Or.inl ⟨_, hf.2 98 8 104 rfl, fj_gd h3 fun g6 h5 => ⟨12, fn_aF hf rfl rfl, ix_t g6, fj_bd h5 fun q7 e8 h9 => ⟨Nat.le_of_ble_eq_true rfl, fn_aF hf rfl rfl, ⟨fn_FT hf, some (.int q7.1), q7.2, gp_X9_hop (n := n) (r := r)  e8, fun _ => fj_in h9 (fun c10 h11 => hK _ h11 _ hQ) (fun c10 h11 => ⟨fn_aF hf rfl rfl, Or.inl ⟨_, hf.2 98 4 101 rfl, fj_gd h11 fun g13 h12 => ⟨20, fn_aF hf rfl rfl, ix_t g13, hK _ h12 _ hQ⟩⟩⟩)⟩⟩⟩⟩⟩⟩⟩⟩⟩⟩)⟩)
theorem l_X10_carsOn {n : Nat} {r : Nat → Nat → Option Nat} (hf : fn_F n r) (s : S_X10_carsOn) (q : Int32 × fm_) (h : am_lp (st_X10_carsOn) s = some q) : P_X10_carsOn n r s q :=
  am_lp_snd (P := P_X10_carsOn n r) (fun K hK s q h => match s, h with
    | Sum.inl ((x1, x2, x3, x4, x5, m)), h => t_X10_carsOn_6 hf (fun s => hK s q) x1 x2 x3 x4 x5 m h
    | Sum.inr ((x1, x2, x3, x4, x5, x6, m)), h => t_X10_carsOn_26 hf (fun s => hK s q) x1 x2 x3 x4 x5 x6 m h) s q h
set_option maxRecDepth 100000 in
theorem t_X10_carsOn {n : Nat} {r : Nat → Nat → Option Nat} (hf : fn_F n r) {q : Int32 × fm_} (p1 : Int32) (p2 : Int32) (p3 : Int32) {m : fm_}
  (h : f_X10_carsOn p1 p2 p3 m = some q) {Q : Option Value → am_W → Prop} (hQ : Q (en_i q).1 (mk_ n r q.2)) : am_T m_X10_carsOn sp_X10_carsOn n Q 0 [some (.ref 98), some (.int p1), some (.int p2), some (.int p3), none, none, none] [] (mk_ n r m) :=
  am_T.wp sm_X10_carsOn (K := am_T m_X10_carsOn sp_X10_carsOn n Q) (cuts := [6, 26]) (fun _ _ _ _ h => h) 6
    (l_X10_carsOn hf _ _ h _ _ hQ)
noncomputable def G_X10_carsOn (n : Nat) (r : Nat → Nat → Option Nat) (as : List Value) (m : fm_) : Option (Option Value × fm_) := match as with
  | [.ref x0, .int p1, .int p2, .int p3] => gd_ (Nat.beq x0 98) ((f_X10_carsOn p1 p2 p3 m).map en_i)
  | _ => none
set_option maxRecDepth 100000 in
theorem gp_X10_carsOn {n : Nat} {r : Nat → Nat → Option Nat}  {p1 : Int32} {p2 : Int32} {p3 : Int32} {m : fm_} {q : Int32 × fm_}  (e : f_X10_carsOn p1 p2 p3 m = some q) : G_X10_carsOn n r [.ref 98, .int p1, .int p2, .int p3] m = some (en_i q) := by
  show (gd_ (Nat.beq 98 98) ((f_X10_carsOn p1 p2 p3 m).map en_i)) = _
  exact fn_gd rfl (fn_mp e)
set_option maxRecDepth 100000 in
theorem ok_X10_carsOn : am_mok 10 138 m_X10_carsOn = true := by decide +kernel
set_option maxRecDepth 100000 in
theorem c_X10_carsOn (l : Launch) {g : am_G} (hg : fx_ l g) : am_Met l g 5 138 (fn_s fn_F G_X10_carsOn) := by
  refine am_sound (own := 10) (M := m_X10_carsOn) (SP := sp_X10_carsOn) hg.1 (by decide +kernel) ok_X10_carsOn (by decide +kernel) ?_ (fun q hq hk => absurd hk (am_no61 (M := m_X10_carsOn) (by decide +kernel) q hq)) (fn_ext l _ rfl g 10) (Or.inl (by decide +kernel)) ?_ ?_
  · intro q hq hk
    have hm : q.2.2.2.1 ∈ am_cs m_X10_carsOn := am_cs_in hq hk
    rw [show am_cs m_X10_carsOn = [137, 122] by decide +kernel] at hm
    have hm : q.2.2.2.1 ∈ [122, 137] := (List.all_eq_true.mp (show ([137, 122] : List Nat).all (fun a => decide (a ∈ ([122, 137] : List Nat))) = true by decide +kernel) _ hm |> of_decide_eq_true)
    simp only [List.mem_cons, List.not_mem_nil, or_false] at hm
    rcases hm with hm | hm
    · rw [hm]; exact ⟨1, by omega, c_X9_hop l hg⟩
    · rw [hm]; exact ⟨4, by omega, c_X10_follow l hg⟩
  · intro as w K h
    obtain ⟨hf, y, m1, hG, hK⟩ := h
    unfold G_X10_carsOn at hG
    split at hG
    · exact Nat.le_of_ble_eq_true rfl
    · cases hG
  · intro as w K h
    obtain ⟨n, i0, l0, r⟩ := w
    obtain ⟨hf, y, m1, hG, hK⟩ := h
    unfold G_X10_carsOn at hG
    split at hG
    · next x0 p1 p2 p3 =>
      obtain ⟨hx1, hG1⟩ := gd_u hG
      obtain rfl := Nat.eq_of_beq_eq_true hx1
      obtain ⟨q, hq, he⟩ := fn_mu hG1
      obtain ⟨rfl, rfl⟩ := Prod.mk.inj he
      exact t_X10_carsOn  hf  p1 p2 p3 (m := (i0, l0)) hq hK
    · cases hG

