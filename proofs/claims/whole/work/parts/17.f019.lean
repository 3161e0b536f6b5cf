/-! == X10_carsAround == -/
abbrev S_X10_carsAround : Type := (Int32 × Int32 × Int32 × fm_)
noncomputable def st_X10_carsAround (s : S_X10_carsAround) : Option (S_X10_carsAround ⊕ (Int32 × fm_)) := match s with
  | (x1, x2, x3, m) =>
    (if (gi_ m 98 7) ≤ x3 then
((some (Sum.inr (x2, m))))
else
(Option.bind (f_X10_follow x3 x1 0 m) fun q3 =>
(if ((gi_ q3.2 98 10) &&& (gi_ q3.2 6 4)) = 0 then
(Option.bind (f_X10_follow x3 x1 1 q3.2) fun q8 =>
((some (Sum.inl ((x1, x2, (x3 + 1), q8.2))))))
else
(Option.bind (f_X10_follow x3 x1 1 q3.2) fun q12 =>
(if ((gi_ q12.2 98 10) &&& (gi_ q12.2 6 4)) = 0 then
(gd_ (ix_ x3 20)
((some (Sum.inl ((x1, (x2 + (gi_ q12.2 101 (Int32.toNatClampNeg x3))), (x3 + 1), q12.2))))))
else
((some (Sum.inl ((x1, x2, (x3 + 1), q12.2))))))))))
noncomputable def f_X10_carsAround_4 (x1 : Int32) (x2 : Int32) (x3 : Int32) (m : fm_) : Option (Int32 × fm_) := am_lp (st_X10_carsAround) ((x1, x2, x3, m))
theorem e_X10_carsAround_4 (x1 : Int32) (x2 : Int32) (x3 : Int32) (m : fm_) : f_X10_carsAround_4 x1 x2 x3 m =
(if (gi_ m 98 7) ≤ x3 then
((some (x2, m)))
else
(Option.bind (f_X10_follow x3 x1 0 m) fun q3 =>
(if ((gi_ q3.2 98 10) &&& (gi_ q3.2 6 4)) = 0 then
(Option.bind (f_X10_follow x3 x1 1 q3.2) fun q8 =>
((f_X10_carsAround_4 x1 x2 (x3 + 1) q8.2)))
else
(Option.bind (f_X10_follow x3 x1 1 q3.2) fun q12 =>
(if ((gi_ q12.2 98 10) &&& (gi_ q12.2 6 4)) = 0 then
(gd_ (ix_ x3 20)
((f_X10_carsAround_4 x1 (x2 + (gi_ q12.2 101 (Int32.toNatClampNeg x3))) (x3 + 1) q12.2)))
else
((f_X10_carsAround_4 x1 x2 (x3 + 1) q12.2))))))) :=
  (am_lp_eq _ _).trans (fe_if (rfl) (fe_bd fun q3 => (fe_if (fe_bd fun q8 => (rfl)) (fe_bd fun q12 => (fe_if (fe_gd (rfl)) (rfl))))))
noncomputable def f_X10_carsAround (p1 : Int32) (m : fm_) : Option (Int32 × fm_) :=
  ((f_X10_carsAround_4 p1 0 0 m))
def sp_X10_carsAround : am_S := fn_sp [(137, fn_F, G_X10_follow)]
theorem sm_X10_carsAround : am_Smono (sp_X10_carsAround) := fn_sp_mono _
def P_X10_carsAround (n : Nat) (r : Nat → Nat → Option Nat) (s : S_X10_carsAround) (q : Int32 × fm_) : Prop := match s with
  | (x1, x2, x3, m) => ∀ (Q : Option Value → am_W → Prop) (y4 : Option Value), Q (en_i q).1 (mk_ n r q.2) → am_T m_X10_carsAround sp_X10_carsAround n Q 4 [some (.ref 98), some (.int x1), some (.int x2), some (.int x3), y4] [] (mk_ n r m)
set_option maxRecDepth 100000 in
theorem t_X10_carsAround_4 {n : Nat} {r : Nat → Nat → Option Nat} (hf : fn_F n r) {K : S_X10_carsAround → Option (Int32 × fm_)} {q : Int32 × fm_} (hK : ∀ s, K s = some q → P_X10_carsAround n r s q) (x1 : Int32) (x2 : Int32) (x3 : Int32) (m : fm_)
  (h : am_k K (st_X10_carsAround ((x1, x2, x3, m))) = some q) : P_X10_carsAround n r ((x1, x2, x3, m)) q := fun Q y4 hQ =>
  am_T.wp sm_X10_carsAround (K := am_T m_X10_carsAround sp_X10_carsAround n Q) (cuts := [4]) (fun _ _ _ _ h => h) 44
    (⟨fn_aF hf rfl rfl, fj_if h (fun c1 h2 => ⟨rfl, fj_rt h2 hQ⟩) (fun c1 h2 => fj_bd h2 fun q3 e4 h5 => ⟨Nat.le_of_ble_eq_true rfl, fn_aF hf rfl rfl, ⟨hf, none, q3.2, gp_X10_follow (n := n) (r := r)  e4, fun _ => ⟨rfl, ⟨fn_aF hf rfl rfl, ⟨fn_aF hf rfl rfl, Or.inl ⟨_, hf.2 98 0 6 rfl, ⟨fn_aF hf rfl rfl, fj_if h5 (fun c6 h7 => fj_bd h7 fun q8 e9 h10 => ⟨Nat.le_of_ble_eq_true rfl, fn_aF hf rfl rfl, ⟨hf, none, q8.2, gp_X10_follow (n := n) (r := r)  e9, fun _ => ⟨rfl, ⟨fun c11 => hK _ h10 _ _ hQ, fun c11 => absurd c11 (by decide)⟩⟩⟩⟩) (fun c6 h7 => fj_bd h7 fun q12 e13 h14 => ⟨Nat.le_of_ble_eq_true rfl, fn_aF hf rfl rfl, ⟨hf, none, q12.2, gp_X10_follow (n := n) (r := r)  e13, fun _ => ⟨rfl, ⟨fun c15 => absurd c15 (by decide), fun c15 => ⟨fn_aF hf rfl rfl, ⟨fn_aF hf rfl rfl, Or.inl ⟨_, hf.2 98 0 6 rfl, ⟨fn_aF hf rfl rfl, fj_in h14 (fun c16 h17 => hK _ h17 _ _ hQ) (fun c16 h17 => ⟨fn_aF hf rfl rfl, Or.inl ⟨_, hf.2 98 4 101 rfl, fj_gd h17 fun g19 h18 => ⟨20, fn_aF hf rfl rfl, ix_t g19, hK _ h18 _ _ hQ⟩⟩⟩)⟩⟩⟩⟩⟩⟩⟩⟩)⟩⟩⟩⟩⟩⟩⟩)⟩)
theorem l_X10_carsAround {n : Nat} {r : Nat → Nat → Option Nat} (hf : fn_F n r) (s : S_X10_carsAround) (q : Int32 × fm_) (h : am_lp (st_X10_carsAround) s = some q) : P_X10_carsAround n r s q :=
  am_lp_snd (P := P_X10_carsAround n r) (fun K hK s q h => match s, h with
    | (x1, x2, x3, m), h => t_X10_carsAround_4 hf (fun s => hK s q) x1 x2 x3 m h) s q h
set_option maxRecDepth 100000 in
theorem t_X10_carsAround {n : Nat} {r : Nat → Nat → Option Nat} (hf : fn_F n r) {q : Int32 × fm_} (p1 : Int32) {m : fm_}
  (h : f_X10_carsAround p1 m = some q) {Q : Option Value → am_W → Prop} (hQ : Q (en_i q).1 (mk_ n r q.2)) : am_T m_X10_carsAround sp_X10_carsAround n Q 0 [some (.ref 98), some (.int p1), none, none, none] [] (mk_ n r m) :=
  am_T.wp sm_X10_carsAround (K := am_T m_X10_carsAround sp_X10_carsAround n Q) (cuts := [4]) (fun _ _ _ _ h => h) 6
    (l_X10_carsAround hf _ _ h _ _ hQ)
noncomputable def G_X10_carsAround (n : Nat) (r : Nat → Nat → Option Nat) (as : List Value) (m : fm_) : Option (Option Value × fm_) := match as with
  | [.ref x0, .int p1] => gd_ (Nat.beq x0 98) ((f_X10_carsAround p1 m).map en_i)
  | _ => none
set_option maxRecDepth 100000 in
theorem gp_X10_carsAround {n : Nat} {r : Nat → Nat → Option Nat}  {p1 : Int32} {m : fm_} {q : Int32 × fm_}  (e : f_X10_carsAround p1 m = some q) : G_X10_carsAround n r [.ref 98, .int p1] m = some (en_i q) := by
  show (gd_ (Nat.beq 98 98) ((f_X10_carsAround p1 m).map en_i)) = _
  exact fn_gd rfl (fn_mp e)
set_option maxRecDepth 100000 in
theorem ok_X10_carsAround : am_mok 10 139 m_X10_carsAround = true := by decide +kernel
set_option maxRecDepth 100000 in
theorem c_X10_carsAround (l : Launch) {g : am_G} (hg : fx_ l g) : am_Met l g 5 139 (fn_s fn_F G_X10_carsAround) := by
  refine am_sound (own := 10) (M := m_X10_carsAround) (SP := sp_X10_carsAround) hg.1 (by decide +kernel) ok_X10_carsAround (by decide +kernel) ?_ (fun q hq hk => absurd hk (am_no61 (M := m_X10_carsAround) (by decide +kernel) q hq)) (fn_ext l _ rfl g 10) (Or.inl (by decide +kernel)) ?_ ?_
  · intro q hq hk
    have hm : q.2.2.2.1 ∈ am_cs m_X10_carsAround := am_cs_in hq hk
    rw [show am_cs m_X10_carsAround = [137, 137] by decide +kernel] at hm
    have hm : q.2.2.2.1 ∈ [137] := (List.all_eq_true.mp (show ([137, 137] : List Nat).all (fun a => decide (a ∈ ([137] : List Nat))) = true by decide +kernel) _ hm |> of_decide_eq_true)
    simp only [List.mem_cons, List.not_mem_nil, or_false] at hm
    rcases hm with hm
    · rw [hm]; exact ⟨4, by omega, c_X10_follow l hg⟩
  · intro as w K h
    obtain ⟨hf, y, m1, hG, hK⟩ := h
    unfold G_X10_carsAround at hG
    split at hG
    · exact Nat.le_of_ble_eq_true rfl
    · cases hG
  · intro as w K h
    obtain ⟨n, i0, l0, r⟩ := w
    obtain ⟨hf, y, m1, hG, hK⟩ := h
    unfold G_X10_carsAround at hG
    split at hG
    · next x0 p1 =>
      obtain ⟨hx1, hG1⟩ := gd_u hG
      obtain rfl := Nat.eq_of_beq_eq_true hx1
      obtain ⟨q, hq, he⟩ := fn_mu hG1
      obtain ⟨rfl, rfl⟩ := Prod.mk.inj he
      exact t_X10_carsAround  hf  p1 (m := (i0, l0)) hq hK
    · cases hG

/-! == X10_carsMeeting == -/
abbrev S_X10_carsMeeting : Type := (Int32 × Int32 × Int32 × fm_)
noncomputable def st_X10_carsMeeting (s : S_X10_carsMeeting) : Option (S_X10_carsMeeting ⊕ (Int32 × fm_)) := match s with
  | (x1, x2, x3, m) =>
    (if (gi_ m 98 7) ≤ x3 then
((some (Sum.inr (x2, m))))
else
(gd_ (ix_ x3 20)
(if ((gi_ m 105 (Int32.toNatClampNeg x3)) &&& x1) = 0 then
((some (Sum.inl ((x1, x2, (x3 + 1), m)))))
else
(gd_ (ix_ x3 20)
((some (Sum.inl ((x1, (x2 + (gi_ m 101 (Int32.toNatClampNeg x3))), (x3 + 1), m)))))))))
noncomputable def f_X10_carsMeeting_4 (x1 : Int32) (x2 : Int32) (x3 : Int32) (m : fm_) : Option (Int32 × fm_) := am_lp (st_X10_carsMeeting) ((x1, x2, x3, m))
theorem e_X10_carsMeeting_4 (x1 : Int32) (x2 : Int32) (x3 : Int32) (m : fm_) : f_X10_carsMeeting_4 x1 x2 x3 m =
(if (gi_ m 98 7) ≤ x3 then
((some (x2, m)))
else
(gd_ (ix_ x3 20)
(if ((gi_ m 105 (Int32.toNatClampNeg x3)) &&& x1) = 0 then
((f_X10_carsMeeting_4 x1 x2 (x3 + 1) m))
else
(gd_ (ix_ x3 20)
((f_X10_carsMeeting_4 x1 (x2 + (gi_ m 101 (Int32.toNatClampNeg x3))) (x3 + 1) m)))))) :=
  (am_lp_eq _ _).trans (fe_if (rfl) (fe_gd (fe_if (rfl) (fe_gd (rfl)))))
noncomputable def f_X10_carsMeeting (p1 : Int32) (m : fm_) : Option (Int32 × fm_) :=
  ((f_X10_carsMeeting_4 p1 0 0 m))
def sp_X10_carsMeeting : am_S := fn_sp []
theorem sm_X10_carsMeeting : am_Smono (sp_X10_carsMeeting) := fn_sp_mono _
def P_X10_carsMeeting (n : Nat) (r : Nat → Nat → Option Nat) (s : S_X10_carsMeeting) (q : Int32 × fm_) : Prop := match s with
  | (x1, x2, x3, m) => ∀ (Q : Option Value → am_W → Prop), Q (en_i q).1 (mk_ n r q.2) → am_T m_X10_carsMeeting sp_X10_carsMeeting n Q 4 [some (.ref 98), some (.int x1), some (.int x2), some (.int x3)] [] (mk_ n r m)
set_option maxRecDepth 100000 in
theorem t_X10_carsMeeting_4 {n : Nat} {r : Nat → Nat → Option Nat} (hf : fn_F n r) {K : S_X10_carsMeeting → Option (Int32 × fm_)} {q : Int32 × fm_} (hK : ∀ s, K s = some q → P_X10_carsMeeting n r s q) (x1 : Int32) (x2 : Int32) (x3 : Int32) (m : fm_)
  (h : am_k K (st_X10_carsMeeting ((x1, x2, x3, m))) = some q) : P_X10_carsMeeting n r ((x1, x2, x3, m)) q := fun Q hQ =>
  am_T.wp sm_X10_carsMeeting (K := am_T m_X10_carsMeeting sp_X10_carsMeeting n Q) (cuts := [4]) (fun _ _ _ _ h => h) 22
    (⟨fn_aF hf rfl rfl, fj_if h (fun c1 h2 => ⟨rfl, fj_rt h2 hQ⟩) (fun c1 h2 => ⟨fn_aF hf rfl rfl, Or.inl ⟨_, hf.2 98 12 105 rfl, fj_gd h2 fun g4 h3 => ⟨20, fn_aF hf rfl rfl, ix_t g4, fj_if h3 (fun c5 h6 => hK _ h6 _ hQ) (fun c5 h6 => ⟨fn_aF hf rfl rfl, Or.inl ⟨_, hf.2 98 4 101 rfl, fj_gd h6 fun g8 h7 => ⟨20, fn_aF hf rfl rfl, ix_t g8, hK _ h7 _ hQ⟩⟩⟩)⟩⟩⟩)⟩)
theorem l_X10_carsMeeting {n : Nat} {r : Nat → Nat → Option Nat} (hf : fn_F n r) (s : S_X10_carsMeeting) (q : Int32 × fm_) (h : am_lp (st_X10_carsMeeting) s = some q) : P_X10_carsMeeting n r s q :=
  am_lp_snd (P := P_X10_carsMeeting n r) (fun K hK s q h => match s, h with
    | (x1, x2, x3, m), h => t_X10_carsMeeting_4 hf (fun s => hK s q) x1 x2 x3 m h) s q h
set_option maxRecDepth 100000 in
theorem t_X10_carsMeeting {n : Nat} {r : Nat → Nat → Option Nat} (hf : fn_F n r) {q : Int32 × fm_} (p1 : Int32) {m : fm_}
  (h : f_X10_carsMeeting p1 m = some q) {Q : Option Value → am_W → Prop} (hQ : Q (en_i q).1 (mk_ n r q.2)) : am_T m_X10_carsMeeting sp_X10_carsMeeting n Q 0 [some (.ref 98), some (.int p1), none, none] [] (mk_ n r m) :=
  am_T.wp sm_X10_carsMeeting (K := am_T m_X10_carsMeeting sp_X10_carsMeeting n Q) (cuts := [4]) (fun _ _ _ _ h => h) 6
    (l_X10_carsMeeting hf _ _ h _ hQ)
noncomputable def G_X10_carsMeeting (n : Nat) (r : Nat → Nat → Option Nat) (as : List Value) (m : fm_) : Option (Option Value × fm_) := match as with
  | [.ref x0, .int p1] => gd_ (Nat.beq x0 98) ((f_X10_carsMeeting p1 m).map en_i)
  | _ => none
set_option maxRecDepth 100000 in
theorem gp_X10_carsMeeting {n : Nat} {r : Nat → Nat → Option Nat}  {p1 : Int32} {m : fm_} {q : Int32 × fm_}  (e : f_X10_carsMeeting p1 m = some q) : G_X10_carsMeeting n r [.ref 98, .int p1] m = some (en_i q) := by
  show (gd_ (Nat.beq 98 98) ((f_X10_carsMeeting p1 m).map en_i)) = _
  exact fn_gd rfl (fn_mp e)
set_option maxRecDepth 100000 in
theorem ok_X10_carsMeeting : am_mok 10 141 m_X10_carsMeeting = true := by decide +kernel
set_option maxRecDepth 100000 in
theorem c_X10_carsMeeting (l : Launch) {g : am_G} (hg : fx_ l g) : am_Met l g 0 141 (fn_s fn_F G_X10_carsMeeting) := by
  refine am_sound (own := 10) (M := m_X10_carsMeeting) (SP := sp_X10_carsMeeting) hg.1 (by decide +kernel) ok_X10_carsMeeting (by decide +kernel) ?_ (fun q hq hk => absurd hk (am_no61 (M := m_X10_carsMeeting) (by decide +kernel) q hq)) (fn_ext l _ rfl g 10) (Or.inl (by decide +kernel)) ?_ ?_
  · intro q hq hk
    have hm : q.2.2.2.1 ∈ am_cs m_X10_carsMeeting := am_cs_in hq hk
    rw [show am_cs m_X10_carsMeeting = [] by decide +kernel] at hm
    cases hm
  · intro as w K h
    obtain ⟨hf, y, m1, hG, hK⟩ := h
    unfold G_X10_carsMeeting at hG
    split at hG
    · exact Nat.le_of_ble_eq_true rfl
    · cases hG
  · intro as w K h
    obtain ⟨n, i0, l0, r⟩ := w
    obtain ⟨hf, y, m1, hG, hK⟩ := h
    unfold G_X10_carsMeeting at hG
    split at hG
    · next x0 p1 =>
      obtain ⟨hx1, hG1⟩ := gd_u hG
      obtain rfl := Nat.eq_of_beq_eq_true hx1
      obtain ⟨q, hq, he⟩ := fn_mu hG1
      obtain ⟨rfl, rfl⟩ := Prod.mk.inj he
      exact t_X10_carsMeeting  hf  p1 (m := (i0, l0)) hq hK
    · cases hG

/-! == X10_placeCameras == -/
abbrev S_X10_placeCameras : Type := (Int32 × Int32 × Int32 × fm_) ⊕ (Int32 × Int32 × Int32 × fm_)
noncomputable def st_X10_placeCameras (s : S_X10_placeCameras) : Option (S_X10_placeCameras ⊕ (Int32 × fm_)) := match s with
  | Sum.inl ((x1, x2, x3, m)) =>
    (if (gi_ m 98 7) ≤ x3 then
((some (Sum.inl (Sum.inr ((x1, x2, 1, (si_ (si_ m 98 13 0) 98 14 0)))))))
else
(Option.bind (f_X10_follow x3 x1 1 m) fun q3 =>
(if ((gi_ q3.2 98 10) &&& (gi_ q3.2 6 9)) = 0 then
(gd_ (ix_ x3 20)
((some (Sum.inl (Sum.inl ((x1, x2, (x3 + 1), (si_ q3.2 105 (Int32.toNatClampNeg x3) (gi_ q3.2 98 10)))))))))
else
(gd_ (ix_ x3 20)
((some (Sum.inl (Sum.inl ((x1, x2, (x3 + 1), (si_ q3.2 105 (Int32.toNatClampNeg x3) 0)))))))))))
  | Sum.inr ((x1, x2, x3, m)) =>
    (if 4095 < x3 then
((some (Sum.inr (0, m))))
else
(Option.bind (f_J6_bitCount_0f7a4 x3 m) fun q3 =>
(if x2 < q3.1 then
((some (Sum.inl (Sum.inr ((x1, x2, (x3 + 1), q3.2))))))
else
(if (x3 &&& (gi_ q3.2 6 9)) = 0 then
(Option.bind (f_X10_carsMeeting x3 q3.2) fun q10 =>
(Option.bind (f_J6_bitCount_0f7a4 x3 q10.2) fun q13 =>
(Option.bind (f_J6_bitCount_0f7a4 (gi_ q13.2 98 13) q13.2) fun q16 =>
(if q16.1 ≤ q13.1 then
(if (gi_ q16.2 98 14) < q10.1 then
((some (Sum.inl (Sum.inr ((x1, x2, (x3 + 1), (si_ (si_ q16.2 98 13 x3) 98 14 q10.1)))))))
else
(if q10.1 = (gi_ q16.2 98 14) then
((some (Sum.inl (Sum.inr ((x1, x2, (x3 + 1), q16.2))))))
else
((some (Sum.inl (Sum.inr ((x1, x2, (x3 + 1), q16.2))))))))
else
(if (gi_ q16.2 98 14) < q10.1 then
((some (Sum.inl (Sum.inr ((x1, x2, (x3 + 1), (si_ (si_ q16.2 98 13 x3) 98 14 q10.1)))))))
else
(if q10.1 = (gi_ q16.2 98 14) then
((some (Sum.inl (Sum.inr ((x1, x2, (x3 + 1), (si_ (si_ q16.2 98 13 x3) 98 14 q10.1)))))))
else
((some (Sum.inl (Sum.inr ((x1, x2, (x3 + 1), q16.2))))))))))))
else
((some (Sum.inl (Sum.inr ((x1, x2, (x3 + 1), q3.2))))))))))
noncomputable def f_X10_placeCameras_2 (x1 : Int32) (x2 : Int32) (x3 : Int32) (m : fm_) : Option (Int32 × fm_) := am_lp (st_X10_placeCameras) (Sum.inl ((x1, x2, x3, m)))
noncomputable def f_X10_placeCameras_64 (x1 : Int32) (x2 : Int32) (x3 : Int32) (m : fm_) : Option (Int32 × fm_) := am_lp (st_X10_placeCameras) (Sum.inr ((x1, x2, x3, m)))
theorem e_X10_placeCameras_2 (x1 : Int32) (x2 : Int32) (x3 : Int32) (m : fm_) : f_X10_placeCameras_2 x1 x2 x3 m =
(if (gi_ m 98 7) ≤ x3 then
((f_X10_placeCameras_64 x1 x2 1 (si_ (si_ m 98 13 0) 98 14 0)))
else
(Option.bind (f_X10_follow x3 x1 1 m) fun q3 =>
(if ((gi_ q3.2 98 10) &&& (gi_ q3.2 6 9)) = 0 then
(gd_ (ix_ x3 20)
((f_X10_placeCameras_2 x1 x2 (x3 + 1) (si_ q3.2 105 (Int32.toNatClampNeg x3) (gi_ q3.2 98 10)))))
else
(gd_ (ix_ x3 20)
((f_X10_placeCameras_2 x1 x2 (x3 + 1) (si_ q3.2 105 (Int32.toNatClampNeg x3) 0))))))) :=
  (am_lp_eq _ _).trans (fe_if (rfl) (fe_bd fun q3 => (fe_if (fe_gd (rfl)) (fe_gd (rfl)))))
theorem e_X10_placeCameras_64 (x1 : Int32) (x2 : Int32) (x3 : Int32) (m : fm_) : f_X10_placeCameras_64 x1 x2 x3 m =
(if 4095 < x3 then
((some (0, m)))
else
(Option.bind (f_J6_bitCount_0f7a4 x3 m) fun q3 =>
(if x2 < q3.1 then
((f_X10_placeCameras_64 x1 x2 (x3 + 1) q3.2))
else
(if (x3 &&& (gi_ q3.2 6 9)) = 0 then
(Option.bind (f_X10_carsMeeting x3 q3.2) fun q10 =>
(Option.bind (f_J6_bitCount_0f7a4 x3 q10.2) fun q13 =>
(Option.bind (f_J6_bitCount_0f7a4 (gi_ q13.2 98 13) q13.2) fun q16 =>
(if q16.1 ≤ q13.1 then
(if (gi_ q16.2 98 14) < q10.1 then
((f_X10_placeCameras_64 x1 x2 (x3 + 1) (si_ (si_ q16.2 98 13 x3) 98 14 q10.1)))
else
(if q10.1 = (gi_ q16.2 98 14) then
((f_X10_placeCameras_64 x1 x2 (x3 + 1) q16.2))
else
((f_X10_placeCameras_64 x1 x2 (x3 + 1) q16.2))))
else
(if (gi_ q16.2 98 14) < q10.1 then
((f_X10_placeCameras_64 x1 x2 (x3 + 1) (si_ (si_ q16.2 98 13 x3) 98 14 q10.1)))
else
(if q10.1 = (gi_ q16.2 98 14) then
((f_X10_placeCameras_64 x1 x2 (x3 + 1) (si_ (si_ q16.2 98 13 x3) 98 14 q10.1)))
else
((f_X10_placeCameras_64 x1 x2 (x3 + 1) q16.2))))))))
else
((f_X10_placeCameras_64 x1 x2 (x3 + 1) q3.2)))))) :=
  (am_lp_eq _ _).trans (fe_if (rfl) (fe_bd fun q3 => (fe_if (rfl) (fe_if (fe_bd fun q10 => (fe_bd fun q13 => (fe_bd fun q16 => (fe_if (fe_if (rfl) (fe_if (rfl) (rfl))) (fe_if (rfl) (fe_if (rfl) (rfl))))))) (rfl)))))
noncomputable def f_X10_placeCameras (p1 : Int32) (p2 : Int32) (m : fm_) : Option (Int32 × fm_) :=
  ((f_X10_placeCameras_2 p1 p2 0 m))
def sp_X10_placeCameras : am_S := fn_sp [(137, fn_F, G_X10_follow), (285, fn_0, G_J6_bitCount_0f7a4), (141, fn_F, G_X10_carsMeeting)]
theorem sm_X10_placeCameras : am_Smono (sp_X10_placeCameras) := fn_sp_mono _
def P_X10_placeCameras (n : Nat) (r : Nat → Nat → Option Nat) (s : S_X10_placeCameras) (q : Int32 × fm_) : Prop := match s with
  | Sum.inl ((x1, x2, x3, m)) => ∀ (Q : Option Value → am_W → Prop), Q (en_v q).1 (mk_ n r q.2) → am_T m_X10_placeCameras sp_X10_placeCameras n Q 2 [some (.ref 98), some (.int x1), some (.int x2), some (.int x3), none, none] [] (mk_ n r m)
  | Sum.inr ((x1, x2, x3, m)) => ∀ (Q : Option Value → am_W → Prop) (y4 : Option Value) (y5 : Option Value), Q (en_v q).1 (mk_ n r q.2) → am_T m_X10_placeCameras sp_X10_placeCameras n Q 64 [some (.ref 98), some (.int x1), some (.int x2), some (.int x3), y4, y5] [] (mk_ n r m)
set_option maxRecDepth 100000 in
theorem t_X10_placeCameras_2 {n : Nat} {r : Nat → Nat → Option Nat} (hf : fn_F n r) {K : S_X10_placeCameras → Option (Int32 × fm_)} {q : Int32 × fm_} (hK : ∀ s, K s = some q → P_X10_placeCameras n r s q) (x1 : Int32) (x2 : Int32) (x3 : Int32) (m : fm_)
  (h : am_k K (st_X10_placeCameras (Sum.inl ((x1, x2, x3, m)))) = some q) : P_X10_placeCameras n r (Sum.inl ((x1, x2, x3, m))) q := fun Q hQ =>
  am_T.wp sm_X10_placeCameras (K := am_T m_X10_placeCameras sp_X10_placeCameras n Q) (cuts := [2, 64]) (fun _ _ _ _ h => h) 27
    (⟨fn_aF hf rfl rfl, fj_if h (fun c1 h2 => ⟨fn_aF hf rfl rfl, ⟨fn_aF hf rfl rfl, hK _ h2 _ _ _ hQ⟩⟩) (fun c1 h2 => fj_bd h2 fun q3 e4 h5 => ⟨Nat.le_of_ble_eq_true rfl, fn_aF hf rfl rfl, ⟨hf, none, q3.2, gp_X10_follow (n := n) (r := r)  e4, fun _ => ⟨rfl, ⟨fn_aF hf rfl rfl, Or.inl ⟨_, hf.2 98 12 105 rfl, ⟨fn_aF hf rfl rfl, ⟨fn_aF hf rfl rfl, Or.inl ⟨_, hf.2 98 0 6 rfl, ⟨fn_aF hf rfl rfl, fj_in h5 (fun c6 h7 => fj_gd h7 fun g9 h8 => ⟨20, fn_aF hf rfl rfl, ix_t g9, hK _ h8 _ hQ⟩) (fun c6 h7 => ⟨fn_aF hf rfl rfl, fj_gd h7 fun g11 h10 => ⟨20, fn_aF hf rfl rfl, ix_t g11, hK _ h10 _ hQ⟩⟩)⟩⟩⟩⟩⟩⟩⟩⟩⟩)⟩)
set_option maxRecDepth 100000 in
theorem t_X10_placeCameras_64 {n : Nat} {r : Nat → Nat → Option Nat} (hf : fn_F n r) {K : S_X10_placeCameras → Option (Int32 × fm_)} {q : Int32 × fm_} (hK : ∀ s, K s = some q → P_X10_placeCameras n r s q) (x1 : Int32) (x2 : Int32) (x3 : Int32) (m : fm_)
  (h : am_k K (st_X10_placeCameras (Sum.inr ((x1, x2, x3, m)))) = some q) : P_X10_placeCameras n r (Sum.inr ((x1, x2, x3, m))) q := fun Q y4 y5 hQ =>
  am_T.wp sm_X10_placeCameras (K := am_T m_X10_placeCameras sp_X10_placeCameras n Q) (cuts := [2, 64]) (fun _ _ _ _ h => h) 46
    (fj_if h (fun c1 h2 => ⟨rfl, fj_rt h2 hQ⟩) (fun c1 h2 => fj_bd h2 fun q3 e4 h5 => ⟨Nat.le_of_ble_eq_true rfl, trivial, ⟨trivial, some (.int q3.1), q3.2, gp_J6_bitCount_0f7a4 (n := n) (r := r)  e4, fun _ => fj_if h5 (fun c6 h7 => hK _ h7 _ _ _ hQ) (fun c6 h7 => ⟨fn_aF hf rfl rfl, Or.inl ⟨_, hf.2 98 0 6 rfl, ⟨fn_aF hf rfl rfl, fj_if h7 (fun c8 h9 => fj_bd h9 fun q10 e11 h12 => ⟨Nat.le_of_ble_eq_true rfl, fn_aF hf rfl rfl, ⟨hf, some (.int q10.1), q10.2, gp_X10_carsMeeting (n := n) (r := r)  e11, fun _ => fj_bd h12 fun q13 e14 h15 => ⟨Nat.le_of_ble_eq_true rfl, trivial, ⟨trivial, some (.int q13.1), q13.2, gp_J6_bitCount_0f7a4 (n := n) (r := r)  e14, fun _ => ⟨fn_aF hf rfl rfl, fj_bd h15 fun q16 e17 h18 => ⟨Nat.le_of_ble_eq_true rfl, trivial, ⟨trivial, some (.int q16.1), q16.2, gp_J6_bitCount_0f7a4 (n := n) (r := r)  e17, fun _ => fj_if h18 (fun c19 h20 => ⟨fn_aF hf rfl rfl, fj_if h20 (fun c21 h22 => ⟨fn_aF hf rfl rfl, ⟨fn_aF hf rfl rfl, hK _ h22 _ _ _ hQ⟩⟩) (fun c21 h22 => ⟨fn_aF hf rfl rfl, fj_in h22 (fun c23 h24 => hK _ h24 _ _ _ hQ) (fun c23 h24 => ⟨fun c25 => hK _ h24 _ _ _ hQ, fun c25 => absurd c25 (by decide)⟩)⟩)⟩) (fun c19 h20 => ⟨fn_aF hf rfl rfl, fj_if h20 (fun c26 h27 => ⟨fn_aF hf rfl rfl, ⟨fn_aF hf rfl rfl, hK _ h27 _ _ _ hQ⟩⟩) (fun c26 h27 => ⟨fn_aF hf rfl rfl, fj_in h27 (fun c28 h29 => hK _ h29 _ _ _ hQ) (fun c28 h29 => ⟨fun c30 => absurd c30 (by decide), fun c30 => ⟨fn_aF hf rfl rfl, ⟨fn_aF hf rfl rfl, hK _ h29 _ _ _ hQ⟩⟩⟩)⟩)⟩)⟩⟩⟩⟩⟩⟩⟩) (fun c8 h9 => hK _ h9 _ _ _ hQ)⟩⟩⟩)⟩⟩))
theorem l_X10_placeCameras {n : Nat} {r : Nat → Nat → Option Nat} (hf : fn_F n r) (s : S_X10_placeCameras) (q : Int32 × fm_) (h : am_lp (st_X10_placeCameras) s = some q) : P_X10_placeCameras n r s q :=
  am_lp_snd (P := P_X10_placeCameras n r) (fun K hK s q h => match s, h with
    | Sum.inl ((x1, x2, x3, m)), h => t_X10_placeCameras_2 hf (fun s => hK s q) x1 x2 x3 m h
    | Sum.inr ((x1, x2, x3, m)), h => t_X10_placeCameras_64 hf (fun s => hK s q) x1 x2 x3 m h) s q h
set_option maxRecDepth 100000 in
theorem t_X10_placeCameras {n : Nat} {r : Nat → Nat → Option Nat} (hf : fn_F n r) {q : Int32 × fm_} (p1 : Int32) (p2 : Int32) {m : fm_}
  (h : f_X10_placeCameras p1 p2 m = some q) {Q : Option Value → am_W → Prop} (hQ : Q (en_v q).1 (mk_ n r q.2)) : am_T m_X10_placeCameras sp_X10_placeCameras n Q 0 [some (.ref 98), some (.int p1), some (.int p2), none, none, none] [] (mk_ n r m) :=
  am_T.wp sm_X10_placeCameras (K := am_T m_X10_placeCameras sp_X10_placeCameras n Q) (cuts := [2, 64]) (fun _ _ _ _ h => h) 4
    (l_X10_placeCameras hf _ _ h _ hQ)
noncomputable def G_X10_placeCameras (n : Nat) (r : Nat → Nat → Option Nat) (as : List Value) (m : fm_) : Option (Option Value × fm_) := match as with
  | [.ref x0, .int p1, .int p2] => gd_ (Nat.beq x0 98) ((f_X10_placeCameras p1 p2 m).map en_v)
  | _ => none
set_option maxRecDepth 100000 in
theorem gp_X10_placeCameras {n : Nat} {r : Nat → Nat → Option Nat}  {p1 : Int32} {p2 : Int32} {m : fm_} {q : Int32 × fm_}  (e : f_X10_placeCameras p1 p2 m = some q) : G_X10_placeCameras n r [.ref 98, .int p1, .int p2] m = some (en_v q) := by
  show (gd_ (Nat.beq 98 98) ((f_X10_placeCameras p1 p2 m).map en_v)) = _
  exact fn_gd rfl (fn_mp e)
set_option maxRecDepth 100000 in
theorem ok_X10_placeCameras : am_mok 10 140 m_X10_placeCameras = true := by decide +kernel
set_option maxRecDepth 100000 in
theorem c_X10_placeCameras (l : Launch) {g : am_G} (hg : fx_ l g) : am_Met l g 5 140 (fn_s fn_F G_X10_placeCameras) := by
  refine am_sound (own := 10) (M := m_X10_placeCameras) (SP := sp_X10_placeCameras) hg.1 (by decide +kernel) ok_X10_placeCameras (by decide +kernel) ?_ (fun q hq hk => absurd hk (am_no61 (M := m_X10_placeCameras) (by decide +kernel) q hq)) (fn_ext l _ rfl g 10) (Or.inl (by decide +kernel)) ?_ ?_
  · intro q hq hk
    have hm : q.2.2.2.1 ∈ am_cs m_X10_placeCameras := am_cs_in hq hk
    rw [show am_cs m_X10_placeCameras = [137, 285, 141, 285, 285] by decide +kernel] at hm
    have hm : q.2.2.2.1 ∈ [137, 141, 285] := (List.all_eq_true.mp (show ([137, 285, 141, 285, 285] : List Nat).all (fun a => decide (a ∈ ([137, 141, 285] : List Nat))) = true by decide +kernel) _ hm |> of_decide_eq_true)
    simp only [List.mem_cons, List.not_mem_nil, or_false] at hm
    rcases hm with hm | hm | hm
    · rw [hm]; exact ⟨4, by omega, c_X10_follow l hg⟩
    · rw [hm]; exact ⟨0, by omega, c_X10_carsMeeting l hg⟩
    · rw [hm]; exact ⟨0, by omega, c_J6_bitCount_0f7a4 l hg⟩
  · intro as w K h
    obtain ⟨hf, y, m1, hG, hK⟩ := h
    unfold G_X10_placeCameras at hG
    split at hG
    · exact Nat.le_of_ble_eq_true rfl
    · cases hG
  · intro as w K h
    obtain ⟨n, i0, l0, r⟩ := w
    obtain ⟨hf, y, m1, hG, hK⟩ := h
    unfold G_X10_placeCameras at hG
    split at hG
    · next x0 p1 p2 =>
      obtain ⟨hx1, hG1⟩ := gd_u hG
      obtain rfl := Nat.eq_of_beq_eq_true hx1
      obtain ⟨q, hq, he⟩ := fn_mu hG1
      obtain ⟨rfl, rfl⟩ := Prod.mk.inj he
      exact t_X10_placeCameras  hf  p1 p2 (m := (i0, l0)) hq hK
    · cases hG

/-! == X11_feed == -/
noncomputable def f_X11_feed (p1 : Int32) (p2 : Int32) (p3 : Int32) (p4 : Int32) (p5 : Int32) (m : fm_) : Option (Int32 × fm_) :=
  (if (gi_ m 1 4) ≤ 880 then
(Option.bind (f_X8_append p1 m) fun q3 =>
(Option.bind (f_X8_append p2 q3.2) fun q6 =>
(Option.bind (f_X8_append p3 q6.2) fun q9 =>
(Option.bind (f_X8_append p4 q9.2) fun q12 =>
(Option.bind (f_X8_append p5 q12.2) fun q15 =>
((some ((gi_ q15.2 1 4), q15.2))))))))
else
((some ((-1), m))))
def sp_X11_feed : am_S := fn_sp [(90, fn_F, G_X8_append)]
theorem sm_X11_feed : am_Smono (sp_X11_feed) := fn_sp_mono _
set_option maxRecDepth 100000 in
theorem t_X11_feed {n : Nat} {r : Nat → Nat → Option Nat} (hf : fn_F n r) {q : Int32 × fm_} (p1 : Int32) (p2 : Int32) (p3 : Int32) (p4 : Int32) (p5 : Int32) {m : fm_}
  (h : f_X11_feed p1 p2 p3 p4 p5 m = some q) {Q : Option Value → am_W → Prop} (hQ : Q (en_i q).1 (mk_ n r q.2)) : am_T m_X11_feed sp_X11_feed n Q 0 [some (.ref 0), some (.int p1), some (.int p2), some (.int p3), some (.int p4), some (.int p5)] [] (mk_ n r m) :=
  am_T.wp sm_X11_feed (K := am_T m_X11_feed sp_X11_feed n Q) (cuts := []) (fun _ _ _ _ h => h) 30
    (⟨fn_aF hf rfl rfl, Or.inl ⟨_, hf.2 0 0 1 rfl, ⟨fn_aF hf rfl rfl, fh_if h (fun c1 h2 => ⟨fn_aF hf rfl rfl, Or.inl ⟨_, hf.2 0 0 1 rfl, fh_bd h2 fun q3 e4 h5 => ⟨Nat.le_of_ble_eq_true rfl, fn_aF hf rfl rfl, ⟨hf, none, q3.2, gp_X8_append (n := n) (r := r)  e4, fun _ => ⟨rfl, ⟨fn_aF hf rfl rfl, Or.inl ⟨_, hf.2 0 0 1 rfl, fh_bd h5 fun q6 e7 h8 => ⟨Nat.le_of_ble_eq_true rfl, fn_aF hf rfl rfl, ⟨hf, none, q6.2, gp_X8_append (n := n) (r := r)  e7, fun _ => ⟨rfl, ⟨fn_aF hf rfl rfl, Or.inl ⟨_, hf.2 0 0 1 rfl, fh_bd h8 fun q9 e10 h11 => ⟨Nat.le_of_ble_eq_true rfl, fn_aF hf rfl rfl, ⟨hf, none, q9.2, gp_X8_append (n := n) (r := r)  e10, fun _ => ⟨rfl, ⟨fn_aF hf rfl rfl, Or.inl ⟨_, hf.2 0 0 1 rfl, fh_bd h11 fun q12 e13 h14 => ⟨Nat.le_of_ble_eq_true rfl, fn_aF hf rfl rfl, ⟨hf, none, q12.2, gp_X8_append (n := n) (r := r)  e13, fun _ => ⟨rfl, ⟨fn_aF hf rfl rfl, Or.inl ⟨_, hf.2 0 0 1 rfl, fh_bd h14 fun q15 e16 h17 => ⟨Nat.le_of_ble_eq_true rfl, fn_aF hf rfl rfl, ⟨hf, none, q15.2, gp_X8_append (n := n) (r := r)  e16, fun _ => ⟨rfl, ⟨fn_aF hf rfl rfl, Or.inl ⟨_, hf.2 0 0 1 rfl, ⟨fn_aF hf rfl rfl, ⟨rfl, fh_rt h17 hQ⟩⟩⟩⟩⟩⟩⟩⟩⟩⟩⟩⟩⟩⟩⟩⟩⟩⟩⟩⟩⟩⟩⟩⟩⟩⟩⟩⟩⟩) (fun c1 h2 => ⟨rfl, fh_rt h2 hQ⟩)⟩⟩⟩)
noncomputable def G_X11_feed (n : Nat) (r : Nat → Nat → Option Nat) (as : List Value) (m : fm_) : Option (Option Value × fm_) := match as with
  | [.ref x0, .int p1, .int p2, .int p3, .int p4, .int p5] => gd_ (Nat.beq x0 0) ((f_X11_feed p1 p2 p3 p4 p5 m).map en_i)
  | _ => none
set_option maxRecDepth 100000 in
theorem gp_X11_feed {n : Nat} {r : Nat → Nat → Option Nat}  {p1 : Int32} {p2 : Int32} {p3 : Int32} {p4 : Int32} {p5 : Int32} {m : fm_} {q : Int32 × fm_}  (e : f_X11_feed p1 p2 p3 p4 p5 m = some q) : G_X11_feed n r [.ref 0, .int p1, .int p2, .int p3, .int p4, .int p5] m = some (en_i q) := by
  show (gd_ (Nat.beq 0 0) ((f_X11_feed p1 p2 p3 p4 p5 m).map en_i)) = _
  exact fn_gd rfl (fn_mp e)
set_option maxRecDepth 100000 in
theorem ok_X11_feed : am_mok 11 146 m_X11_feed = true := by decide +kernel
set_option maxRecDepth 100000 in
theorem c_X11_feed (l : Launch) {g : am_G} (hg : fx_ l g) : am_Met l g 1 146 (fn_s fn_F G_X11_feed) := by
  refine am_sound (own := 11) (M := m_X11_feed) (SP := sp_X11_feed) hg.1 (by decide +kernel) ok_X11_feed (by decide +kernel) ?_ (fun q hq hk => absurd hk (am_no61 (M := m_X11_feed) (by decide +kernel) q hq)) (fn_ext l _ rfl g 11) (Or.inl (by decide +kernel)) ?_ ?_
  · intro q hq hk
    have hm : q.2.2.2.1 ∈ am_cs m_X11_feed := am_cs_in hq hk
    rw [show am_cs m_X11_feed = [90, 90, 90, 90, 90] by decide +kernel] at hm
    have hm : q.2.2.2.1 ∈ [90] := (List.all_eq_true.mp (show ([90, 90, 90, 90, 90] : List Nat).all (fun a => decide (a ∈ ([90] : List Nat))) = true by decide +kernel) _ hm |> of_decide_eq_true)
    simp only [List.mem_cons, List.not_mem_nil, or_false] at hm
    rcases hm with hm
    · rw [hm]; exact ⟨0, by omega, c_X8_append l hg⟩
  · intro as w K h
    obtain ⟨hf, y, m1, hG, hK⟩ := h
    unfold G_X11_feed at hG
    split at hG
    · exact Nat.le_of_ble_eq_true rfl
    · cases hG
  · intro as w K h
    obtain ⟨n, i0, l0, r⟩ := w
    obtain ⟨hf, y, m1, hG, hK⟩ := h
    unfold G_X11_feed at hG
    split at hG
    · next x0 p1 p2 p3 p4 p5 =>
      obtain ⟨hx1, hG1⟩ := gd_u hG
      obtain rfl := Nat.eq_of_beq_eq_true hx1
      obtain ⟨q, hq, he⟩ := fn_mu hG1
      obtain ⟨rfl, rfl⟩ := Prod.mk.inj he
      exact t_X11_feed  hf  p1 p2 p3 p4 p5 (m := (i0, l0)) hq hK
    · cases hG

/-! == X11_end == -/
noncomputable def f_X11_end (p1 : Int32) (m : fm_) : Option (Int32 × fm_) :=
  (if p1 < 0 then
((some ((-1), m)))
else
(if p1 ≤ (gi_ m 1 4) then
((some (p1, (si_ m 1 4 p1))))
else
((some ((-1), m)))))
def sp_X11_end : am_S := fn_sp []
theorem sm_X11_end : am_Smono (sp_X11_end) := fn_sp_mono _
set_option maxRecDepth 100000 in
theorem t_X11_end {n : Nat} {r : Nat → Nat → Option Nat} (hf : fn_F n r) {q : Int32 × fm_} (p1 : Int32) {m : fm_}
  (h : f_X11_end p1 m = some q) {Q : Option Value → am_W → Prop} (hQ : Q (en_i q).1 (mk_ n r q.2)) : am_T m_X11_end sp_X11_end n Q 0 [some (.ref 0), some (.int p1)] [] (mk_ n r m) :=
  am_T.wp sm_X11_end (K := am_T m_X11_end sp_X11_end n Q) (cuts := []) (fun _ _ _ _ h => h) 14
    (fh_if h (fun c1 h2 => ⟨rfl, fh_rt h2 hQ⟩) (fun c1 h2 => ⟨fn_aF hf rfl rfl, Or.inl ⟨_, hf.2 0 0 1 rfl, ⟨fn_aF hf rfl rfl, fh_if h2 (fun c3 h4 => ⟨fn_aF hf rfl rfl, Or.inl ⟨_, hf.2 0 0 1 rfl, ⟨fn_aF hf rfl rfl, ⟨rfl, fh_rt h4 hQ⟩⟩⟩⟩) (fun c3 h4 => ⟨rfl, fh_rt h4 hQ⟩)⟩⟩⟩))
noncomputable def G_X11_end (n : Nat) (r : Nat → Nat → Option Nat) (as : List Value) (m : fm_) : Option (Option Value × fm_) := match as with
  | [.ref x0, .int p1] => gd_ (Nat.beq x0 0) ((f_X11_end p1 m).map en_i)
  | _ => none
set_option maxRecDepth 100000 in
theorem gp_X11_end {n : Nat} {r : Nat → Nat → Option Nat}  {p1 : Int32} {m : fm_} {q : Int32 × fm_}  (e : f_X11_end p1 m = some q) : G_X11_end n r [.ref 0, .int p1] m = some (en_i q) := by
  show (gd_ (Nat.beq 0 0) ((f_X11_end p1 m).map en_i)) = _
  exact fn_gd rfl (fn_mp e)
set_option maxRecDepth 100000 in
theorem ok_X11_end : am_mok 11 147 m_X11_end = true := by decide +kernel
set_option maxRecDepth 100000 in
theorem c_X11_end (l : Launch) {g : am_G} (hg : fx_ l g) : am_Met l g 0 147 (fn_s fn_F G_X11_end) := by
  refine am_sound (own := 11) (M := m_X11_end) (SP := sp_X11_end) hg.1 (by decide +kernel) ok_X11_end (by decide +kernel) ?_ (fun q hq hk => absurd hk (am_no61 (M := m_X11_end) (by decide +kernel) q hq)) (fn_ext l _ rfl g 11) (Or.inl (by decide +kernel)) ?_ ?_
  · intro q hq hk
    have hm : q.2.2.2.1 ∈ am_cs m_X11_end := am_cs_in hq hk
    rw [show am_cs m_X11_end = [] by decide +kernel] at hm
    cases hm
  · intro as w K h
    obtain ⟨hf, y, m1, hG, hK⟩ := h
    unfold G_X11_end at hG
    split at hG
    · exact Nat.le_of_ble_eq_true rfl
    · cases hG
  · intro as w K h
    obtain ⟨n, i0, l0, r⟩ := w
    obtain ⟨hf, y, m1, hG, hK⟩ := h
    unfold G_X11_end at hG
    split at hG
    · next x0 p1 =>
      obtain ⟨hx1, hG1⟩ := gd_u hG
      obtain rfl := Nat.eq_of_beq_eq_true hx1
      obtain ⟨q, hq, he⟩ := fn_mu hG1
      obtain ⟨rfl, rfl⟩ := Prod.mk.inj he
      exact t_X11_end  hf  p1 (m := (i0, l0)) hq hK
    · cases hG

/-! == X11_map == -/
noncomputable def f_X11_map  (m : fm_) : Option (Int32 × fm_) :=
  (Option.bind (f_X8_split m) fun q1 =>
(Option.bind (f_X9_readLines 18 (si_ q1.2 1 4 0)) fun q4 =>
(if q4.1 = (-1) then
((some ((-1), q4.2)))
else
(Option.bind (f_X8_restart q4.2) fun q9 =>
(Option.bind (f_X9_readLines 6 q9.2) fun q12 =>
(Option.bind (f_X9_measure q12.2) fun q15 =>
(Option.bind (f_X1_dropReadings q15.2) fun q18 =>
(Option.bind (f_X6_forget q18.2) fun q21 =>
((some (q12.1, (si_ q21.2 98 7 0))))))))))))
def sp_X11_map : am_S := fn_sp [(91, fn_F, G_X8_split), (116, fn_F, G_X9_readLines), (92, fn_F, G_X8_restart), (117, fn_T, G_X9_measure), (14, fn_F, G_X1_dropReadings), (62, fn_U, G_X6_forget)]
theorem sm_X11_map : am_Smono (sp_X11_map) := fn_sp_mono _
set_option maxRecDepth 100000 in
theorem t_X11_map {n : Nat} {r : Nat → Nat → Option Nat} (hf : fn_F n r) {q : Int32 × fm_}  {m : fm_}
  (h : f_X11_map  m = some q) {Q : Option Value → am_W → Prop} (hQ : Q (en_i q).1 (mk_ n r q.2)) : am_T m_X11_map sp_X11_map n Q 0 [some (.ref 0), none] [] (mk_ n r m) :=
  am_T.wp sm_X11_map (K := am_T m_X11_map sp_X11_map n Q) (cuts := []) (fun _ _ _ _ h => h) 39
    (⟨fn_aF hf rfl rfl, Or.inl ⟨_, hf.2 0 0 1 rfl, fh_bd h fun q1 e2 h3 => ⟨Nat.le_of_ble_eq_true rfl, fn_aF hf rfl rfl, ⟨hf, none, q1.2, gp_X8_split (n := n) (r := r)  e2, fun _ => ⟨rfl, ⟨fn_aF hf rfl rfl, Or.inl ⟨_, hf.2 0 0 1 rfl, ⟨fn_aF hf rfl rfl, ⟨fn_aF hf rfl rfl, Or.inl ⟨_, hf.2 0 2 18 rfl, ⟨fn_aF hf rfl rfl, Or.inl ⟨_, hf.2 0 0 1 rfl, fh_bd h3 fun q4 e5 h6 => ⟨Nat.le_of_ble_eq_true rfl, fn_aF hf rfl rfl, ⟨hf, some (.int q4.1), q4.2, gp_X9_readLines (n := n) (r := r) rfl e5, fun _ => fh_in h6 (fun c7 h8 => ⟨fn_aF hf rfl rfl, Or.inl ⟨_, hf.2 0 0 1 rfl, fh_bd h8 fun q9 e10 h11 => ⟨Nat.le_of_ble_eq_true rfl, fn_aF hf rfl rfl, ⟨hf, none, q9.2, gp_X8_restart (n := n) (r := r)  e10, fun _ => ⟨rfl, ⟨fn_aF hf rfl rfl, Or.inl ⟨_, hf.2 0 1 6 rfl, ⟨fn_aF hf rfl rfl, Or.inl ⟨_, hf.2 0 0 1 rfl, fh_bd h11 fun q12 e13 h14 => ⟨Nat.le_of_ble_eq_true rfl, fn_aF hf rfl rfl, ⟨hf, some (.int q12.1), q12.2, gp_X9_readLines (n := n) (r := r) rfl e13, fun _ => ⟨fn_aF hf rfl rfl, Or.inl ⟨_, hf.2 0 1 6 rfl, fh_bd h14 fun q15 e16 h17 => ⟨Nat.le_of_ble_eq_true rfl, fn_aF hf rfl rfl, ⟨fn_FT hf, none, q15.2, gp_X9_measure (n := n) (r := r)  e16, fun _ => ⟨rfl, ⟨fn_aF hf rfl rfl, Or.inl ⟨_, hf.2 0 6 72 rfl, fh_bd h17 fun q18 e19 h20 => ⟨Nat.le_of_ble_eq_true rfl, fn_aF hf rfl rfl, ⟨hf, none, q18.2, gp_X1_dropReadings (n := n) (r := r)  e19, fun _ => ⟨rfl, ⟨fn_aF hf rfl rfl, Or.inl ⟨_, hf.2 0 7 82 rfl, fh_bd h20 fun q21 e22 h23 => ⟨Nat.le_of_ble_eq_true rfl, fn_aF hf rfl rfl, ⟨fn_FU hf, none, q21.2, gp_X6_forget (n := n) (r := r)  e22, fun _ => ⟨rfl, ⟨fn_aF hf rfl rfl, Or.inl ⟨_, hf.2 0 10 98 rfl, ⟨fn_aF hf rfl rfl, ⟨rfl, fh_rt h23 hQ⟩⟩⟩⟩⟩⟩⟩⟩⟩⟩⟩⟩⟩⟩⟩⟩⟩⟩⟩⟩⟩⟩⟩⟩⟩⟩⟩⟩⟩⟩) (fun c7 h8 => ⟨rfl, fh_rt h8 hQ⟩)⟩⟩⟩⟩⟩⟩⟩⟩⟩⟩⟩⟩⟩⟩)
noncomputable def G_X11_map (n : Nat) (r : Nat → Nat → Option Nat) (as : List Value) (m : fm_) : Option (Option Value × fm_) := match as with
  | [.ref x0] => gd_ (Nat.beq x0 0) ((f_X11_map  m).map en_i)
  | _ => none
set_option maxRecDepth 100000 in
theorem gp_X11_map {n : Nat} {r : Nat → Nat → Option Nat}   {m : fm_} {q : Int32 × fm_}  (e : f_X11_map  m = some q) : G_X11_map n r [.ref 0] m = some (en_i q) := by
  show (gd_ (Nat.beq 0 0) ((f_X11_map  m).map en_i)) = _
  exact fn_gd rfl (fn_mp e)
set_option maxRecDepth 100000 in
theorem ok_X11_map : am_mok 11 148 m_X11_map = true := by decide +kernel
set_option maxRecDepth 100000 in
theorem c_X11_map (l : Launch) {g : am_G} (hg : fx_ l g) : am_Met l g 9 148 (fn_s fn_F G_X11_map) := by
  refine am_sound (own := 11) (M := m_X11_map) (SP := sp_X11_map) hg.1 (by decide +kernel) ok_X11_map (by decide +kernel) ?_ (fun q hq hk => absurd hk (am_no61 (M := m_X11_map) (by decide +kernel) q hq)) (fn_ext l _ rfl g 11) (Or.inl (by decide +kernel)) ?_ ?_
  · intro q hq hk
    have hm : q.2.2.2.1 ∈ am_cs m_X11_map := am_cs_in hq hk
    rw [show am_cs m_X11_map = [91, 116, 92, 116, 117, 14, 62] by decide +kernel] at hm
    have hm : q.2.2.2.1 ∈ [14, 62, 91, 92, 116, 117] := (List.all_eq_true.mp (show ([91, 116, 92, 116, 117, 14, 62] : List Nat).all (fun a => decide (a ∈ ([14, 62, 91, 92, 116, 117] : List Nat))) = true by decide +kernel) _ hm |> of_decide_eq_true)
    simp only [List.mem_cons, List.not_mem_nil, or_false] at hm
    rcases hm with hm | hm | hm | hm | hm | hm
    · rw [hm]; exact ⟨1, by omega, c_X1_dropReadings l hg⟩
    · rw [hm]; exact ⟨0, by omega, c_X6_forget l hg⟩
    · rw [hm]; exact ⟨8, by omega, c_X8_split l hg⟩
    · rw [hm]; exact ⟨0, by omega, c_X8_restart l hg⟩
    · rw [hm]; exact ⟨4, by omega, c_X9_readLines l hg⟩
    · rw [hm]; exact ⟨4, by omega, c_X9_measure l hg⟩
  · intro as w K h
    obtain ⟨hf, y, m1, hG, hK⟩ := h
    unfold G_X11_map at hG
    split at hG
    · exact Nat.le_of_ble_eq_true rfl
    · cases hG
  · intro as w K h
    obtain ⟨n, i0, l0, r⟩ := w
    obtain ⟨hf, y, m1, hG, hK⟩ := h
    unfold G_X11_map at hG
    split at hG
    · next x0 =>
      obtain ⟨hx1, hG1⟩ := gd_u hG
      obtain rfl := Nat.eq_of_beq_eq_true hx1
      obtain ⟨q, hq, he⟩ := fn_mu hG1
      obtain ⟨rfl, rfl⟩ := Prod.mk.inj he
      exact t_X11_map  hf   (m := (i0, l0)) hq hK
    · cases hG

/-! == X11_orders == -/
noncomputable def f_X11_orders (p1 : Int32) (m : fm_) : Option (Int32 × fm_) :=
  (if 700 < (gi_ m 1 4) then
((some ((-2), m)))
else
(Option.bind (f_X11_isDay p1 m) fun q3 =>
(if q3.1 = 0 then
((some ((-2), q3.2)))
else
(if (gi_ q3.2 30 1) < 6 then
(Option.bind (f_X8_split q3.2) fun q10 =>
(gd_ (ix_ (gi_ q10.2 30 1) 6)
(let o15 : Nat := 32 + 6 * (Int32.toNatClampNeg (gi_ q10.2 30 1));
Option.bind (f_X4_clear o15 p1 (si_ q10.2 1 4 0)) fun q16 =>
(Option.bind (f_X5_readLines o15 q16.2) fun q19 =>
(if q19.1 = 0 then
((some ((-1), q19.2)))
else
((some ((((gi_ q19.2 30 1) + 1) - 1), (si_ q19.2 30 1 ((gi_ q19.2 30 1) + 1))))))))))
else
((some ((-2), q3.2)))))))
def sp_X11_orders : am_S := fn_s2p 47 G_X5_readLines [(181, fn_0, G_X11_isDay), (91, fn_F, G_X8_split), (35, fn_F, G_X4_clear)]
theorem sm_X11_orders : am_Smono sp_X11_orders := fn_s2p_mono _ _ _
set_option maxRecDepth 100000 in
theorem t_X11_orders {n : Nat} {r : Nat → Nat → Option Nat} (hf : fn_F n r) {q : Int32 × fm_} (p1 : Int32) {m : fm_}
  (h : f_X11_orders p1 m = some q) {Q : Option Value → am_W → Prop} (hQ : ∀ r1, fn_F n r1 → Q (en_i q).1 (mk_ n r1 q.2)) : am_T m_X11_orders sp_X11_orders n Q 0 [some (.ref 0), some (.int p1), none] [] (mk_ n r m) :=
  am_T.wp sm_X11_orders (K := am_T m_X11_orders sp_X11_orders n Q) (cuts := []) (fun _ _ _ _ h => h) 50
    (⟨fn_aF hf rfl rfl, Or.inl ⟨_, hf.2 0 0 1 rfl, ⟨fn_aF hf rfl rfl, fh_if h (fun c1 h2 => ⟨rfl, fh_rt h2 (hQ _ hf)⟩) (fun c1 h2 => fh_bd h2 fun q3 e4 h5 => ⟨Nat.le_of_ble_eq_true rfl, trivial, ⟨trivial, some (.int q3.1), q3.2, gp_X11_isDay (n := n) (r := r)  e4, fun _ => fh_if h5 (fun c6 h7 => ⟨rfl, fh_rt h7 (hQ _ hf)⟩) (fun c6 h7 => ⟨fn_aF hf rfl rfl, Or.inl ⟨_, hf.2 0 3 30 rfl, ⟨fn_aF hf rfl rfl, fh_if h7 (fun c8 h9 => ⟨fn_aF hf rfl rfl, Or.inl ⟨_, hf.2 0 0 1 rfl, fh_bd h9 fun q10 e11 h12 => ⟨Nat.le_of_ble_eq_true rfl, fn_aF hf rfl rfl, ⟨hf, none, q10.2, gp_X8_split (n := n) (r := r)  e11, fun _ => ⟨rfl, ⟨fn_aF hf rfl rfl, Or.inl ⟨_, hf.2 0 0 1 rfl, ⟨fn_aF hf rfl rfl, ⟨fn_aF hf rfl rfl, Or.inl ⟨_, hf.2 0 3 30 rfl, ⟨fn_aF hf rfl rfl, Or.inl ⟨_, hf.2 30 0 31 rfl, ⟨fn_aF hf rfl rfl, Or.inl ⟨_, hf.2 0 3 30 rfl, ⟨fn_aF hf rfl rfl, fh_gd h12 fun g14 h13 => ⟨6, fn_aF hf rfl rfl, ix_t g14, Or.inl ⟨_, fn_r31 hf g14, fh_bd h13 fun q16 e17 h18 => ⟨Nat.le_of_ble_eq_true rfl, fn_aO0 hf (fn_o31 g14) rfl, ⟨hf, none, q16.2, gp_X4_clear (n := n) (r := r) (fn_o31 g14) e17, fun _ => ⟨rfl, ⟨fn_aF hf rfl rfl, Or.inl ⟨_, hf.2 0 4 68 rfl, fh_bd h18 fun q19 e20 h21 => ⟨Nat.le_of_ble_eq_true rfl, fn_aF hf rfl rfl, ⟨hf, _, _, gp_X5_readLines (n := n) (r := r) (fn_o31 g14) e20, fun r1 hf1 _ => fh_in h21 (fun c22 h23 => ⟨fn_aF hf1 rfl rfl, Or.inl ⟨_, hf1.2 0 3 30 rfl, ⟨fn_aF hf1 rfl rfl, ⟨fn_aF hf1 rfl rfl, ⟨fn_aF hf1 rfl rfl, Or.inl ⟨_, hf1.2 0 3 30 rfl, ⟨fn_aF hf1 rfl rfl, ⟨rfl, fh_rt h23 (hQ _ hf1)⟩⟩⟩⟩⟩⟩⟩⟩) (fun c22 h23 => ⟨rfl, fh_rt h23 (hQ _ hf1)⟩)⟩⟩⟩⟩⟩⟩⟩⟩⟩⟩⟩⟩⟩⟩⟩⟩⟩⟩⟩⟩⟩⟩⟩⟩) (fun c8 h9 => ⟨rfl, fh_rt h9 (hQ _ hf)⟩)⟩⟩⟩)⟩⟩)⟩⟩⟩)
noncomputable def G_X11_orders (n : Nat) (r : Nat → Nat → Option Nat) (as : List Value) (m : fm_) : Option (Option Value × fm_) := match as with
  | [.ref x0, .int p1] => gd_ (Nat.beq x0 0) ((f_X11_orders p1 m).map en_i)
  | _ => none
set_option maxRecDepth 100000 in
theorem gp_X11_orders {n : Nat} {r : Nat → Nat → Option Nat}  {p1 : Int32} {m : fm_} {q : Int32 × fm_}  (e : f_X11_orders p1 m = some q) : G_X11_orders n r [.ref 0, .int p1] m = some (en_i q) := by
  show (gd_ (Nat.beq 0 0) ((f_X11_orders p1 m).map en_i)) = _
  exact fn_gd rfl (fn_mp e)
set_option maxRecDepth 100000 in
theorem ok_X11_orders : am_mok 11 149 m_X11_orders = true := by decide +kernel
set_option maxRecDepth 100000 in
theorem c_X11_orders (l : Launch) {g : am_G} (hg : fx_ l g) : am_Met l g 24 149 (fn_s2 fn_F G_X11_orders) := by
  refine am_sound (own := 11) (M := m_X11_orders) (SP := sp_X11_orders) hg.1 (by decide +kernel) ok_X11_orders (by decide +kernel) ?_ (fun q hq hk => absurd hk (am_no61 (M := m_X11_orders) (by decide +kernel) q hq)) (fn_s2p_ext l _ _ (by omega) _ rfl g 11) (Or.inl (by decide +kernel)) ?_ ?_
  · intro q hq hk
    have hm : q.2.2.2.1 ∈ am_cs m_X11_orders := am_cs_in hq hk
    rw [show am_cs m_X11_orders = [181, 91, 35, 47] by decide +kernel] at hm
    have hm : q.2.2.2.1 ∈ [35, 47, 91, 181] := (List.all_eq_true.mp (show ([181, 91, 35, 47] : List Nat).all (fun a => decide (a ∈ ([35, 47, 91, 181] : List Nat))) = true by decide +kernel) _ hm |> of_decide_eq_true)
    simp only [List.mem_cons, List.not_mem_nil, or_false] at hm
    rcases hm with hm | hm | hm | hm
    · rw [hm]; exact ⟨1, by omega, c_X4_clear l hg⟩
    · rw [hm]; exact ⟨23, by omega, c_X5_readLines l hg⟩
    · rw [hm]; exact ⟨8, by omega, c_X8_split l hg⟩
    · rw [hm]; exact ⟨0, by omega, c_X11_isDay l hg⟩
  · intro as w K h
    obtain ⟨hf, y, m1, hG, hK⟩ := h
    unfold G_X11_orders at hG
    split at hG
    · exact Nat.le_of_ble_eq_true rfl
    · cases hG
  · intro as w K h
    obtain ⟨n, i0, l0, r⟩ := w
    obtain ⟨hf, y, m1, hG, hK⟩ := h
    unfold G_X11_orders at hG
    split at hG
    · next x0 p1 =>
      obtain ⟨hx1, hG1⟩ := gd_u hG
      obtain rfl := Nat.eq_of_beq_eq_true hx1
      obtain ⟨q, hq, he⟩ := fn_mu hG1
      obtain ⟨rfl, rfl⟩ := Prod.mk.inj he
      exact t_X11_orders  hf  p1 (m := (i0, l0)) hq hK
    · cases hG

/-! == X11_fault == -/
noncomputable def f_X11_fault (p1 : Int32) (m : fm_) : Option (Int32 × fm_) :=
  (if p1 = 0 then
((some ((gi_ m 1 7), m)))
else
(if p1 = 1 then
((some ((gi_ m 1 8), m)))
else
((some ((-1), m)))))
def sp_X11_fault : am_S := fn_sp []
theorem sm_X11_fault : am_Smono (sp_X11_fault) := fn_sp_mono _
set_option maxRecDepth 100000 in
theorem t_X11_fault {n : Nat} {r : Nat → Nat → Option Nat} (hf : fn_F n r) {q : Int32 × fm_} (p1 : Int32) {m : fm_}
  (h : f_X11_fault p1 m = some q) {Q : Option Value → am_W → Prop} (hQ : Q (en_i q).1 (mk_ n r q.2)) : am_T m_X11_fault sp_X11_fault n Q 0 [some (.ref 0), some (.int p1)] [] (mk_ n r m) :=
  am_T.wp sm_X11_fault (K := am_T m_X11_fault sp_X11_fault n Q) (cuts := []) (fun _ _ _ _ h => h) 11
    (fh_in h (fun c1 h2 => fh_in h2 (fun c3 h4 => ⟨rfl, fh_rt h4 hQ⟩) (fun c3 h4 => ⟨fn_aF hf rfl rfl, Or.inl ⟨_, hf.2 0 0 1 rfl, ⟨fn_aF hf rfl rfl, ⟨rfl, fh_rt h4 hQ⟩⟩⟩⟩)) (fun c1 h2 => ⟨fn_aF hf rfl rfl, Or.inl ⟨_, hf.2 0 0 1 rfl, ⟨fn_aF hf rfl rfl, ⟨rfl, fh_rt h2 hQ⟩⟩⟩⟩))
noncomputable def G_X11_fault (n : Nat) (r : Nat → Nat → Option Nat) (as : List Value) (m : fm_) : Option (Option Value × fm_) := match as with
  | [.ref x0, .int p1] => gd_ (Nat.beq x0 0) ((f_X11_fault p1 m).map en_i)
  | _ => none
set_option maxRecDepth 100000 in
theorem gp_X11_fault {n : Nat} {r : Nat → Nat → Option Nat}  {p1 : Int32} {m : fm_} {q : Int32 × fm_}  (e : f_X11_fault p1 m = some q) : G_X11_fault n r [.ref 0, .int p1] m = some (en_i q) := by
  show (gd_ (Nat.beq 0 0) ((f_X11_fault p1 m).map en_i)) = _
  exact fn_gd rfl (fn_mp e)
set_option maxRecDepth 100000 in
theorem ok_X11_fault : am_mok 11 150 m_X11_fault = true := by decide +kernel
set_option maxRecDepth 100000 in
theorem c_X11_fault (l : Launch) {g : am_G} (hg : fx_ l g) : am_Met l g 0 150 (fn_s fn_F G_X11_fault) := by
  refine am_sound (own := 11) (M := m_X11_fault) (SP := sp_X11_fault) hg.1 (by decide +kernel) ok_X11_fault (by decide +kernel) ?_ (fun q hq hk => absurd hk (am_no61 (M := m_X11_fault) (by decide +kernel) q hq)) (fn_ext l _ rfl g 11) (Or.inl (by decide +kernel)) ?_ ?_
  · intro q hq hk
    have hm : q.2.2.2.1 ∈ am_cs m_X11_fault := am_cs_in hq hk
    rw [show am_cs m_X11_fault = [] by decide +kernel] at hm
    cases hm
  · intro as w K h
    obtain ⟨hf, y, m1, hG, hK⟩ := h
    unfold G_X11_fault at hG
    split at hG
    · exact Nat.le_of_ble_eq_true rfl
    · cases hG
  · intro as w K h
    obtain ⟨n, i0, l0, r⟩ := w
    obtain ⟨hf, y, m1, hG, hK⟩ := h
    unfold G_X11_fault at hG
    split at hG
    · next x0 p1 =>
      obtain ⟨hx1, hG1⟩ := gd_u hG
      obtain rfl := Nat.eq_of_beq_eq_true hx1
      obtain ⟨q, hq, he⟩ := fn_mu hG1
      obtain ⟨rfl, rfl⟩ := Prod.mk.inj he
      exact t_X11_fault  hf  p1 (m := (i0, l0)) hq hK
    · cases hG

