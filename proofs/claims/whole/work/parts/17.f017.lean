/-! == X0_dayWith == -/
abbrev S_X0_dayWith : Type := (Int32 × Int32 × Int32 × Int32 × fm_)
noncomputable def st_X0_dayWith (s : S_X0_dayWith) : Option (S_X0_dayWith ⊕ (Int32 × fm_)) := match s with
  | (x1, x2, x3, x4, m) =>
    (if x3 ≤ x4 then
((some (Sum.inr (x3, m))))
else
(if 100 ≤ x4 then
((some (Sum.inr (x3, m))))
else
(gd_ (ix_ x4 200)
(if (gi_ m 96 (Int32.toNatClampNeg x4)) = x1 then
(gd_ (ix_ (100 + x4) 200)
(if (gi_ m 96 (Int32.toNatClampNeg (100 + x4))) = x1 then
((some (Sum.inr (x4, m))))
else
((some (Sum.inl ((x1, x2, x3, (x4 + 1), m)))))))
else
((some (Sum.inl ((x1, x2, x3, (x4 + 1), m)))))))))
noncomputable def f_X0_dayWith_3 (x1 : Int32) (x2 : Int32) (x3 : Int32) (x4 : Int32) (m : fm_) : Option (Int32 × fm_) := am_lp (st_X0_dayWith) ((x1, x2, x3, x4, m))
theorem e_X0_dayWith_3 (x1 : Int32) (x2 : Int32) (x3 : Int32) (x4 : Int32) (m : fm_) : f_X0_dayWith_3 x1 x2 x3 x4 m =
(if x3 ≤ x4 then
((some (x3, m)))
else
(if 100 ≤ x4 then
((some (x3, m)))
else
(gd_ (ix_ x4 200)
(if (gi_ m 96 (Int32.toNatClampNeg x4)) = x1 then
(gd_ (ix_ (100 + x4) 200)
(if (gi_ m 96 (Int32.toNatClampNeg (100 + x4))) = x1 then
((some (x4, m)))
else
((f_X0_dayWith_3 x1 x2 x3 (x4 + 1) m))))
else
((f_X0_dayWith_3 x1 x2 x3 (x4 + 1) m)))))) :=
  (am_lp_eq _ _).trans (fe_if (rfl) (fe_if (rfl) (fe_gd (fe_if (fe_gd (fe_if (rfl) (rfl))) (rfl)))))
noncomputable def f_X0_dayWith (p1 : Int32) (p2 : Int32) (p3 : Int32) (m : fm_) : Option (Int32 × fm_) :=
  ((f_X0_dayWith_3 p1 p2 p3 p2 m))
def sp_X0_dayWith : am_S := fn_sp []
theorem sm_X0_dayWith : am_Smono (sp_X0_dayWith) := fn_sp_mono _
def P_X0_dayWith (n : Nat) (r : Nat → Nat → Option Nat) (s : S_X0_dayWith) (q : Int32 × fm_) : Prop := match s with
  | (x1, x2, x3, x4, m) => ∀ (Q : Option Value → am_W → Prop), Q (en_i q).1 (mk_ n r q.2) → am_T m_X0_dayWith sp_X0_dayWith n Q 3 [some (.ref 94), some (.int x1), some (.int x2), some (.int x3), some (.int x4)] [] (mk_ n r m)
set_option maxRecDepth 100000 in
theorem t_X0_dayWith_3 {n : Nat} {r : Nat → Nat → Option Nat} (hf : fn_F n r) {K : S_X0_dayWith → Option (Int32 × fm_)} {q : Int32 × fm_} (hK : ∀ s, K s = some q → P_X0_dayWith n r s q) (x1 : Int32) (x2 : Int32) (x3 : Int32) (x4 : Int32) (m : fm_)
  (h : am_k K (st_X0_dayWith ((x1, x2, x3, x4, m))) = some q) : P_X0_dayWith n r ((x1, x2, x3, x4, m)) q := fun Q hQ =>
  am_T.wp sm_X0_dayWith (K := am_T m_X0_dayWith sp_X0_dayWith n Q) (cuts := [3]) (fun _ _ _ _ h => h) 24
    (fj_if h (fun c1 h2 => ⟨rfl, fj_rt h2 hQ⟩) (fun c1 h2 => fj_if h2 (fun c3 h4 => ⟨rfl, fj_rt h4 hQ⟩) (fun c3 h4 => ⟨fn_aF hf rfl rfl, Or.inl ⟨_, hf.2 94 1 96 rfl, fj_gd h4 fun g6 h5 => ⟨200, fn_aF hf rfl rfl, ix_t g6, fj_in h5 (fun c7 h8 => hK _ h8 _ hQ) (fun c7 h8 => ⟨fn_aF hf rfl rfl, Or.inl ⟨_, hf.2 94 1 96 rfl, fj_gd h8 fun g10 h9 => ⟨200, fn_aF hf rfl rfl, ix_t g10, fj_in h9 (fun c11 h12 => hK _ h12 _ hQ) (fun c11 h12 => ⟨rfl, fj_rt h12 hQ⟩)⟩⟩⟩)⟩⟩⟩)))
theorem l_X0_dayWith {n : Nat} {r : Nat → Nat → Option Nat} (hf : fn_F n r) (s : S_X0_dayWith) (q : Int32 × fm_) (h : am_lp (st_X0_dayWith) s = some q) : P_X0_dayWith n r s q :=
  am_lp_snd (P := P_X0_dayWith n r) (fun K hK s q h => match s, h with
    | (x1, x2, x3, x4, m), h => t_X0_dayWith_3 hf (fun s => hK s q) x1 x2 x3 x4 m h) s q h
set_option maxRecDepth 100000 in
theorem t_X0_dayWith {n : Nat} {r : Nat → Nat → Option Nat} (hf : fn_F n r) {q : Int32 × fm_} (p1 : Int32) (p2 : Int32) (p3 : Int32) {m : fm_}
  (h : f_X0_dayWith p1 p2 p3 m = some q) {Q : Option Value → am_W → Prop} (hQ : Q (en_i q).1 (mk_ n r q.2)) : am_T m_X0_dayWith sp_X0_dayWith n Q 0 [some (.ref 94), some (.int p1), some (.int p2), some (.int p3), none] [] (mk_ n r m) :=
  am_T.wp sm_X0_dayWith (K := am_T m_X0_dayWith sp_X0_dayWith n Q) (cuts := [3]) (fun _ _ _ _ h => h) 4
    (l_X0_dayWith hf _ _ h _ hQ)
noncomputable def G_X0_dayWith (n : Nat) (r : Nat → Nat → Option Nat) (as : List Value) (m : fm_) : Option (Option Value × fm_) := match as with
  | [.ref x0, .int p1, .int p2, .int p3] => gd_ (Nat.beq x0 94) ((f_X0_dayWith p1 p2 p3 m).map en_i)
  | _ => none
set_option maxRecDepth 100000 in
theorem gp_X0_dayWith {n : Nat} {r : Nat → Nat → Option Nat}  {p1 : Int32} {p2 : Int32} {p3 : Int32} {m : fm_} {q : Int32 × fm_}  (e : f_X0_dayWith p1 p2 p3 m = some q) : G_X0_dayWith n r [.ref 94, .int p1, .int p2, .int p3] m = some (en_i q) := by
  show (gd_ (Nat.beq 94 94) ((f_X0_dayWith p1 p2 p3 m).map en_i)) = _
  exact fn_gd rfl (fn_mp e)
set_option maxRecDepth 100000 in
theorem ok_X0_dayWith : am_mok 0 7 m_X0_dayWith = true := by decide +kernel
set_option maxRecDepth 100000 in
theorem c_X0_dayWith (l : Launch) {g : am_G} (hg : fx_ l g) : am_Met l g 0 7 (fn_s fn_F G_X0_dayWith) := by
  refine am_sound (own := 0) (M := m_X0_dayWith) (SP := sp_X0_dayWith) hg.1 (by decide +kernel) ok_X0_dayWith (by decide +kernel) ?_ (fun q hq hk => absurd hk (am_no61 (M := m_X0_dayWith) (by decide +kernel) q hq)) (fn_ext l _ rfl g 0) (Or.inl (by decide +kernel)) ?_ ?_
  · intro q hq hk
    have hm : q.2.2.2.1 ∈ am_cs m_X0_dayWith := am_cs_in hq hk
    rw [show am_cs m_X0_dayWith = [] by decide +kernel] at hm
    cases hm
  · intro as w K h
    obtain ⟨hf, y, m1, hG, hK⟩ := h
    unfold G_X0_dayWith at hG
    split at hG
    · exact Nat.le_of_ble_eq_true rfl
    · cases hG
  · intro as w K h
    obtain ⟨n, i0, l0, r⟩ := w
    obtain ⟨hf, y, m1, hG, hK⟩ := h
    unfold G_X0_dayWith at hG
    split at hG
    · next x0 p1 p2 p3 =>
      obtain ⟨hx1, hG1⟩ := gd_u hG
      obtain rfl := Nat.eq_of_beq_eq_true hx1
      obtain ⟨q, hq, he⟩ := fn_mu hG1
      obtain ⟨rfl, rfl⟩ := Prod.mk.inj he
      exact t_X0_dayWith  hf  p1 p2 p3 (m := (i0, l0)) hq hK
    · cases hG

/-! == X0_difference == -/
noncomputable def f_X0_difference (p1 : Int32) (m : fm_) : Option (Int32 × fm_) :=
  (Option.bind (f_X11_isDay p1 m) fun q1 =>
(if q1.1 = 0 then
((some (0, q1.2)))
else
(gd_ (ix_ p1 200)
(gd_ (ix_ (100 + p1) 200)
((some (((gi_ q1.2 95 (Int32.toNatClampNeg p1)) - (gi_ q1.2 95 (Int32.toNatClampNeg (100 + p1)))), q1.2)))))))
def sp_X0_difference : am_S := fn_sp [(181, fn_0, G_X11_isDay)]
theorem sm_X0_difference : am_Smono (sp_X0_difference) := fn_sp_mono _
set_option maxRecDepth 100000 in
theorem t_X0_difference {n : Nat} {r : Nat → Nat → Option Nat} (hf : fn_F n r) {q : Int32 × fm_} (p1 : Int32) {m : fm_}
  (h : f_X0_difference p1 m = some q) {Q : Option Value → am_W → Prop} (hQ : Q (en_i q).1 (mk_ n r q.2)) : am_T m_X0_difference sp_X0_difference n Q 0 [some (.ref 94), some (.int p1)] [] (mk_ n r m) :=
  am_T.wp sm_X0_difference (K := am_T m_X0_difference sp_X0_difference n Q) (cuts := []) (fun _ _ _ _ h => h) 17
    (fh_bd h fun q1 e2 h3 => ⟨Nat.le_of_ble_eq_true rfl, trivial, ⟨trivial, some (.int q1.1), q1.2, gp_X11_isDay (n := n) (r := r)  e2, fun _ => fh_if h3 (fun c4 h5 => ⟨rfl, fh_rt h5 hQ⟩) (fun c4 h5 => ⟨fn_aF hf rfl rfl, Or.inl ⟨_, hf.2 94 0 95 rfl, fh_gd h5 fun g7 h6 => ⟨200, fn_aF hf rfl rfl, ix_t g7, ⟨fn_aF hf rfl rfl, Or.inl ⟨_, hf.2 94 0 95 rfl, fh_gd h6 fun g9 h8 => ⟨200, fn_aF hf rfl rfl, ix_t g9, ⟨rfl, fh_rt h8 hQ⟩⟩⟩⟩⟩⟩⟩)⟩⟩)
noncomputable def G_X0_difference (n : Nat) (r : Nat → Nat → Option Nat) (as : List Value) (m : fm_) : Option (Option Value × fm_) := match as with
  | [.ref x0, .int p1] => gd_ (Nat.beq x0 94) ((f_X0_difference p1 m).map en_i)
  | _ => none
set_option maxRecDepth 100000 in
theorem gp_X0_difference {n : Nat} {r : Nat → Nat → Option Nat}  {p1 : Int32} {m : fm_} {q : Int32 × fm_}  (e : f_X0_difference p1 m = some q) : G_X0_difference n r [.ref 94, .int p1] m = some (en_i q) := by
  show (gd_ (Nat.beq 94 94) ((f_X0_difference p1 m).map en_i)) = _
  exact fn_gd rfl (fn_mp e)
set_option maxRecDepth 100000 in
theorem ok_X0_difference : am_mok 0 8 m_X0_difference = true := by decide +kernel
set_option maxRecDepth 100000 in
theorem c_X0_difference (l : Launch) {g : am_G} (hg : fx_ l g) : am_Met l g 1 8 (fn_s fn_F G_X0_difference) := by
  refine am_sound (own := 0) (M := m_X0_difference) (SP := sp_X0_difference) hg.1 (by decide +kernel) ok_X0_difference (by decide +kernel) ?_ (fun q hq hk => absurd hk (am_no61 (M := m_X0_difference) (by decide +kernel) q hq)) (fn_ext l _ rfl g 0) (Or.inl (by decide +kernel)) ?_ ?_
  · intro q hq hk
    have hm : q.2.2.2.1 ∈ am_cs m_X0_difference := am_cs_in hq hk
    rw [show am_cs m_X0_difference = [181] by decide +kernel] at hm
    have hm : q.2.2.2.1 ∈ [181] := (List.all_eq_true.mp (show ([181] : List Nat).all (fun a => decide (a ∈ ([181] : List Nat))) = true by decide +kernel) _ hm |> of_decide_eq_true)
    simp only [List.mem_cons, List.not_mem_nil, or_false] at hm
    rcases hm with hm
    · rw [hm]; exact ⟨0, by omega, c_X11_isDay l hg⟩
  · intro as w K h
    obtain ⟨hf, y, m1, hG, hK⟩ := h
    unfold G_X0_difference at hG
    split at hG
    · exact Nat.le_of_ble_eq_true rfl
    · cases hG
  · intro as w K h
    obtain ⟨n, i0, l0, r⟩ := w
    obtain ⟨hf, y, m1, hG, hK⟩ := h
    unfold G_X0_difference at hG
    split at hG
    · next x0 p1 =>
      obtain ⟨hx1, hG1⟩ := gd_u hG
      obtain rfl := Nat.eq_of_beq_eq_true hx1
      obtain ⟨q, hq, he⟩ := fn_mu hG1
      obtain ⟨rfl, rfl⟩ := Prod.mk.inj he
      exact t_X0_difference  hf  p1 (m := (i0, l0)) hq hK
    · cases hG

/-! == X0_pairUp == -/
abbrev S_X0_pairUp : Type := (Int32 × Int32 × fm_) ⊕ (Int32 × Int32 × Int32 × Int32 × fm_)
noncomputable def st_X0_pairUp (s : S_X0_pairUp) : Option (S_X0_pairUp ⊕ (Int32 × fm_)) := match s with
  | Sum.inl ((x1, x2, m)) =>
    (if 4 ≤ x2 then
((some (Sum.inr (0, m))))
else
(Option.bind (f_X0_dayWith x2 0 x1 m) fun q3 =>
(Option.bind (f_X0_dayWith x2 x1 100 q3.2) fun q6 =>
((some (Sum.inl (Sum.inr ((x1, x2, q3.1, q6.1, q6.2)))))))))
  | Sum.inr ((x1, x2, x3, x4, m)) =>
    (if x1 ≤ x3 then
((some (Sum.inl (Sum.inl ((x1, (x2 + 1), m))))))
else
(if 100 ≤ x4 then
((some (Sum.inl (Sum.inl ((x1, (x2 + 1), m))))))
else
(if 12 ≤ (gi_ m 94 4) then
((some (Sum.inl (Sum.inl ((x1, (x2 + 1), m))))))
else
(Option.bind (f_X0_difference x3 m) fun q7 =>
(Option.bind (f_X0_difference x4 q7.2) fun q10 =>
(gd_ (ix_ (gi_ m 94 4) 12)
(Option.bind (f_X0_dayWith x2 (x3 + 1) x1 (si_ (si_ q10.2 97 (Int32.toNatClampNeg (gi_ m 94 4)) (q7.1 - q10.1)) 94 4 ((gi_ q10.2 94 4) + 1))) fun q15 =>
(Option.bind (f_X0_dayWith x2 (x4 + 1) 100 q15.2) fun q18 =>
((some (Sum.inl (Sum.inr ((x1, x2, q15.1, q18.1, q18.2))))))))))))))
noncomputable def f_X0_pairUp_7 (x1 : Int32) (x2 : Int32) (m : fm_) : Option (Int32 × fm_) := am_lp (st_X0_pairUp) (Sum.inl ((x1, x2, m)))
noncomputable def f_X0_pairUp_30 (x1 : Int32) (x2 : Int32) (x3 : Int32) (x4 : Int32) (m : fm_) : Option (Int32 × fm_) := am_lp (st_X0_pairUp) (Sum.inr ((x1, x2, x3, x4, m)))
theorem e_X0_pairUp_7 (x1 : Int32) (x2 : Int32) (m : fm_) : f_X0_pairUp_7 x1 x2 m =
(if 4 ≤ x2 then
((some (0, m)))
else
(Option.bind (f_X0_dayWith x2 0 x1 m) fun q3 =>
(Option.bind (f_X0_dayWith x2 x1 100 q3.2) fun q6 =>
((f_X0_pairUp_30 x1 x2 q3.1 q6.1 q6.2))))) :=
  (am_lp_eq _ _).trans (fe_if (rfl) (fe_bd fun q3 => (fe_bd fun q6 => (rfl))))
theorem e_X0_pairUp_30 (x1 : Int32) (x2 : Int32) (x3 : Int32) (x4 : Int32) (m : fm_) : f_X0_pairUp_30 x1 x2 x3 x4 m =
(if x1 ≤ x3 then
((f_X0_pairUp_7 x1 (x2 + 1) m))
else
(if 100 ≤ x4 then
((f_X0_pairUp_7 x1 (x2 + 1) m))
else
(if 12 ≤ (gi_ m 94 4) then
((f_X0_pairUp_7 x1 (x2 + 1) m))
else
(Option.bind (f_X0_difference x3 m) fun q7 =>
(Option.bind (f_X0_difference x4 q7.2) fun q10 =>
(gd_ (ix_ (gi_ m 94 4) 12)
(Option.bind (f_X0_dayWith x2 (x3 + 1) x1 (si_ (si_ q10.2 97 (Int32.toNatClampNeg (gi_ m 94 4)) (q7.1 - q10.1)) 94 4 ((gi_ q10.2 94 4) + 1))) fun q15 =>
(Option.bind (f_X0_dayWith x2 (x4 + 1) 100 q15.2) fun q18 =>
((f_X0_pairUp_30 x1 x2 q15.1 q18.1 q18.2)))))))))) :=
  (am_lp_eq _ _).trans (fe_if (rfl) (fe_if (rfl) (fe_if (rfl) (fe_bd fun q7 => (fe_bd fun q10 => (fe_gd (fe_bd fun q15 => (fe_bd fun q18 => (rfl)))))))))
noncomputable def f_X0_pairUp (p1 : Int32) (m : fm_) : Option (Int32 × fm_) :=
  ((f_X0_pairUp_7 p1 0 (si_ m 94 4 0)))
def sp_X0_pairUp : am_S := fn_sp [(7, fn_F, G_X0_dayWith), (8, fn_F, G_X0_difference)]
theorem sm_X0_pairUp : am_Smono (sp_X0_pairUp) := fn_sp_mono _
def P_X0_pairUp (n : Nat) (r : Nat → Nat → Option Nat) (s : S_X0_pairUp) (q : Int32 × fm_) : Prop := match s with
  | Sum.inl ((x1, x2, m)) => ∀ (Q : Option Value → am_W → Prop) (y3 : Option Value) (y4 : Option Value), Q (en_v q).1 (mk_ n r q.2) → am_T m_X0_pairUp sp_X0_pairUp n Q 7 [some (.ref 94), some (.int x1), some (.int x2), y3, y4] [] (mk_ n r m)
  | Sum.inr ((x1, x2, x3, x4, m)) => ∀ (Q : Option Value → am_W → Prop), Q (en_v q).1 (mk_ n r q.2) → am_T m_X0_pairUp sp_X0_pairUp n Q 30 [some (.ref 94), some (.int x1), some (.int x2), some (.int x3), some (.int x4)] [] (mk_ n r m)
set_option maxRecDepth 100000 in
theorem t_X0_pairUp_7 {n : Nat} {r : Nat → Nat → Option Nat} (hf : fn_F n r) {K : S_X0_pairUp → Option (Int32 × fm_)} {q : Int32 × fm_} (hK : ∀ s, K s = some q → P_X0_pairUp n r s q) (x1 : Int32) (x2 : Int32) (m : fm_)
  (h : am_k K (st_X0_pairUp (Sum.inl ((x1, x2, m)))) = some q) : P_X0_pairUp n r (Sum.inl ((x1, x2, m))) q := fun Q y3 y4 hQ =>
  am_T.wp sm_X0_pairUp (K := am_T m_X0_pairUp sp_X0_pairUp n Q) (cuts := [7, 30]) (fun _ _ _ _ h => h) 17
    (fj_if h (fun c1 h2 => ⟨rfl, fj_rt h2 hQ⟩) (fun c1 h2 => fj_bd h2 fun q3 e4 h5 => ⟨Nat.le_of_ble_eq_true rfl, fn_aF hf rfl rfl, ⟨hf, some (.int q3.1), q3.2, gp_X0_dayWith (n := n) (r := r)  e4, fun _ => fj_bd h5 fun q6 e7 h8 => ⟨Nat.le_of_ble_eq_true rfl, fn_aF hf rfl rfl, ⟨hf, some (.int q6.1), q6.2, gp_X0_dayWith (n := n) (r := r)  e7, fun _ => hK _ h8 _ hQ⟩⟩⟩⟩))
set_option maxRecDepth 100000 in
theorem t_X0_pairUp_30 {n : Nat} {r : Nat → Nat → Option Nat} (hf : fn_F n r) {K : S_X0_pairUp → Option (Int32 × fm_)} {q : Int32 × fm_} (hK : ∀ s, K s = some q → P_X0_pairUp n r s q) (x1 : Int32) (x2 : Int32) (x3 : Int32) (x4 : Int32) (m : fm_)
  (h : am_k K (st_X0_pairUp (Sum.inr ((x1, x2, x3, x4, m)))) = some q) : P_X0_pairUp n r (Sum.inr ((x1, x2, x3, x4, m))) q := fun Q hQ =>
  am_T.wp sm_X0_pairUp (K := am_T m_X0_pairUp sp_X0_pairUp n Q) (cuts := [7, 30]) (fun _ _ _ _ h => h) 47
    (fj_if h (fun c1 h2 => hK _ h2 _ _ _ hQ) (fun c1 h2 => fj_if h2 (fun c3 h4 => hK _ h4 _ _ _ hQ) (fun c3 h4 => ⟨fn_aF hf rfl rfl, fj_if h4 (fun c5 h6 => hK _ h6 _ _ _ hQ) (fun c5 h6 => ⟨fn_aF hf rfl rfl, Or.inl ⟨_, hf.2 94 3 97 rfl, ⟨fn_aF hf rfl rfl, fj_bd h6 fun q7 e8 h9 => ⟨Nat.le_of_ble_eq_true rfl, fn_aF hf rfl rfl, ⟨hf, some (.int q7.1), q7.2, gp_X0_difference (n := n) (r := r)  e8, fun _ => fj_bd h9 fun q10 e11 h12 => ⟨Nat.le_of_ble_eq_true rfl, fn_aF hf rfl rfl, ⟨hf, some (.int q10.1), q10.2, gp_X0_difference (n := n) (r := r)  e11, fun _ => fj_gd h12 fun g14 h13 => ⟨12, fn_aF hf rfl rfl, ix_t g14, ⟨fn_aF hf rfl rfl, ⟨fn_aF hf rfl rfl, fj_bd h13 fun q15 e16 h17 => ⟨Nat.le_of_ble_eq_true rfl, fn_aF hf rfl rfl, ⟨hf, some (.int q15.1), q15.2, gp_X0_dayWith (n := n) (r := r)  e16, fun _ => fj_bd h17 fun q18 e19 h20 => ⟨Nat.le_of_ble_eq_true rfl, fn_aF hf rfl rfl, ⟨hf, some (.int q18.1), q18.2, gp_X0_dayWith (n := n) (r := r)  e19, fun _ => hK _ h20 _ hQ⟩⟩⟩⟩⟩⟩⟩⟩⟩⟩⟩⟩⟩⟩)⟩)))
theorem l_X0_pairUp {n : Nat} {r : Nat → Nat → Option Nat} (hf : fn_F n r) (s : S_X0_pairUp) (q : Int32 × fm_) (h : am_lp (st_X0_pairUp) s = some q) : P_X0_pairUp n r s q :=
  am_lp_snd (P := P_X0_pairUp n r) (fun K hK s q h => match s, h with
    | Sum.inl ((x1, x2, m)), h => t_X0_pairUp_7 hf (fun s => hK s q) x1 x2 m h
    | Sum.inr ((x1, x2, x3, x4, m)), h => t_X0_pairUp_30 hf (fun s => hK s q) x1 x2 x3 x4 m h) s q h
set_option maxRecDepth 100000 in
theorem t_X0_pairUp {n : Nat} {r : Nat → Nat → Option Nat} (hf : fn_F n r) {q : Int32 × fm_} (p1 : Int32) {m : fm_}
  (h : f_X0_pairUp p1 m = some q) {Q : Option Value → am_W → Prop} (hQ : Q (en_v q).1 (mk_ n r q.2)) : am_T m_X0_pairUp sp_X0_pairUp n Q 0 [some (.ref 94), some (.int p1), none, none, none] [] (mk_ n r m) :=
  am_T.wp sm_X0_pairUp (K := am_T m_X0_pairUp sp_X0_pairUp n Q) (cuts := [7, 30]) (fun _ _ _ _ h => h) 7
    (⟨fn_aF hf rfl rfl, l_X0_pairUp hf _ _ h _ _ _ hQ⟩)
noncomputable def G_X0_pairUp (n : Nat) (r : Nat → Nat → Option Nat) (as : List Value) (m : fm_) : Option (Option Value × fm_) := match as with
  | [.ref x0, .int p1] => gd_ (Nat.beq x0 94) ((f_X0_pairUp p1 m).map en_v)
  | _ => none
set_option maxRecDepth 100000 in
theorem gp_X0_pairUp {n : Nat} {r : Nat → Nat → Option Nat}  {p1 : Int32} {m : fm_} {q : Int32 × fm_}  (e : f_X0_pairUp p1 m = some q) : G_X0_pairUp n r [.ref 94, .int p1] m = some (en_v q) := by
  show (gd_ (Nat.beq 94 94) ((f_X0_pairUp p1 m).map en_v)) = _
  exact fn_gd rfl (fn_mp e)
set_option maxRecDepth 100000 in
theorem ok_X0_pairUp : am_mok 0 6 m_X0_pairUp = true := by decide +kernel
set_option maxRecDepth 100000 in
theorem c_X0_pairUp (l : Launch) {g : am_G} (hg : fx_ l g) : am_Met l g 2 6 (fn_s fn_F G_X0_pairUp) := by
  refine am_sound (own := 0) (M := m_X0_pairUp) (SP := sp_X0_pairUp) hg.1 (by decide +kernel) ok_X0_pairUp (by decide +kernel) ?_ (fun q hq hk => absurd hk (am_no61 (M := m_X0_pairUp) (by decide +kernel) q hq)) (fn_ext l _ rfl g 0) (Or.inl (by decide +kernel)) ?_ ?_
  · intro q hq hk
    have hm : q.2.2.2.1 ∈ am_cs m_X0_pairUp := am_cs_in hq hk
    rw [show am_cs m_X0_pairUp = [7, 7, 8, 8, 7, 7] by decide +kernel] at hm
    have hm : q.2.2.2.1 ∈ [7, 8] := (List.all_eq_true.mp (show ([7, 7, 8, 8, 7, 7] : List Nat).all (fun a => decide (a ∈ ([7, 8] : List Nat))) = true by decide +kernel) _ hm |> of_decide_eq_true)
    simp only [List.mem_cons, List.not_mem_nil, or_false] at hm
    rcases hm with hm | hm
    · rw [hm]; exact ⟨0, by omega, c_X0_dayWith l hg⟩
    · rw [hm]; exact ⟨1, by omega, c_X0_difference l hg⟩
  · intro as w K h
    obtain ⟨hf, y, m1, hG, hK⟩ := h
    unfold G_X0_pairUp at hG
    split at hG
    · exact Nat.le_of_ble_eq_true rfl
    · cases hG
  · intro as w K h
    obtain ⟨n, i0, l0, r⟩ := w
    obtain ⟨hf, y, m1, hG, hK⟩ := h
    unfold G_X0_pairUp at hG
    split at hG
    · next x0 p1 =>
      obtain ⟨hx1, hG1⟩ := gd_u hG
      obtain rfl := Nat.eq_of_beq_eq_true hx1
      obtain ⟨q, hq, he⟩ := fn_mu hG1
      obtain ⟨rfl, rfl⟩ := Prod.mk.inj he
      exact t_X0_pairUp  hf  p1 (m := (i0, l0)) hq hK
    · cases hG

/-! == X0_sumOfGains == -/
abbrev S_X0_sumOfGains : Type := (Int32 × Int32 × fm_)
noncomputable def st_X0_sumOfGains (s : S_X0_sumOfGains) : Option (S_X0_sumOfGains ⊕ (Int32 × fm_)) := match s with
  | (x1, x2, m) =>
    (if (gi_ m 94 4) ≤ x2 then
((some (Sum.inr (x1, m))))
else
(gd_ (ix_ x2 12)
((some (Sum.inl (((x1 + (gi_ m 97 (Int32.toNatClampNeg x2))), (x2 + 1), m)))))))
noncomputable def f_X0_sumOfGains_4 (x1 : Int32) (x2 : Int32) (m : fm_) : Option (Int32 × fm_) := am_lp (st_X0_sumOfGains) ((x1, x2, m))
theorem e_X0_sumOfGains_4 (x1 : Int32) (x2 : Int32) (m : fm_) : f_X0_sumOfGains_4 x1 x2 m =
(if (gi_ m 94 4) ≤ x2 then
((some (x1, m)))
else
(gd_ (ix_ x2 12)
((f_X0_sumOfGains_4 (x1 + (gi_ m 97 (Int32.toNatClampNeg x2))) (x2 + 1) m)))) :=
  (am_lp_eq _ _).trans (fe_if (rfl) (fe_gd (rfl)))
noncomputable def f_X0_sumOfGains  (m : fm_) : Option (Int32 × fm_) :=
  ((f_X0_sumOfGains_4 0 0 m))
def sp_X0_sumOfGains : am_S := fn_sp []
theorem sm_X0_sumOfGains : am_Smono (sp_X0_sumOfGains) := fn_sp_mono _
def P_X0_sumOfGains (n : Nat) (r : Nat → Nat → Option Nat) (s : S_X0_sumOfGains) (q : Int32 × fm_) : Prop := match s with
  | (x1, x2, m) => ∀ (Q : Option Value → am_W → Prop), Q (en_i q).1 (mk_ n r q.2) → am_T m_X0_sumOfGains sp_X0_sumOfGains n Q 4 [some (.ref 94), some (.int x1), some (.int x2)] [] (mk_ n r m)
set_option maxRecDepth 100000 in
theorem t_X0_sumOfGains_4 {n : Nat} {r : Nat → Nat → Option Nat} (hf : fn_F n r) {K : S_X0_sumOfGains → Option (Int32 × fm_)} {q : Int32 × fm_} (hK : ∀ s, K s = some q → P_X0_sumOfGains n r s q) (x1 : Int32) (x2 : Int32) (m : fm_)
  (h : am_k K (st_X0_sumOfGains ((x1, x2, m))) = some q) : P_X0_sumOfGains n r ((x1, x2, m)) q := fun Q hQ =>
  am_T.wp sm_X0_sumOfGains (K := am_T m_X0_sumOfGains sp_X0_sumOfGains n Q) (cuts := [4]) (fun _ _ _ _ h => h) 15
    (⟨fn_aF hf rfl rfl, fj_if h (fun c1 h2 => ⟨rfl, fj_rt h2 hQ⟩) (fun c1 h2 => ⟨fn_aF hf rfl rfl, Or.inl ⟨_, hf.2 94 3 97 rfl, fj_gd h2 fun g4 h3 => ⟨12, fn_aF hf rfl rfl, ix_t g4, hK _ h3 _ hQ⟩⟩⟩)⟩)
theorem l_X0_sumOfGains {n : Nat} {r : Nat → Nat → Option Nat} (hf : fn_F n r) (s : S_X0_sumOfGains) (q : Int32 × fm_) (h : am_lp (st_X0_sumOfGains) s = some q) : P_X0_sumOfGains n r s q :=
  am_lp_snd (P := P_X0_sumOfGains n r) (fun K hK s q h => match s, h with
    | (x1, x2, m), h => t_X0_sumOfGains_4 hf (fun s => hK s q) x1 x2 m h) s q h
set_option maxRecDepth 100000 in
theorem t_X0_sumOfGains {n : Nat} {r : Nat → Nat → Option Nat} (hf : fn_F n r) {q : Int32 × fm_}  {m : fm_}
  (h : f_X0_sumOfGains  m = some q) {Q : Option Value → am_W → Prop} (hQ : Q (en_i q).1 (mk_ n r q.2)) : am_T m_X0_sumOfGains sp_X0_sumOfGains n Q 0 [some (.ref 94), none, none] [] (mk_ n r m) :=
  am_T.wp sm_X0_sumOfGains (K := am_T m_X0_sumOfGains sp_X0_sumOfGains n Q) (cuts := [4]) (fun _ _ _ _ h => h) 6
    (l_X0_sumOfGains hf _ _ h _ hQ)
noncomputable def G_X0_sumOfGains (n : Nat) (r : Nat → Nat → Option Nat) (as : List Value) (m : fm_) : Option (Option Value × fm_) := match as with
  | [.ref x0] => gd_ (Nat.beq x0 94) ((f_X0_sumOfGains  m).map en_i)
  | _ => none
set_option maxRecDepth 100000 in
theorem gp_X0_sumOfGains {n : Nat} {r : Nat → Nat → Option Nat}   {m : fm_} {q : Int32 × fm_}  (e : f_X0_sumOfGains  m = some q) : G_X0_sumOfGains n r [.ref 94] m = some (en_i q) := by
  show (gd_ (Nat.beq 94 94) ((f_X0_sumOfGains  m).map en_i)) = _
  exact fn_gd rfl (fn_mp e)
set_option maxRecDepth 100000 in
theorem ok_X0_sumOfGains : am_mok 0 5 m_X0_sumOfGains = true := by decide +kernel
set_option maxRecDepth 100000 in
theorem c_X0_sumOfGains (l : Launch) {g : am_G} (hg : fx_ l g) : am_Met l g 0 5 (fn_s fn_F G_X0_sumOfGains) := by
  refine am_sound (own := 0) (M := m_X0_sumOfGains) (SP := sp_X0_sumOfGains) hg.1 (by decide +kernel) ok_X0_sumOfGains (by decide +kernel) ?_ (fun q hq hk => absurd hk (am_no61 (M := m_X0_sumOfGains) (by decide +kernel) q hq)) (fn_ext l _ rfl g 0) (Or.inl (by decide +kernel)) ?_ ?_
  · intro q hq hk
    have hm : q.2.2.2.1 ∈ am_cs m_X0_sumOfGains := am_cs_in hq hk
    rw [show am_cs m_X0_sumOfGains = [] by decide +kernel] at hm
    cases hm
  · intro as w K h
    obtain ⟨hf, y, m1, hG, hK⟩ := h
    unfold G_X0_sumOfGains at hG
    split at hG
    · exact Nat.le_of_ble_eq_true rfl
    · cases hG
  · intro as w K h
    obtain ⟨n, i0, l0, r⟩ := w
    obtain ⟨hf, y, m1, hG, hK⟩ := h
    unfold G_X0_sumOfGains at hG
    split at hG
    · next x0 =>
      obtain ⟨hx1, hG1⟩ := gd_u hG
      obtain rfl := Nat.eq_of_beq_eq_true hx1
      obtain ⟨q, hq, he⟩ := fn_mu hG1
      obtain ⟨rfl, rfl⟩ := Prod.mk.inj he
      exact t_X0_sumOfGains  hf   (m := (i0, l0)) hq hK
    · cases hG

/-! == X0_gainFrom == -/
noncomputable def f_X0_gainFrom (p1 : Int32) (m : fm_) : Option (Int32 × fm_) :=
  (Option.bind (f_X0_pairUp p1 m) fun q1 =>
(Option.bind (f_X0_sumOfGains q1.2) fun q4 =>
((some (q4.1, q4.2)))))
def sp_X0_gainFrom : am_S := fn_sp [(6, fn_F, G_X0_pairUp), (5, fn_F, G_X0_sumOfGains)]
theorem sm_X0_gainFrom : am_Smono (sp_X0_gainFrom) := fn_sp_mono _
set_option maxRecDepth 100000 in
theorem t_X0_gainFrom {n : Nat} {r : Nat → Nat → Option Nat} (hf : fn_F n r) {q : Int32 × fm_} (p1 : Int32) {m : fm_}
  (h : f_X0_gainFrom p1 m = some q) {Q : Option Value → am_W → Prop} (hQ : Q (en_i q).1 (mk_ n r q.2)) : am_T m_X0_gainFrom sp_X0_gainFrom n Q 0 [some (.ref 94), some (.int p1)] [] (mk_ n r m) :=
  am_T.wp sm_X0_gainFrom (K := am_T m_X0_gainFrom sp_X0_gainFrom n Q) (cuts := []) (fun _ _ _ _ h => h) 7
    (fh_bd h fun q1 e2 h3 => ⟨Nat.le_of_ble_eq_true rfl, fn_aF hf rfl rfl, ⟨hf, none, q1.2, gp_X0_pairUp (n := n) (r := r)  e2, fun _ => ⟨rfl, fh_bd h3 fun q4 e5 h6 => ⟨Nat.le_of_ble_eq_true rfl, fn_aF hf rfl rfl, ⟨hf, some (.int q4.1), q4.2, gp_X0_sumOfGains (n := n) (r := r)  e5, fun _ => ⟨rfl, fh_rt h6 hQ⟩⟩⟩⟩⟩⟩)
noncomputable def G_X0_gainFrom (n : Nat) (r : Nat → Nat → Option Nat) (as : List Value) (m : fm_) : Option (Option Value × fm_) := match as with
  | [.ref x0, .int p1] => gd_ (Nat.beq x0 94) ((f_X0_gainFrom p1 m).map en_i)
  | _ => none
set_option maxRecDepth 100000 in
theorem gp_X0_gainFrom {n : Nat} {r : Nat → Nat → Option Nat}  {p1 : Int32} {m : fm_} {q : Int32 × fm_}  (e : f_X0_gainFrom p1 m = some q) : G_X0_gainFrom n r [.ref 94, .int p1] m = some (en_i q) := by
  show (gd_ (Nat.beq 94 94) ((f_X0_gainFrom p1 m).map en_i)) = _
  exact fn_gd rfl (fn_mp e)
set_option maxRecDepth 100000 in
theorem ok_X0_gainFrom : am_mok 0 2 m_X0_gainFrom = true := by decide +kernel
set_option maxRecDepth 100000 in
theorem c_X0_gainFrom (l : Launch) {g : am_G} (hg : fx_ l g) : am_Met l g 3 2 (fn_s fn_F G_X0_gainFrom) := by
  refine am_sound (own := 0) (M := m_X0_gainFrom) (SP := sp_X0_gainFrom) hg.1 (by decide +kernel) ok_X0_gainFrom (by decide +kernel) ?_ (fun q hq hk => absurd hk (am_no61 (M := m_X0_gainFrom) (by decide +kernel) q hq)) (fn_ext l _ rfl g 0) (Or.inl (by decide +kernel)) ?_ ?_
  · intro q hq hk
    have hm : q.2.2.2.1 ∈ am_cs m_X0_gainFrom := am_cs_in hq hk
    rw [show am_cs m_X0_gainFrom = [6, 5] by decide +kernel] at hm
    have hm : q.2.2.2.1 ∈ [5, 6] := (List.all_eq_true.mp (show ([6, 5] : List Nat).all (fun a => decide (a ∈ ([5, 6] : List Nat))) = true by decide +kernel) _ hm |> of_decide_eq_true)
    simp only [List.mem_cons, List.not_mem_nil, or_false] at hm
    rcases hm with hm | hm
    · rw [hm]; exact ⟨0, by omega, c_X0_sumOfGains l hg⟩
    · rw [hm]; exact ⟨2, by omega, c_X0_pairUp l hg⟩
  · intro as w K h
    obtain ⟨hf, y, m1, hG, hK⟩ := h
    unfold G_X0_gainFrom at hG
    split at hG
    · exact Nat.le_of_ble_eq_true rfl
    · cases hG
  · intro as w K h
    obtain ⟨n, i0, l0, r⟩ := w
    obtain ⟨hf, y, m1, hG, hK⟩ := h
    unfold G_X0_gainFrom at hG
    split at hG
    · next x0 p1 =>
      obtain ⟨hx1, hG1⟩ := gd_u hG
      obtain rfl := Nat.eq_of_beq_eq_true hx1
      obtain ⟨q, hq, he⟩ := fn_mu hG1
      obtain ⟨rfl, rfl⟩ := Prod.mk.inj he
      exact t_X0_gainFrom  hf  p1 (m := (i0, l0)) hq hK
    · cases hG

/-! == X0_waysFrom == -/
noncomputable def f_X0_waysFrom (p1 : Int32) (m : fm_) : Option (Int32 × fm_) :=
  (Option.bind (f_X0_pairUp p1 m) fun q1 =>
((some ((1 <<< ((gi_ q1.2 94 4) &&& 31)), q1.2))))
def sp_X0_waysFrom : am_S := fn_sp [(6, fn_F, G_X0_pairUp)]
theorem sm_X0_waysFrom : am_Smono (sp_X0_waysFrom) := fn_sp_mono _
set_option maxRecDepth 100000 in
theorem t_X0_waysFrom {n : Nat} {r : Nat → Nat → Option Nat} (hf : fn_F n r) {q : Int32 × fm_} (p1 : Int32) {m : fm_}
  (h : f_X0_waysFrom p1 m = some q) {Q : Option Value → am_W → Prop} (hQ : Q (en_i q).1 (mk_ n r q.2)) : am_T m_X0_waysFrom sp_X0_waysFrom n Q 0 [some (.ref 94), some (.int p1)] [] (mk_ n r m) :=
  am_T.wp sm_X0_waysFrom (K := am_T m_X0_waysFrom sp_X0_waysFrom n Q) (cuts := []) (fun _ _ _ _ h => h) 9
    (fh_bd h fun q1 e2 h3 => ⟨Nat.le_of_ble_eq_true rfl, fn_aF hf rfl rfl, ⟨hf, none, q1.2, gp_X0_pairUp (n := n) (r := r)  e2, fun _ => ⟨rfl, ⟨fn_aF hf rfl rfl, ⟨rfl, fh_rt h3 hQ⟩⟩⟩⟩⟩)
noncomputable def G_X0_waysFrom (n : Nat) (r : Nat → Nat → Option Nat) (as : List Value) (m : fm_) : Option (Option Value × fm_) := match as with
  | [.ref x0, .int p1] => gd_ (Nat.beq x0 94) ((f_X0_waysFrom p1 m).map en_i)
  | _ => none
set_option maxRecDepth 100000 in
theorem gp_X0_waysFrom {n : Nat} {r : Nat → Nat → Option Nat}  {p1 : Int32} {m : fm_} {q : Int32 × fm_}  (e : f_X0_waysFrom p1 m = some q) : G_X0_waysFrom n r [.ref 94, .int p1] m = some (en_i q) := by
  show (gd_ (Nat.beq 94 94) ((f_X0_waysFrom p1 m).map en_i)) = _
  exact fn_gd rfl (fn_mp e)
set_option maxRecDepth 100000 in
theorem ok_X0_waysFrom : am_mok 0 3 m_X0_waysFrom = true := by decide +kernel
set_option maxRecDepth 100000 in
theorem c_X0_waysFrom (l : Launch) {g : am_G} (hg : fx_ l g) : am_Met l g 3 3 (fn_s fn_F G_X0_waysFrom) := by
  refine am_sound (own := 0) (M := m_X0_waysFrom) (SP := sp_X0_waysFrom) hg.1 (by decide +kernel) ok_X0_waysFrom (by decide +kernel) ?_ (fun q hq hk => absurd hk (am_no61 (M := m_X0_waysFrom) (by decide +kernel) q hq)) (fn_ext l _ rfl g 0) (Or.inl (by decide +kernel)) ?_ ?_
  · intro q hq hk
    have hm : q.2.2.2.1 ∈ am_cs m_X0_waysFrom := am_cs_in hq hk
    rw [show am_cs m_X0_waysFrom = [6] by decide +kernel] at hm
    have hm : q.2.2.2.1 ∈ [6] := (List.all_eq_true.mp (show ([6] : List Nat).all (fun a => decide (a ∈ ([6] : List Nat))) = true by decide +kernel) _ hm |> of_decide_eq_true)
    simp only [List.mem_cons, List.not_mem_nil, or_false] at hm
    rcases hm with hm
    · rw [hm]; exact ⟨2, by omega, c_X0_pairUp l hg⟩
  · intro as w K h
    obtain ⟨hf, y, m1, hG, hK⟩ := h
    unfold G_X0_waysFrom at hG
    split at hG
    · exact Nat.le_of_ble_eq_true rfl
    · cases hG
  · intro as w K h
    obtain ⟨n, i0, l0, r⟩ := w
    obtain ⟨hf, y, m1, hG, hK⟩ := h
    unfold G_X0_waysFrom at hG
    split at hG
    · next x0 p1 =>
      obtain ⟨hx1, hG1⟩ := gd_u hG
      obtain rfl := Nat.eq_of_beq_eq_true hx1
      obtain ⟨q, hq, he⟩ := fn_mu hG1
      obtain ⟨rfl, rfl⟩ := Prod.mk.inj he
      exact t_X0_waysFrom  hf  p1 (m := (i0, l0)) hq hK
    · cases hG

/-! == X0_waysAsGood == -/
abbrev S_X0_waysAsGood : Type := (Int32 × Int32 × Int32 × Int32 × Int32 × Int32 × fm_)
noncomputable def st_X0_waysAsGood (s : S_X0_waysAsGood) : Option (S_X0_waysAsGood ⊕ (Int32 × fm_)) := match s with
  | (x1, x2, x3, x4, x5, x6, m) =>
    (if (1 <<< ((gi_ m 94 4) &&& 31)) ≤ x6 then
((some (Sum.inr (x5, m))))
else
(Option.bind (f_J6_numberOfTrailingZeros_0f7a4 x6 m) fun q3 =>
(if ((x4 >>> (q3.1 &&& 31)) &&& 1) = 1 then
(gd_ (ix_ q3.1 12)
(if (ab_ (x2 + (2 * (gi_ q3.2 97 (Int32.toNatClampNeg q3.1))))) < x3 then
((some (Sum.inl ((x1, (x2 + (2 * (gi_ q3.2 97 (Int32.toNatClampNeg q3.1)))), x3, (x4 ^^^ (1 <<< (q3.1 &&& 31))), x5, (x6 + 1), q3.2)))))
else
((some (Sum.inl ((x1, (x2 + (2 * (gi_ q3.2 97 (Int32.toNatClampNeg q3.1)))), x3, (x4 ^^^ (1 <<< (q3.1 &&& 31))), (x5 + 1), (x6 + 1), q3.2)))))))
else
(gd_ (ix_ q3.1 12)
(if (ab_ (x2 + ((-2) * (gi_ q3.2 97 (Int32.toNatClampNeg q3.1))))) < x3 then
((some (Sum.inl ((x1, (x2 + ((-2) * (gi_ q3.2 97 (Int32.toNatClampNeg q3.1)))), x3, (x4 ^^^ (1 <<< (q3.1 &&& 31))), x5, (x6 + 1), q3.2)))))
else
((some (Sum.inl ((x1, (x2 + ((-2) * (gi_ q3.2 97 (Int32.toNatClampNeg q3.1)))), x3, (x4 ^^^ (1 <<< (q3.1 &&& 31))), (x5 + 1), (x6 + 1), q3.2))))))))))
noncomputable def f_X0_waysAsGood_24 (x1 : Int32) (x2 : Int32) (x3 : Int32) (x4 : Int32) (x5 : Int32) (x6 : Int32) (m : fm_) : Option (Int32 × fm_) := am_lp (st_X0_waysAsGood) ((x1, x2, x3, x4, x5, x6, m))
theorem e_X0_waysAsGood_24 (x1 : Int32) (x2 : Int32) (x3 : Int32) (x4 : Int32) (x5 : Int32) (x6 : Int32) (m : fm_) : f_X0_waysAsGood_24 x1 x2 x3 x4 x5 x6 m =
(if (1 <<< ((gi_ m 94 4) &&& 31)) ≤ x6 then
((some (x5, m)))
else
(Option.bind (f_J6_numberOfTrailingZeros_0f7a4 x6 m) fun q3 =>
(if ((x4 >>> (q3.1 &&& 31)) &&& 1) = 1 then
(gd_ (ix_ q3.1 12)
(if (ab_ (x2 + (2 * (gi_ q3.2 97 (Int32.toNatClampNeg q3.1))))) < x3 then
((f_X0_waysAsGood_24 x1 (x2 + (2 * (gi_ q3.2 97 (Int32.toNatClampNeg q3.1)))) x3 (x4 ^^^ (1 <<< (q3.1 &&& 31))) x5 (x6 + 1) q3.2))
else
((f_X0_waysAsGood_24 x1 (x2 + (2 * (gi_ q3.2 97 (Int32.toNatClampNeg q3.1)))) x3 (x4 ^^^ (1 <<< (q3.1 &&& 31))) (x5 + 1) (x6 + 1) q3.2))))
else
(gd_ (ix_ q3.1 12)
(if (ab_ (x2 + ((-2) * (gi_ q3.2 97 (Int32.toNatClampNeg q3.1))))) < x3 then
((f_X0_waysAsGood_24 x1 (x2 + ((-2) * (gi_ q3.2 97 (Int32.toNatClampNeg q3.1)))) x3 (x4 ^^^ (1 <<< (q3.1 &&& 31))) x5 (x6 + 1) q3.2))
else
((f_X0_waysAsGood_24 x1 (x2 + ((-2) * (gi_ q3.2 97 (Int32.toNatClampNeg q3.1)))) x3 (x4 ^^^ (1 <<< (q3.1 &&& 31))) (x5 + 1) (x6 + 1) q3.2))))))) :=
  (am_lp_eq _ _).trans (fe_if (rfl) (fe_bd fun q3 => (fe_if (fe_gd (fe_if (rfl) (rfl))) (fe_gd (fe_if (rfl) (rfl))))))
noncomputable def f_X0_waysAsGood (p1 : Int32) (m : fm_) : Option (Int32 × fm_) :=
  (Option.bind (f_X0_pairUp p1 m) fun q1 =>
(Option.bind (f_X0_sumOfGains q1.2) fun q4 =>
((f_X0_waysAsGood_24 p1 q4.1 (ab_ q4.1) 0 1 1 q4.2))))
def sp_X0_waysAsGood : am_S := fn_sp [(6, fn_F, G_X0_pairUp), (5, fn_F, G_X0_sumOfGains), (284, fn_0, G_J6_numberOfTrailingZeros_0f7a4)]
theorem sm_X0_waysAsGood : am_Smono (sp_X0_waysAsGood) := fn_sp_mono _
def P_X0_waysAsGood (n : Nat) (r : Nat → Nat → Option Nat) (s : S_X0_waysAsGood) (q : Int32 × fm_) : Prop := match s with
  | (x1, x2, x3, x4, x5, x6, m) => ∀ (Q : Option Value → am_W → Prop) (y7 : Option Value) (y8 : Option Value), Q (en_i q).1 (mk_ n r q.2) → am_T m_X0_waysAsGood sp_X0_waysAsGood n Q 24 [some (.ref 94), some (.int x1), some (.int x2), some (.int x3), some (.int x4), some (.int x5), some (.int x6), y7, y8] [] (mk_ n r m)
set_option maxRecDepth 100000 in
theorem t_X0_waysAsGood_24 {n : Nat} {r : Nat → Nat → Option Nat} (hf : fn_F n r) {K : S_X0_waysAsGood → Option (Int32 × fm_)} {q : Int32 × fm_} (hK : ∀ s, K s = some q → P_X0_waysAsGood n r s q) (x1 : Int32) (x2 : Int32) (x3 : Int32) (x4 : Int32) (x5 : Int32) (x6 : Int32) (m : fm_)
  (h : am_k K (st_X0_waysAsGood ((x1, x2, x3, x4, x5, x6, m))) = some q) : P_X0_waysAsGood n r ((x1, x2, x3, x4, x5, x6, m)) q := fun Q y7 y8 hQ =>
  am_T.wp sm_X0_waysAsGood (K := am_T m_X0_waysAsGood sp_X0_waysAsGood n Q) (cuts := [24]) (fun _ _ _ _ h => h) 46
    (⟨fn_aF hf rfl rfl, fj_if h (fun c1 h2 => ⟨rfl, fj_rt h2 hQ⟩) (fun c1 h2 => fj_bd h2 fun q3 e4 h5 => ⟨Nat.le_of_ble_eq_true rfl, trivial, ⟨trivial, some (.int q3.1), q3.2, gp_J6_numberOfTrailingZeros_0f7a4 (n := n) (r := r)  e4, fun _ => fj_in h5 (fun c6 h7 => ⟨fun c8 => ⟨fn_aF hf rfl rfl, Or.inl ⟨_, hf.2 94 3 97 rfl, fj_gd h7 fun g10 h9 => ⟨12, fn_aF hf rfl rfl, ix_t g10, ⟨Nat.le_of_ble_eq_true rfl, fj_if h9 (fun c11 h12 => hK _ h12 _ _ _ hQ) (fun c11 h12 => hK _ h12 _ _ _ hQ)⟩⟩⟩⟩, fun c8 => absurd c8 (by decide)⟩) (fun c6 h7 => ⟨fun c13 => absurd c13 (by decide), fun c13 => ⟨fn_aF hf rfl rfl, Or.inl ⟨_, hf.2 94 3 97 rfl, fj_gd h7 fun g15 h14 => ⟨12, fn_aF hf rfl rfl, ix_t g15, ⟨Nat.le_of_ble_eq_true rfl, fj_if h14 (fun c16 h17 => hK _ h17 _ _ _ hQ) (fun c16 h17 => hK _ h17 _ _ _ hQ)⟩⟩⟩⟩⟩)⟩⟩)⟩)
theorem l_X0_waysAsGood {n : Nat} {r : Nat → Nat → Option Nat} (hf : fn_F n r) (s : S_X0_waysAsGood) (q : Int32 × fm_) (h : am_lp (st_X0_waysAsGood) s = some q) : P_X0_waysAsGood n r s q :=
  am_lp_snd (P := P_X0_waysAsGood n r) (fun K hK s q h => match s, h with
    | (x1, x2, x3, x4, x5, x6, m), h => t_X0_waysAsGood_24 hf (fun s => hK s q) x1 x2 x3 x4 x5 x6 m h) s q h
set_option maxRecDepth 100000 in
theorem t_X0_waysAsGood {n : Nat} {r : Nat → Nat → Option Nat} (hf : fn_F n r) {q : Int32 × fm_} (p1 : Int32) {m : fm_}
  (h : f_X0_waysAsGood p1 m = some q) {Q : Option Value → am_W → Prop} (hQ : Q (en_i q).1 (mk_ n r q.2)) : am_T m_X0_waysAsGood sp_X0_waysAsGood n Q 0 [some (.ref 94), some (.int p1), none, none, none, none, none, none, none] [] (mk_ n r m) :=
  am_T.wp sm_X0_waysAsGood (K := am_T m_X0_waysAsGood sp_X0_waysAsGood n Q) (cuts := [24]) (fun _ _ _ _ h => h) 17
    (fh_bd h fun q1 e2 h3 => ⟨Nat.le_of_ble_eq_true rfl, fn_aF hf rfl rfl, ⟨hf, none, q1.2, gp_X0_pairUp (n := n) (r := r)  e2, fun _ => ⟨rfl, fh_bd h3 fun q4 e5 h6 => ⟨Nat.le_of_ble_eq_true rfl, fn_aF hf rfl rfl, ⟨hf, some (.int q4.1), q4.2, gp_X0_sumOfGains (n := n) (r := r)  e5, fun _ => ⟨Nat.le_of_ble_eq_true rfl, l_X0_waysAsGood hf _ _ h6 _ _ _ hQ⟩⟩⟩⟩⟩⟩)
noncomputable def G_X0_waysAsGood (n : Nat) (r : Nat → Nat → Option Nat) (as : List Value) (m : fm_) : Option (Option Value × fm_) := match as with
  | [.ref x0, .int p1] => gd_ (Nat.beq x0 94) ((f_X0_waysAsGood p1 m).map en_i)
  | _ => none
set_option maxRecDepth 100000 in
theorem gp_X0_waysAsGood {n : Nat} {r : Nat → Nat → Option Nat}  {p1 : Int32} {m : fm_} {q : Int32 × fm_}  (e : f_X0_waysAsGood p1 m = some q) : G_X0_waysAsGood n r [.ref 94, .int p1] m = some (en_i q) := by
  show (gd_ (Nat.beq 94 94) ((f_X0_waysAsGood p1 m).map en_i)) = _
  exact fn_gd rfl (fn_mp e)
set_option maxRecDepth 100000 in
theorem ok_X0_waysAsGood : am_mok 0 4 m_X0_waysAsGood = true := by decide +kernel
set_option maxRecDepth 100000 in
theorem c_X0_waysAsGood (l : Launch) {g : am_G} (hg : fx_ l g) : am_Met l g 3 4 (fn_s fn_F G_X0_waysAsGood) := by
  refine am_sound (own := 0) (M := m_X0_waysAsGood) (SP := sp_X0_waysAsGood) hg.1 (by decide +kernel) ok_X0_waysAsGood (by decide +kernel) ?_ (fun q hq hk => absurd hk (am_no61 (M := m_X0_waysAsGood) (by decide +kernel) q hq)) (fn_ext l _ rfl g 0) (Or.inl (by decide +kernel)) ?_ ?_
  · intro q hq hk
    have hm : q.2.2.2.1 ∈ am_cs m_X0_waysAsGood := am_cs_in hq hk
    rw [show am_cs m_X0_waysAsGood = [6, 5, 284] by decide +kernel] at hm
    have hm : q.2.2.2.1 ∈ [5, 6, 284] := (List.all_eq_true.mp (show ([6, 5, 284] : List Nat).all (fun a => decide (a ∈ ([5, 6, 284] : List Nat))) = true by decide +kernel) _ hm |> of_decide_eq_true)
    simp only [List.mem_cons, List.not_mem_nil, or_false] at hm
    rcases hm with hm | hm | hm
    · rw [hm]; exact ⟨0, by omega, c_X0_sumOfGains l hg⟩
    · rw [hm]; exact ⟨2, by omega, c_X0_pairUp l hg⟩
    · rw [hm]; exact ⟨0, by omega, c_J6_numberOfTrailingZeros_0f7a4 l hg⟩
  · intro as w K h
    obtain ⟨hf, y, m1, hG, hK⟩ := h
    unfold G_X0_waysAsGood at hG
    split at hG
    · exact Nat.le_of_ble_eq_true rfl
    · cases hG
  · intro as w K h
    obtain ⟨n, i0, l0, r⟩ := w
    obtain ⟨hf, y, m1, hG, hK⟩ := h
    unfold G_X0_waysAsGood at hG
    split at hG
    · next x0 p1 =>
      obtain ⟨hx1, hG1⟩ := gd_u hG
      obtain rfl := Nat.eq_of_beq_eq_true hx1
      obtain ⟨q, hq, he⟩ := fn_mu hG1
      obtain ⟨rfl, rfl⟩ := Prod.mk.inj he
      exact t_X0_waysAsGood  hf  p1 (m := (i0, l0)) hq hK
    · cases hG

/-! == X10_add == -/
noncomputable def f_X10_add (p1 : Int32) (p2 : Int32) (p3 : Int32) (p4 : Int32) (p5 : Int32) (m : fm_) : Option (Int32 × fm_) :=
  (if (gi_ m 98 7) < 20 then
(gd_ (ix_ (gi_ m 98 7) 20)
(gd_ (ix_ (gi_ m 98 7) 20)
(gd_ (ix_ (gi_ m 98 7) 20)
(gd_ (ix_ (gi_ m 98 7) 20)
(gd_ (ix_ (gi_ m 98 7) 20)
((some ((((gi_ m 98 7) + 1) - 1), (si_ (si_ (si_ (si_ (si_ (si_ m 99 (Int32.toNatClampNeg (gi_ m 98 7)) p1) 100 (Int32.toNatClampNeg (gi_ m 98 7)) p2) 101 (Int32.toNatClampNeg (gi_ m 98 7)) p3) 102 (Int32.toNatClampNeg (gi_ m 98 7)) p4) 103 (Int32.toNatClampNeg (gi_ m 98 7)) p5) 98 7 ((gi_ m 98 7) + 1))))))))))
else
((some ((-1), m))))
def sp_X10_add : am_S := fn_sp []
theorem sm_X10_add : am_Smono (sp_X10_add) := fn_sp_mono _
set_option maxRecDepth 100000 in
theorem t_X10_add {n : Nat} {r : Nat → Nat → Option Nat} (hf : fn_F n r) {q : Int32 × fm_} (p1 : Int32) (p2 : Int32) (p3 : Int32) (p4 : Int32) (p5 : Int32) {m : fm_}
  (h : f_X10_add p1 p2 p3 p4 p5 m = some q) {Q : Option Value → am_W → Prop} (hQ : Q (en_i q).1 (mk_ n r q.2)) : am_T m_X10_add sp_X10_add n Q 0 [some (.ref 98), some (.int p1), some (.int p2), some (.int p3), some (.int p4), some (.int p5)] [] (mk_ n r m) :=
  am_T.wp sm_X10_add (K := am_T m_X10_add sp_X10_add n Q) (cuts := []) (fun _ _ _ _ h => h) 46
    (⟨fn_aF hf rfl rfl, fh_if h (fun c1 h2 => ⟨fn_aF hf rfl rfl, Or.inl ⟨_, hf.2 98 2 99 rfl, ⟨fn_aF hf rfl rfl, fh_gd h2 fun g4 h3 => ⟨20, fn_aF hf rfl rfl, ix_t g4, ⟨fn_aF hf rfl rfl, Or.inl ⟨_, hf.2 98 3 100 rfl, ⟨fn_aF hf rfl rfl, fh_gd h3 fun g6 h5 => ⟨20, fn_aF hf rfl rfl, ix_t g6, ⟨fn_aF hf rfl rfl, Or.inl ⟨_, hf.2 98 4 101 rfl, ⟨fn_aF hf rfl rfl, fh_gd h5 fun g8 h7 => ⟨20, fn_aF hf rfl rfl, ix_t g8, ⟨fn_aF hf rfl rfl, Or.inl ⟨_, hf.2 98 5 102 rfl, ⟨fn_aF hf rfl rfl, fh_gd h7 fun g10 h9 => ⟨20, fn_aF hf rfl rfl, ix_t g10, ⟨fn_aF hf rfl rfl, Or.inl ⟨_, hf.2 98 6 103 rfl, ⟨fn_aF hf rfl rfl, fh_gd h9 fun g12 h11 => ⟨20, fn_aF hf rfl rfl, ix_t g12, ⟨fn_aF hf rfl rfl, ⟨fn_aF hf rfl rfl, ⟨fn_aF hf rfl rfl, ⟨rfl, fh_rt h11 hQ⟩⟩⟩⟩⟩⟩⟩⟩⟩⟩⟩⟩⟩⟩⟩⟩⟩⟩⟩⟩⟩⟩⟩⟩) (fun c1 h2 => ⟨rfl, fh_rt h2 hQ⟩)⟩)
noncomputable def G_X10_add (n : Nat) (r : Nat → Nat → Option Nat) (as : List Value) (m : fm_) : Option (Option Value × fm_) := match as with
  | [.ref x0, .int p1, .int p2, .int p3, .int p4, .int p5] => gd_ (Nat.beq x0 98) ((f_X10_add p1 p2 p3 p4 p5 m).map en_i)
  | _ => none
set_option maxRecDepth 100000 in
theorem gp_X10_add {n : Nat} {r : Nat → Nat → Option Nat}  {p1 : Int32} {p2 : Int32} {p3 : Int32} {p4 : Int32} {p5 : Int32} {m : fm_} {q : Int32 × fm_}  (e : f_X10_add p1 p2 p3 p4 p5 m = some q) : G_X10_add n r [.ref 98, .int p1, .int p2, .int p3, .int p4, .int p5] m = some (en_i q) := by
  show (gd_ (Nat.beq 98 98) ((f_X10_add p1 p2 p3 p4 p5 m).map en_i)) = _
  exact fn_gd rfl (fn_mp e)
set_option maxRecDepth 100000 in
theorem ok_X10_add : am_mok 10 136 m_X10_add = true := by decide +kernel
set_option maxRecDepth 100000 in
theorem c_X10_add (l : Launch) {g : am_G} (hg : fx_ l g) : am_Met l g 0 136 (fn_s fn_F G_X10_add) := by
  refine am_sound (own := 10) (M := m_X10_add) (SP := sp_X10_add) hg.1 (by decide +kernel) ok_X10_add (by decide +kernel) ?_ (fun q hq hk => absurd hk (am_no61 (M := m_X10_add) (by decide +kernel) q hq)) (fn_ext l _ rfl g 10) (Or.inl (by decide +kernel)) ?_ ?_
  · intro q hq hk
    have hm : q.2.2.2.1 ∈ am_cs m_X10_add := am_cs_in hq hk
    rw [show am_cs m_X10_add = [] by decide +kernel] at hm
    cases hm
  · intro as w K h
    obtain ⟨hf, y, m1, hG, hK⟩ := h
    unfold G_X10_add at hG
    split at hG
    · exact Nat.le_of_ble_eq_true rfl
    · cases hG
  · intro as w K h
    obtain ⟨n, i0, l0, r⟩ := w
    obtain ⟨hf, y, m1, hG, hK⟩ := h
    unfold G_X10_add at hG
    split at hG
    · next x0 p1 p2 p3 p4 p5 =>
      obtain ⟨hx1, hG1⟩ := gd_u hG
      obtain rfl := Nat.eq_of_beq_eq_true hx1
      obtain ⟨q, hq, he⟩ := fn_mu hG1
      obtain ⟨rfl, rfl⟩ := Prod.mk.inj he
      exact t_X10_add  hf  p1 p2 p3 p4 p5 (m := (i0, l0)) hq hK
    · cases hG

/-! == X10_visit == -/
noncomputable def f_X10_visit (p1 : Int32) (m : fm_) : Option (Int32 × fm_) :=
  (if 12 ≤ (gi_ m 98 9) then
((some (0, m)))
else
(gd_ (ix_ (gi_ m 98 9) 12)
((some (0, (si_ (si_ (si_ m 104 (Int32.toNatClampNeg (gi_ m 98 9)) p1) 98 9 ((gi_ m 98 9) + 1)) 98 10 ((gi_ m 98 10) ||| (1 <<< (p1 &&& 31)))))))))
def sp_X10_visit : am_S := fn_sp []
theorem sm_X10_visit : am_Smono (sp_X10_visit) := fn_sp_mono _
set_option maxRecDepth 100000 in
theorem t_X10_visit {n : Nat} {r : Nat → Nat → Option Nat} (hf : fn_F n r) {q : Int32 × fm_} (p1 : Int32) {m : fm_}
  (h : f_X10_visit p1 m = some q) {Q : Option Value → am_W → Prop} (hQ : Q (en_v q).1 (mk_ n r q.2)) : am_T m_X10_visit sp_X10_visit n Q 0 [some (.ref 98), some (.int p1)] [] (mk_ n r m) :=
  am_T.wp sm_X10_visit (K := am_T m_X10_visit sp_X10_visit n Q) (cuts := []) (fun _ _ _ _ h => h) 26
    (⟨fn_aF hf rfl rfl, fh_if h (fun c1 h2 => ⟨rfl, fh_rt h2 hQ⟩) (fun c1 h2 => ⟨fn_aF hf rfl rfl, Or.inl ⟨_, hf.2 98 8 104 rfl, ⟨fn_aF hf rfl rfl, fh_gd h2 fun g4 h3 => ⟨12, fn_aF hf rfl rfl, ix_t g4, ⟨fn_aF hf rfl rfl, ⟨fn_aF hf rfl rfl, ⟨fn_aF hf rfl rfl, ⟨fn_aF hf rfl rfl, ⟨rfl, fh_rt h3 hQ⟩⟩⟩⟩⟩⟩⟩⟩⟩)⟩)
noncomputable def G_X10_visit (n : Nat) (r : Nat → Nat → Option Nat) (as : List Value) (m : fm_) : Option (Option Value × fm_) := match as with
  | [.ref x0, .int p1] => gd_ (Nat.beq x0 98) ((f_X10_visit p1 m).map en_v)
  | _ => none
set_option maxRecDepth 100000 in
theorem gp_X10_visit {n : Nat} {r : Nat → Nat → Option Nat}  {p1 : Int32} {m : fm_} {q : Int32 × fm_}  (e : f_X10_visit p1 m = some q) : G_X10_visit n r [.ref 98, .int p1] m = some (en_v q) := by
  show (gd_ (Nat.beq 98 98) ((f_X10_visit p1 m).map en_v)) = _
  exact fn_gd rfl (fn_mp e)
set_option maxRecDepth 100000 in
theorem ok_X10_visit : am_mok 10 142 m_X10_visit = true := by decide +kernel
set_option maxRecDepth 100000 in
theorem c_X10_visit (l : Launch) {g : am_G} (hg : fx_ l g) : am_Met l g 0 142 (fn_s fn_F G_X10_visit) := by
  refine am_sound (own := 10) (M := m_X10_visit) (SP := sp_X10_visit) hg.1 (by decide +kernel) ok_X10_visit (by decide +kernel) ?_ (fun q hq hk => absurd hk (am_no61 (M := m_X10_visit) (by decide +kernel) q hq)) (fn_ext l _ rfl g 10) (Or.inl (by decide +kernel)) ?_ ?_
  · intro q hq hk
    have hm : q.2.2.2.1 ∈ am_cs m_X10_visit := am_cs_in hq hk
    rw [show am_cs m_X10_visit = [] by decide +kernel] at hm
    cases hm
  · intro as w K h
    obtain ⟨hf, y, m1, hG, hK⟩ := h
    unfold G_X10_visit at hG
    split at hG
    · exact Nat.le_of_ble_eq_true rfl
    · cases hG
  · intro as w K h
    obtain ⟨n, i0, l0, r⟩ := w
    obtain ⟨hf, y, m1, hG, hK⟩ := h
    unfold G_X10_visit at hG
    split at hG
    · next x0 p1 =>
      obtain ⟨hx1, hG1⟩ := gd_u hG
      obtain rfl := Nat.eq_of_beq_eq_true hx1
      obtain ⟨q, hq, he⟩ := fn_mu hG1
      obtain ⟨rfl, rfl⟩ := Prod.mk.inj he
      exact t_X10_visit  hf  p1 (m := (i0, l0)) hq hK
    · cases hG

