/-! == X6_markSetsByOne == -/
abbrev S_X6_markSetsByOne : Type := (Int32 × fm_) ⊕ (Int32 × Int32 × Int32 × Int32 × Int32 × fm_)
noncomputable def st_X6_markSetsByOne (s : S_X6_markSetsByOne) : Option (S_X6_markSetsByOne ⊕ (Int32 × fm_)) := match s with
  | Sum.inl ((x1, m)) =>
    (if (1 <<< ((gi_ m 82 9) &&& 31)) ≤ x1 then
((some (Sum.inr (0, m))))
else
(Option.bind (f_J6_numberOfTrailingZeros_0f7a4 x1 m) fun q3 =>
(gd_ (ix_ (x1 &&& (x1 - 1)) 128)
((some (Sum.inl (Sum.inr ((x1, q3.1, (x1 &&& (x1 - 1)), (gi_ q3.2 89 (Int32.toNatClampNeg (x1 &&& (x1 - 1)))), (q3.1 + 1), q3.2)))))))))
  | Sum.inr ((x1, x2, x3, x4, x5, m)) =>
    (if x4 = 0 then
(gd_ (ix_ x1 128)
(gd_ (bl_ x4)
((some (Sum.inl (Sum.inl (((x1 + 1), (si_ m 89 (Int32.toNatClampNeg x1) x4)))))))))
else
(if (gi_ m 82 9) ≤ x5 then
(gd_ (ix_ x1 128)
(gd_ (bl_ x4)
((some (Sum.inl (Sum.inl (((x1 + 1), (si_ m 89 (Int32.toNatClampNeg x1) x4)))))))))
else
(if ((x3 >>> (x5 &&& 31)) &&& 1) = 0 then
((some (Sum.inl (Sum.inr ((x1, x2, x3, 1, (x5 + 1), m))))))
else
(gd_ (ix_ x2 7)
(gd_ (ix_ x5 7)
(Option.bind (f_X6_canBeOne (gi_ m 87 (Int32.toNatClampNeg x2)) (gi_ m 87 (Int32.toNatClampNeg x5)) m) fun q19 =>
(if q19.1 = 0 then
((some (Sum.inl (Sum.inr ((x1, x2, x3, 0, (x5 + 1), q19.2))))))
else
((some (Sum.inl (Sum.inr ((x1, x2, x3, 1, (x5 + 1), q19.2)))))))))))))
noncomputable def f_X6_markSetsByOne_9 (x1 : Int32) (m : fm_) : Option (Int32 × fm_) := am_lp (st_X6_markSetsByOne) (Sum.inl ((x1, m)))
noncomputable def f_X6_markSetsByOne_43 (x1 : Int32) (x2 : Int32) (x3 : Int32) (x4 : Int32) (x5 : Int32) (m : fm_) : Option (Int32 × fm_) := am_lp (st_X6_markSetsByOne) (Sum.inr ((x1, x2, x3, x4, x5, m)))
theorem e_X6_markSetsByOne_9 (x1 : Int32) (m : fm_) : f_X6_markSetsByOne_9 x1 m =
(if (1 <<< ((gi_ m 82 9) &&& 31)) ≤ x1 then
((some (0, m)))
else
(Option.bind (f_J6_numberOfTrailingZeros_0f7a4 x1 m) fun q3 =>
(gd_ (ix_ (x1 &&& (x1 - 1)) 128)
((f_X6_markSetsByOne_43 x1 q3.1 (x1 &&& (x1 - 1)) (gi_ q3.2 89 (Int32.toNatClampNeg (x1 &&& (x1 - 1)))) (q3.1 + 1) q3.2))))) :=
  (am_lp_eq _ _).trans (fe_if (rfl) (fe_bd fun q3 => (fe_gd (rfl))))
theorem e_X6_markSetsByOne_43 (x1 : Int32) (x2 : Int32) (x3 : Int32) (x4 : Int32) (x5 : Int32) (m : fm_) : f_X6_markSetsByOne_43 x1 x2 x3 x4 x5 m =
(if x4 = 0 then
(gd_ (ix_ x1 128)
(gd_ (bl_ x4)
((f_X6_markSetsByOne_9 (x1 + 1) (si_ m 89 (Int32.toNatClampNeg x1) x4)))))
else
(if (gi_ m 82 9) ≤ x5 then
(gd_ (ix_ x1 128)
(gd_ (bl_ x4)
((f_X6_markSetsByOne_9 (x1 + 1) (si_ m 89 (Int32.toNatClampNeg x1) x4)))))
else
(if ((x3 >>> (x5 &&& 31)) &&& 1) = 0 then
((f_X6_markSetsByOne_43 x1 x2 x3 1 (x5 + 1) m))
else
(gd_ (ix_ x2 7)
(gd_ (ix_ x5 7)
(Option.bind (f_X6_canBeOne (gi_ m 87 (Int32.toNatClampNeg x2)) (gi_ m 87 (Int32.toNatClampNeg x5)) m) fun q19 =>
(if q19.1 = 0 then
((f_X6_markSetsByOne_43 x1 x2 x3 0 (x5 + 1) q19.2))
else
((f_X6_markSetsByOne_43 x1 x2 x3 1 (x5 + 1) q19.2))))))))) :=
  (am_lp_eq _ _).trans (fe_if (fe_gd (fe_gd (rfl))) (fe_if (fe_gd (fe_gd (rfl))) (fe_if (rfl) (fe_gd (fe_gd (fe_bd fun q19 => (fe_if (rfl) (rfl))))))))
noncomputable def f_X6_markSetsByOne  (m : fm_) : Option (Int32 × fm_) :=
  (gd_ (ix_ 0 128)
((f_X6_markSetsByOne_9 1 (si_ m 89 (Int32.toNatClampNeg 0) 1))))
def sp_X6_markSetsByOne : am_S := fn_sp [(284, fn_0, G_J6_numberOfTrailingZeros_0f7a4), (80, fn_F, G_X6_canBeOne)]
theorem sm_X6_markSetsByOne : am_Smono (sp_X6_markSetsByOne) := fn_sp_mono _
def P_X6_markSetsByOne (n : Nat) (r : Nat → Nat → Option Nat) (s : S_X6_markSetsByOne) (q : Int32 × fm_) : Prop := match s with
  | Sum.inl ((x1, m)) => ∀ (Q : Option Value → am_W → Prop) (y2 : Option Value) (y3 : Option Value) (y4 : Option Value) (y5 : Option Value), Q (en_v q).1 (mk_ n r q.2) → am_T m_X6_markSetsByOne sp_X6_markSetsByOne n Q 9 [some (.ref 82), some (.int x1), y2, y3, y4, y5] [] (mk_ n r m)
  | Sum.inr ((x1, x2, x3, x4, x5, m)) => ∀ (Q : Option Value → am_W → Prop), Q (en_v q).1 (mk_ n r q.2) → am_T m_X6_markSetsByOne sp_X6_markSetsByOne n Q 43 [some (.ref 82), some (.int x1), some (.int x2), some (.int x3), some (.int x4), some (.int x5)] [] (mk_ n r m)
set_option maxRecDepth 100000 in
theorem t_X6_markSetsByOne_9 {n : Nat} {r : Nat → Nat → Option Nat} (hf : fn_F n r) {K : S_X6_markSetsByOne → Option (Int32 × fm_)} {q : Int32 × fm_} (hK : ∀ s, K s = some q → P_X6_markSetsByOne n r s q) (x1 : Int32) (m : fm_)
  (h : am_k K (st_X6_markSetsByOne (Sum.inl ((x1, m)))) = some q) : P_X6_markSetsByOne n r (Sum.inl ((x1, m))) q := fun Q y2 y3 y4 y5 hQ =>
  am_T.wp sm_X6_markSetsByOne (K := am_T m_X6_markSetsByOne sp_X6_markSetsByOne n Q) (cuts := [9, 43]) (fun _ _ _ _ h => h) 26
    (⟨fn_aF hf rfl rfl, fj_if h (fun c1 h2 => ⟨rfl, fj_rt h2 hQ⟩) (fun c1 h2 => fj_bd h2 fun q3 e4 h5 => ⟨Nat.le_of_ble_eq_true rfl, trivial, ⟨trivial, some (.int q3.1), q3.2, gp_J6_numberOfTrailingZeros_0f7a4 (n := n) (r := r)  e4, fun _ => ⟨fn_aF hf rfl rfl, Or.inl ⟨_, hf.2 82 11 89 rfl, fj_gd h5 fun g7 h6 => ⟨128, Or.inr (fn_aF hf rfl rfl), ix_t g7, hK _ h6 _ hQ⟩⟩⟩⟩⟩)⟩)
set_option maxRecDepth 100000 in
theorem t_X6_markSetsByOne_43 {n : Nat} {r : Nat → Nat → Option Nat} (hf : fn_F n r) {K : S_X6_markSetsByOne → Option (Int32 × fm_)} {q : Int32 × fm_} (hK : ∀ s, K s = some q → P_X6_markSetsByOne n r s q) (x1 : Int32) (x2 : Int32) (x3 : Int32) (x4 : Int32) (x5 : Int32) (m : fm_)
  (h : am_k K (st_X6_markSetsByOne (Sum.inr ((x1, x2, x3, x4, x5, m)))) = some q) : P_X6_markSetsByOne n r (Sum.inr ((x1, x2, x3, x4, x5, m))) q := fun Q hQ =>
  am_T.wp sm_X6_markSetsByOne (K := am_T m_X6_markSetsByOne sp_X6_markSetsByOne n Q) (cuts := [9, 43]) (fun _ _ _ _ h => h) 30
    (fj_if h (fun c1 h2 => ⟨fn_aF hf rfl rfl, Or.inl ⟨_, hf.2 82 11 89 rfl, fj_gd h2 fun g4 h6 => fj_gd h6 fun g5 h3 => ⟨128, ix_t g4, Or.inr ⟨fn_aF hf rfl rfl, bl_t g5, hK _ h3 _ _ _ _ _ hQ⟩⟩⟩⟩) (fun c1 h2 => ⟨fn_aF hf rfl rfl, fj_if h2 (fun c7 h8 => ⟨fn_aF hf rfl rfl, Or.inl ⟨_, hf.2 82 11 89 rfl, fj_gd h8 fun g10 h12 => fj_gd h12 fun g11 h9 => ⟨128, ix_t g10, Or.inr ⟨fn_aF hf rfl rfl, bl_t g11, hK _ h9 _ _ _ _ _ hQ⟩⟩⟩⟩) (fun c7 h8 => fj_if h8 (fun c13 h14 => hK _ h14 _ hQ) (fun c13 h14 => ⟨fn_aF hf rfl rfl, Or.inl ⟨_, hf.2 82 8 87 rfl, fj_gd h14 fun g16 h15 => ⟨7, fn_aF hf rfl rfl, ix_t g16, ⟨fn_aF hf rfl rfl, Or.inl ⟨_, hf.2 82 8 87 rfl, fj_gd h15 fun g18 h17 => ⟨7, fn_aF hf rfl rfl, ix_t g18, fj_bd h17 fun q19 e20 h21 => ⟨Nat.le_of_ble_eq_true rfl, fn_aF hf rfl rfl, ⟨hf, some (.int q19.1), q19.2, gp_X6_canBeOne (n := n) (r := r)  e20, fun _ => fj_if h21 (fun c22 h23 => hK _ h23 _ hQ) (fun c22 h23 => hK _ h23 _ hQ)⟩⟩⟩⟩⟩⟩⟩⟩))⟩))
theorem l_X6_markSetsByOne {n : Nat} {r : Nat → Nat → Option Nat} (hf : fn_F n r) (s : S_X6_markSetsByOne) (q : Int32 × fm_) (h : am_lp (st_X6_markSetsByOne) s = some q) : P_X6_markSetsByOne n r s q :=
  am_lp_snd (P := P_X6_markSetsByOne n r) (fun K hK s q h => match s, h with
    | Sum.inl ((x1, m)), h => t_X6_markSetsByOne_9 hf (fun s => hK s q) x1 m h
    | Sum.inr ((x1, x2, x3, x4, x5, m)), h => t_X6_markSetsByOne_43 hf (fun s => hK s q) x1 x2 x3 x4 x5 m h) s q h
set_option maxRecDepth 100000 in
theorem t_X6_markSetsByOne {n : Nat} {r : Nat → Nat → Option Nat} (hf : fn_F n r) {q : Int32 × fm_}  {m : fm_}
  (h : f_X6_markSetsByOne  m = some q) {Q : Option Value → am_W → Prop} (hQ : Q (en_v q).1 (mk_ n r q.2)) : am_T m_X6_markSetsByOne sp_X6_markSetsByOne n Q 0 [some (.ref 82), none, none, none, none, none] [] (mk_ n r m) :=
  am_T.wp sm_X6_markSetsByOne (K := am_T m_X6_markSetsByOne sp_X6_markSetsByOne n Q) (cuts := [9, 43]) (fun _ _ _ _ h => h) 9
    (⟨fn_aF hf rfl rfl, Or.inl ⟨_, hf.2 82 11 89 rfl, fh_gd h fun g2 h1 => ⟨128, ix_t g2, Or.inr ⟨fn_aF hf rfl rfl, Or.inr rfl, l_X6_markSetsByOne hf _ _ h1 _ _ _ _ _ hQ⟩⟩⟩⟩)
noncomputable def G_X6_markSetsByOne (n : Nat) (r : Nat → Nat → Option Nat) (as : List Value) (m : fm_) : Option (Option Value × fm_) := match as with
  | [.ref x0] => gd_ (Nat.beq x0 82) ((f_X6_markSetsByOne  m).map en_v)
  | _ => none
set_option maxRecDepth 100000 in
theorem gp_X6_markSetsByOne {n : Nat} {r : Nat → Nat → Option Nat}   {m : fm_} {q : Int32 × fm_}  (e : f_X6_markSetsByOne  m = some q) : G_X6_markSetsByOne n r [.ref 82] m = some (en_v q) := by
  show (gd_ (Nat.beq 82 82) ((f_X6_markSetsByOne  m).map en_v)) = _
  exact fn_gd rfl (fn_mp e)
set_option maxRecDepth 100000 in
theorem ok_X6_markSetsByOne : am_mok 6 73 m_X6_markSetsByOne = true := by decide +kernel
set_option maxRecDepth 100000 in
theorem c_X6_markSetsByOne (l : Launch) {g : am_G} (hg : fx_ l g) : am_Met l g 3 73 (fn_s fn_F G_X6_markSetsByOne) := by
  refine am_sound (own := 6) (M := m_X6_markSetsByOne) (SP := sp_X6_markSetsByOne) hg.1 (by decide +kernel) ok_X6_markSetsByOne (by decide +kernel) ?_ (fun q hq hk => absurd hk (am_no61 (M := m_X6_markSetsByOne) (by decide +kernel) q hq)) (fn_ext l _ rfl g 6) (Or.inl (by decide +kernel)) ?_ ?_
  · intro q hq hk
    have hm : q.2.2.2.1 ∈ am_cs m_X6_markSetsByOne := am_cs_in hq hk
    rw [show am_cs m_X6_markSetsByOne = [284, 80] by decide +kernel] at hm
    have hm : q.2.2.2.1 ∈ [80, 284] := (List.all_eq_true.mp (show ([284, 80] : List Nat).all (fun a => decide (a ∈ ([80, 284] : List Nat))) = true by decide +kernel) _ hm |> of_decide_eq_true)
    simp only [List.mem_cons, List.not_mem_nil, or_false] at hm
    rcases hm with hm | hm
    · rw [hm]; exact ⟨2, by omega, c_X6_canBeOne l hg⟩
    · rw [hm]; exact ⟨0, by omega, c_J6_numberOfTrailingZeros_0f7a4 l hg⟩
  · intro as w K h
    obtain ⟨hf, y, m1, hG, hK⟩ := h
    unfold G_X6_markSetsByOne at hG
    split at hG
    · exact Nat.le_of_ble_eq_true rfl
    · cases hG
  · intro as w K h
    obtain ⟨n, i0, l0, r⟩ := w
    obtain ⟨hf, y, m1, hG, hK⟩ := h
    unfold G_X6_markSetsByOne at hG
    split at hG
    · next x0 =>
      obtain ⟨hx1, hG1⟩ := gd_u hG
      obtain rfl := Nat.eq_of_beq_eq_true hx1
      obtain ⟨q, hq, he⟩ := fn_mu hG1
      obtain ⟨rfl, rfl⟩ := Prod.mk.inj he
      exact t_X6_markSetsByOne  hf   (m := (i0, l0)) hq hK
    · cases hG

/-! == X6_share == -/
noncomputable def f_X6_share (p1 : Int32) (p2 : Int32) (p3 : Int32) (m : fm_) : Option (Int32 × fm_) :=
  (gd_ (ix_ (((gi_ m 82 9) - 1) - p1) 7)
((some (((p3 * 19487171) + (p2 * (fx_dwf (Int32.toNatClampNeg (((gi_ m 82 9) - 1) - p1))))), m))))
def sp_X6_share : am_S := fn_sp [(900, fn_0, G900_), (902, fn_0, G902_)]
theorem sm_X6_share : am_Smono (sp_X6_share) := fn_sp_mono _
set_option maxRecDepth 100000 in
theorem t_X6_share {n : Nat} {r : Nat → Nat → Option Nat} (hf : fn_F n r) {q : Int32 × fm_} (p1 : Int32) (p2 : Int32) (p3 : Int32) {m : fm_}
  (h : f_X6_share p1 p2 p3 m = some q) {Q : Option Value → am_W → Prop} (hQ : Q (en_i q).1 (mk_ n r q.2)) : am_T m_X6_share sp_X6_share n Q 0 [some (.ref 82), some (.int p1), some (.int p2), some (.int p3)] [] (mk_ n r m) :=
  am_T.wp sm_X6_share (K := am_T m_X6_share sp_X6_share n Q) (cuts := []) (fun _ _ _ _ h => h) 16
    (⟨trivial, _, _, g902_ (n := n) (r := r), fun _ => ⟨fn_aF hf rfl rfl, fh_gd h fun g2 h1 => ⟨trivial, _, _, g900_ (n := n) (r := r) g2, fun _ => ⟨rfl, fh_rt h1 hQ⟩⟩⟩⟩)
noncomputable def G_X6_share (n : Nat) (r : Nat → Nat → Option Nat) (as : List Value) (m : fm_) : Option (Option Value × fm_) := match as with
  | [.ref x0, .int p1, .int p2, .int p3] => gd_ (Nat.beq x0 82) ((f_X6_share p1 p2 p3 m).map en_i)
  | _ => none
set_option maxRecDepth 100000 in
theorem gp_X6_share {n : Nat} {r : Nat → Nat → Option Nat}  {p1 : Int32} {p2 : Int32} {p3 : Int32} {m : fm_} {q : Int32 × fm_}  (e : f_X6_share p1 p2 p3 m = some q) : G_X6_share n r [.ref 82, .int p1, .int p2, .int p3] m = some (en_i q) := by
  show (gd_ (Nat.beq 82 82) ((f_X6_share p1 p2 p3 m).map en_i)) = _
  exact fn_gd rfl (fn_mp e)
set_option maxRecDepth 100000 in
theorem ok_X6_share : am_mok 6 77 m_X6_share = true := by decide +kernel
set_option maxRecDepth 100000 in
theorem c_X6_share (l : Launch) {g : am_G} (hg : fx_ l g) : am_Met l g 0 77 (fn_s fn_F G_X6_share) := by
  refine am_sound (own := 6) (M := m_X6_share) (SP := sp_X6_share) hg.1 (by decide +kernel) ok_X6_share (by decide +kernel) ?_ (fun q hq hk => absurd hk (am_no61 (M := m_X6_share) (by decide +kernel) q hq)) (fx_e6 hg) (Or.inl (by decide +kernel)) ?_ ?_
  · intro q hq hk
    have hm : q.2.2.2.1 ∈ am_cs m_X6_share := am_cs_in hq hk
    rw [show am_cs m_X6_share = [] by decide +kernel] at hm
    cases hm
  · intro as w K h
    obtain ⟨hf, y, m1, hG, hK⟩ := h
    unfold G_X6_share at hG
    split at hG
    · exact Nat.le_of_ble_eq_true rfl
    · cases hG
  · intro as w K h
    obtain ⟨n, i0, l0, r⟩ := w
    obtain ⟨hf, y, m1, hG, hK⟩ := h
    unfold G_X6_share at hG
    split at hG
    · next x0 p1 p2 p3 =>
      obtain ⟨hx1, hG1⟩ := gd_u hG
      obtain rfl := Nat.eq_of_beq_eq_true hx1
      obtain ⟨q, hq, he⟩ := fn_mu hG1
      obtain ⟨rfl, rfl⟩ := Prod.mk.inj he
      exact t_X6_share  hf  p1 p2 p3 (m := (i0, l0)) hq hK
    · cases hG

/-! == X6_giveAllToNobody == -/
abbrev S_X6_giveAllToNobody : Type := (Int32 × fm_)
noncomputable def st_X6_giveAllToNobody (s : S_X6_giveAllToNobody) : Option (S_X6_giveAllToNobody ⊕ (Int32 × fm_)) := match s with
  | (x1, m) =>
    (if (1 <<< ((gi_ m 82 9) &&& 31)) ≤ x1 then
((some (Sum.inr (0, m))))
else
(Option.bind (f_J6_numberOfTrailingZeros_0f7a4 x1 m) fun q3 =>
(gd_ (ix_ (x1 &&& (x1 - 1)) 128)
(Option.bind (f_X6_share q3.1 10 4 q3.2) fun q8 =>
(gd_ (ix_ x1 128)
((some (Sum.inl (((x1 + 1), (si_ q8.2 90 (Int32.toNatClampNeg x1) ((gi_ q3.2 90 (Int32.toNatClampNeg (x1 &&& (x1 - 1)))) + q8.1))))))))))))
noncomputable def f_X6_giveAllToNobody_9 (x1 : Int32) (m : fm_) : Option (Int32 × fm_) := am_lp (st_X6_giveAllToNobody) ((x1, m))
theorem e_X6_giveAllToNobody_9 (x1 : Int32) (m : fm_) : f_X6_giveAllToNobody_9 x1 m =
(if (1 <<< ((gi_ m 82 9) &&& 31)) ≤ x1 then
((some (0, m)))
else
(Option.bind (f_J6_numberOfTrailingZeros_0f7a4 x1 m) fun q3 =>
(gd_ (ix_ (x1 &&& (x1 - 1)) 128)
(Option.bind (f_X6_share q3.1 10 4 q3.2) fun q8 =>
(gd_ (ix_ x1 128)
((f_X6_giveAllToNobody_9 (x1 + 1) (si_ q8.2 90 (Int32.toNatClampNeg x1) ((gi_ q3.2 90 (Int32.toNatClampNeg (x1 &&& (x1 - 1)))) + q8.1))))))))) :=
  (am_lp_eq _ _).trans (fe_if (rfl) (fe_bd fun q3 => (fe_gd (fe_bd fun q8 => (fe_gd (rfl))))))
noncomputable def f_X6_giveAllToNobody  (m : fm_) : Option (Int32 × fm_) :=
  (gd_ (ix_ 0 128)
((f_X6_giveAllToNobody_9 1 (si_ m 90 (Int32.toNatClampNeg 0) 0))))
def sp_X6_giveAllToNobody : am_S := fn_sp [(284, fn_0, G_J6_numberOfTrailingZeros_0f7a4), (77, fn_F, G_X6_share)]
theorem sm_X6_giveAllToNobody : am_Smono (sp_X6_giveAllToNobody) := fn_sp_mono _
def P_X6_giveAllToNobody (n : Nat) (r : Nat → Nat → Option Nat) (s : S_X6_giveAllToNobody) (q : Int32 × fm_) : Prop := match s with
  | (x1, m) => ∀ (Q : Option Value → am_W → Prop) (y2 : Option Value), Q (en_v q).1 (mk_ n r q.2) → am_T m_X6_giveAllToNobody sp_X6_giveAllToNobody n Q 9 [some (.ref 82), some (.int x1), y2] [] (mk_ n r m)
set_option maxRecDepth 100000 in
theorem t_X6_giveAllToNobody_9 {n : Nat} {r : Nat → Nat → Option Nat} (hf : fn_F n r) {K : S_X6_giveAllToNobody → Option (Int32 × fm_)} {q : Int32 × fm_} (hK : ∀ s, K s = some q → P_X6_giveAllToNobody n r s q) (x1 : Int32) (m : fm_)
  (h : am_k K (st_X6_giveAllToNobody ((x1, m))) = some q) : P_X6_giveAllToNobody n r ((x1, m)) q := fun Q y2 hQ =>
  am_T.wp sm_X6_giveAllToNobody (K := am_T m_X6_giveAllToNobody sp_X6_giveAllToNobody n Q) (cuts := [9]) (fun _ _ _ _ h => h) 31
    (⟨fn_aF hf rfl rfl, fj_if h (fun c1 h2 => ⟨rfl, fj_rt h2 hQ⟩) (fun c1 h2 => fj_bd h2 fun q3 e4 h5 => ⟨Nat.le_of_ble_eq_true rfl, trivial, ⟨trivial, some (.int q3.1), q3.2, gp_J6_numberOfTrailingZeros_0f7a4 (n := n) (r := r)  e4, fun _ => ⟨fn_aF hf rfl rfl, Or.inl ⟨_, hf.2 82 12 90 rfl, ⟨fn_aF hf rfl rfl, Or.inl ⟨_, hf.2 82 12 90 rfl, fj_gd h5 fun g7 h6 => ⟨128, fn_aF hf rfl rfl, ix_t g7, fj_bd h6 fun q8 e9 h10 => ⟨Nat.le_of_ble_eq_true rfl, fn_aF hf rfl rfl, ⟨hf, some (.int q8.1), q8.2, gp_X6_share (n := n) (r := r)  e9, fun _ => fj_gd h10 fun g12 h11 => ⟨128, fn_aF hf rfl rfl, ix_t g12, hK _ h11 _ _ hQ⟩⟩⟩⟩⟩⟩⟩⟩⟩⟩)⟩)
theorem l_X6_giveAllToNobody {n : Nat} {r : Nat → Nat → Option Nat} (hf : fn_F n r) (s : S_X6_giveAllToNobody) (q : Int32 × fm_) (h : am_lp (st_X6_giveAllToNobody) s = some q) : P_X6_giveAllToNobody n r s q :=
  am_lp_snd (P := P_X6_giveAllToNobody n r) (fun K hK s q h => match s, h with
    | (x1, m), h => t_X6_giveAllToNobody_9 hf (fun s => hK s q) x1 m h) s q h
set_option maxRecDepth 100000 in
theorem t_X6_giveAllToNobody {n : Nat} {r : Nat → Nat → Option Nat} (hf : fn_F n r) {q : Int32 × fm_}  {m : fm_}
  (h : f_X6_giveAllToNobody  m = some q) {Q : Option Value → am_W → Prop} (hQ : Q (en_v q).1 (mk_ n r q.2)) : am_T m_X6_giveAllToNobody sp_X6_giveAllToNobody n Q 0 [some (.ref 82), none, none] [] (mk_ n r m) :=
  am_T.wp sm_X6_giveAllToNobody (K := am_T m_X6_giveAllToNobody sp_X6_giveAllToNobody n Q) (cuts := [9]) (fun _ _ _ _ h => h) 9
    (⟨fn_aF hf rfl rfl, Or.inl ⟨_, hf.2 82 12 90 rfl, fh_gd h fun g2 h1 => ⟨128, fn_aF hf rfl rfl, ix_t g2, l_X6_giveAllToNobody hf _ _ h1 _ _ hQ⟩⟩⟩)
noncomputable def G_X6_giveAllToNobody (n : Nat) (r : Nat → Nat → Option Nat) (as : List Value) (m : fm_) : Option (Option Value × fm_) := match as with
  | [.ref x0] => gd_ (Nat.beq x0 82) ((f_X6_giveAllToNobody  m).map en_v)
  | _ => none
set_option maxRecDepth 100000 in
theorem gp_X6_giveAllToNobody {n : Nat} {r : Nat → Nat → Option Nat}   {m : fm_} {q : Int32 × fm_}  (e : f_X6_giveAllToNobody  m = some q) : G_X6_giveAllToNobody n r [.ref 82] m = some (en_v q) := by
  show (gd_ (Nat.beq 82 82) ((f_X6_giveAllToNobody  m).map en_v)) = _
  exact fn_gd rfl (fn_mp e)
set_option maxRecDepth 100000 in
theorem ok_X6_giveAllToNobody : am_mok 6 74 m_X6_giveAllToNobody = true := by decide +kernel
set_option maxRecDepth 100000 in
theorem c_X6_giveAllToNobody (l : Launch) {g : am_G} (hg : fx_ l g) : am_Met l g 1 74 (fn_s fn_F G_X6_giveAllToNobody) := by
  refine am_sound (own := 6) (M := m_X6_giveAllToNobody) (SP := sp_X6_giveAllToNobody) hg.1 (by decide +kernel) ok_X6_giveAllToNobody (by decide +kernel) ?_ (fun q hq hk => absurd hk (am_no61 (M := m_X6_giveAllToNobody) (by decide +kernel) q hq)) (fn_ext l _ rfl g 6) (Or.inl (by decide +kernel)) ?_ ?_
  · intro q hq hk
    have hm : q.2.2.2.1 ∈ am_cs m_X6_giveAllToNobody := am_cs_in hq hk
    rw [show am_cs m_X6_giveAllToNobody = [284, 77] by decide +kernel] at hm
    have hm : q.2.2.2.1 ∈ [77, 284] := (List.all_eq_true.mp (show ([284, 77] : List Nat).all (fun a => decide (a ∈ ([77, 284] : List Nat))) = true by decide +kernel) _ hm |> of_decide_eq_true)
    simp only [List.mem_cons, List.not_mem_nil, or_false] at hm
    rcases hm with hm | hm
    · rw [hm]; exact ⟨0, by omega, c_X6_share l hg⟩
    · rw [hm]; exact ⟨0, by omega, c_J6_numberOfTrailingZeros_0f7a4 l hg⟩
  · intro as w K h
    obtain ⟨hf, y, m1, hG, hK⟩ := h
    unfold G_X6_giveAllToNobody at hG
    split at hG
    · exact Nat.le_of_ble_eq_true rfl
    · cases hG
  · intro as w K h
    obtain ⟨n, i0, l0, r⟩ := w
    obtain ⟨hf, y, m1, hG, hK⟩ := h
    unfold G_X6_giveAllToNobody at hG
    split at hG
    · next x0 =>
      obtain ⟨hx1, hG1⟩ := gd_u hG
      obtain rfl := Nat.eq_of_beq_eq_true hx1
      obtain ⟨q, hq, he⟩ := fn_mu hG1
      obtain ⟨rfl, rfl⟩ := Prod.mk.inj he
      exact t_X6_giveAllToNobody  hf   (m := (i0, l0)) hq hK
    · cases hG

/-! == X6_shareOut == -/
abbrev S_X6_shareOut : Type := (Int32 × Int32 × Int32 × fm_) ⊕ (Int32 × Int32 × Int32 × fm_)
noncomputable def st_X6_shareOut (s : S_X6_shareOut) : Option (S_X6_shareOut ⊕ (Int32 × fm_)) := match s with
  | Sum.inl ((x1, x2, x3, m)) =>
    (if (gi_ m 82 9) ≤ x3 then
(gd_ (ix_ 0 128)
((some (Sum.inl (Sum.inr ((x1, x2, 1, (si_ m 91 (Int32.toNatClampNeg 0) 0))))))))
else
(gd_ (ix_ x3 7)
(gd_ (ix_ (gi_ m 87 (Int32.toNatClampNeg x3)) 200)
(gd_ (ix_ x1 10)
(Option.bind (f_X7_likeness (gl_ m 79 (Int32.toNatClampNeg (gi_ m 87 (Int32.toNatClampNeg x3)))) (gl_ m 70 (Int32.toNatClampNeg x1)) m) fun q11 =>
(if q11.1 = 9 then
((some (Sum.inl (Sum.inl ((x1, x2, (x3 + 1), q11.2))))))
else
(Option.bind (f_X6_share x3 x1 q11.1 q11.2) fun q16 =>
(gd_ (ix_ x3 7)
((some (Sum.inl (Sum.inl ((x1, (x2 ||| (1 <<< (x3 &&& 31))), (x3 + 1), (si_ q16.2 88 (Int32.toNatClampNeg x3) q16.1)))))))))))))))
  | Sum.inr ((x1, x2, x3, m)) =>
    (if (1 <<< ((gi_ m 82 9) &&& 31)) ≤ x3 then
((some (Sum.inr (x2, m))))
else
(if (x3 &&& (x2 ^^^ (-1))) = 0 then
(Option.bind (f_J6_numberOfTrailingZeros_0f7a4 x3 m) fun q5 =>
(gd_ (ix_ (x3 &&& (x3 - 1)) 128)
(gd_ (ix_ q5.1 7)
(gd_ (ix_ x3 128)
((some (Sum.inl (Sum.inr ((x1, x2, (x3 + 1), (si_ q5.2 91 (Int32.toNatClampNeg x3) ((gi_ q5.2 91 (Int32.toNatClampNeg (x3 &&& (x3 - 1)))) + (gi_ q5.2 88 (Int32.toNatClampNeg q5.1))))))))))))))
else
((some (Sum.inl (Sum.inr ((x1, x2, (x3 + 1), m))))))))
noncomputable def f_X6_shareOut_4 (x1 : Int32) (x2 : Int32) (x3 : Int32) (m : fm_) : Option (Int32 × fm_) := am_lp (st_X6_shareOut) (Sum.inl ((x1, x2, x3, m)))
noncomputable def f_X6_shareOut_82 (x1 : Int32) (x2 : Int32) (x3 : Int32) (m : fm_) : Option (Int32 × fm_) := am_lp (st_X6_shareOut) (Sum.inr ((x1, x2, x3, m)))
theorem e_X6_shareOut_4 (x1 : Int32) (x2 : Int32) (x3 : Int32) (m : fm_) : f_X6_shareOut_4 x1 x2 x3 m =
(if (gi_ m 82 9) ≤ x3 then
(gd_ (ix_ 0 128)
((f_X6_shareOut_82 x1 x2 1 (si_ m 91 (Int32.toNatClampNeg 0) 0))))
else
(gd_ (ix_ x3 7)
(gd_ (ix_ (gi_ m 87 (Int32.toNatClampNeg x3)) 200)
(gd_ (ix_ x1 10)
(Option.bind (f_X7_likeness (gl_ m 79 (Int32.toNatClampNeg (gi_ m 87 (Int32.toNatClampNeg x3)))) (gl_ m 70 (Int32.toNatClampNeg x1)) m) fun q11 =>
(if q11.1 = 9 then
((f_X6_shareOut_4 x1 x2 (x3 + 1) q11.2))
else
(Option.bind (f_X6_share x3 x1 q11.1 q11.2) fun q16 =>
(gd_ (ix_ x3 7)
((f_X6_shareOut_4 x1 (x2 ||| (1 <<< (x3 &&& 31))) (x3 + 1) (si_ q16.2 88 (Int32.toNatClampNeg x3) q16.1))))))))))) :=
  (am_lp_eq _ _).trans (fe_if (fe_gd (rfl)) (fe_gd (fe_gd (fe_gd (fe_bd fun q11 => (fe_if (rfl) (fe_bd fun q16 => (fe_gd (rfl)))))))))
theorem e_X6_shareOut_82 (x1 : Int32) (x2 : Int32) (x3 : Int32) (m : fm_) : f_X6_shareOut_82 x1 x2 x3 m =
(if (1 <<< ((gi_ m 82 9) &&& 31)) ≤ x3 then
((some (x2, m)))
else
(if (x3 &&& (x2 ^^^ (-1))) = 0 then
(Option.bind (f_J6_numberOfTrailingZeros_0f7a4 x3 m) fun q5 =>
(gd_ (ix_ (x3 &&& (x3 - 1)) 128)
(gd_ (ix_ q5.1 7)
(gd_ (ix_ x3 128)
((f_X6_shareOut_82 x1 x2 (x3 + 1) (si_ q5.2 91 (Int32.toNatClampNeg x3) ((gi_ q5.2 91 (Int32.toNatClampNeg (x3 &&& (x3 - 1)))) + (gi_ q5.2 88 (Int32.toNatClampNeg q5.1))))))))))
else
((f_X6_shareOut_82 x1 x2 (x3 + 1) m)))) :=
  (am_lp_eq _ _).trans (fe_if (rfl) (fe_if (fe_bd fun q5 => (fe_gd (fe_gd (fe_gd (rfl))))) (rfl)))
noncomputable def f_X6_shareOut (p1 : Int32) (m : fm_) : Option (Int32 × fm_) :=
  ((f_X6_shareOut_4 p1 0 0 m))
def sp_X6_shareOut : am_S := fn_sp [(86, fn_0, G_X7_likeness), (77, fn_F, G_X6_share), (284, fn_0, G_J6_numberOfTrailingZeros_0f7a4)]
theorem sm_X6_shareOut : am_Smono (sp_X6_shareOut) := fn_sp_mono _
def P_X6_shareOut (n : Nat) (r : Nat → Nat → Option Nat) (s : S_X6_shareOut) (q : Int32 × fm_) : Prop := match s with
  | Sum.inl ((x1, x2, x3, m)) => ∀ (Q : Option Value → am_W → Prop) (y4 : Option Value), Q (en_i q).1 (mk_ n r q.2) → am_T m_X6_shareOut sp_X6_shareOut n Q 4 [some (.ref 82), some (.int x1), some (.int x2), some (.int x3), y4] [] (mk_ n r m)
  | Sum.inr ((x1, x2, x3, m)) => ∀ (Q : Option Value → am_W → Prop) (y4 : Option Value), Q (en_i q).1 (mk_ n r q.2) → am_T m_X6_shareOut sp_X6_shareOut n Q 82 [some (.ref 82), some (.int x1), some (.int x2), some (.int x3), y4] [] (mk_ n r m)
set_option maxRecDepth 100000 in
theorem t_X6_shareOut_4 {n : Nat} {r : Nat → Nat → Option Nat} (hf : fn_F n r) {K : S_X6_shareOut → Option (Int32 × fm_)} {q : Int32 × fm_} (hK : ∀ s, K s = some q → P_X6_shareOut n r s q) (x1 : Int32) (x2 : Int32) (x3 : Int32) (m : fm_)
  (h : am_k K (st_X6_shareOut (Sum.inl ((x1, x2, x3, m)))) = some q) : P_X6_shareOut n r (Sum.inl ((x1, x2, x3, m))) q := fun Q y4 hQ =>
  am_T.wp sm_X6_shareOut (K := am_T m_X6_shareOut sp_X6_shareOut n Q) (cuts := [4, 82]) (fun _ _ _ _ h => h) 41
    (⟨fn_aF hf rfl rfl, fj_if h (fun c1 h2 => ⟨fn_aF hf rfl rfl, Or.inl ⟨_, hf.2 82 13 91 rfl, fj_gd h2 fun g4 h3 => ⟨128, fn_aF hf rfl rfl, ix_t g4, hK _ h3 _ _ hQ⟩⟩⟩) (fun c1 h2 => ⟨fn_aF hf rfl rfl, Or.inl ⟨_, hf.2 82 2 72 rfl, ⟨fn_aF hf rfl rfl, Or.inl ⟨_, hf.2 72 6 79 rfl, ⟨fn_aF hf rfl rfl, Or.inl ⟨_, hf.2 82 8 87 rfl, fj_gd h2 fun g6 h5 => ⟨7, fn_aF hf rfl rfl, ix_t g6, fj_gd h5 fun g8 h7 => ⟨200, fn_aF hf rfl rfl, ix_t g8, ⟨fn_aF hf rfl rfl, Or.inl ⟨_, hf.2 82 1 69 rfl, ⟨fn_aF hf rfl rfl, Or.inl ⟨_, hf.2 69 0 70 rfl, fj_gd h7 fun g10 h9 => ⟨10, fn_aF hf rfl rfl, ix_t g10, fj_bd h9 fun q11 e12 h13 => ⟨Nat.le_of_ble_eq_true rfl, trivial, ⟨trivial, some (.int q11.1), q11.2, gp_X7_likeness (n := n) (r := r)  e12, fun _ => fj_if h13 (fun c14 h15 => hK _ h15 _ _ hQ) (fun c14 h15 => ⟨fn_aF hf rfl rfl, Or.inl ⟨_, hf.2 82 10 88 rfl, fj_bd h15 fun q16 e17 h18 => ⟨Nat.le_of_ble_eq_true rfl, fn_aF hf rfl rfl, ⟨hf, some (.int q16.1), q16.2, gp_X6_share (n := n) (r := r)  e17, fun _ => fj_gd h18 fun g20 h19 => ⟨7, fn_aF hf rfl rfl, ix_t g20, hK _ h19 _ _ hQ⟩⟩⟩⟩⟩)⟩⟩⟩⟩⟩⟩⟩⟩⟩⟩⟩⟩⟩⟩⟩)⟩)
set_option maxRecDepth 100000 in
theorem t_X6_shareOut_82 {n : Nat} {r : Nat → Nat → Option Nat} (hf : fn_F n r) {K : S_X6_shareOut → Option (Int32 × fm_)} {q : Int32 × fm_} (hK : ∀ s, K s = some q → P_X6_shareOut n r s q) (x1 : Int32) (x2 : Int32) (x3 : Int32) (m : fm_)
  (h : am_k K (st_X6_shareOut (Sum.inr ((x1, x2, x3, m)))) = some q) : P_X6_shareOut n r (Sum.inr ((x1, x2, x3, m))) q := fun Q y4 hQ =>
  am_T.wp sm_X6_shareOut (K := am_T m_X6_shareOut sp_X6_shareOut n Q) (cuts := [4, 82]) (fun _ _ _ _ h => h) 36
    (⟨fn_aF hf rfl rfl, fj_if h (fun c1 h2 => ⟨rfl, fj_rt h2 hQ⟩) (fun c1 h2 => fj_in h2 (fun c3 h4 => hK _ h4 _ _ hQ) (fun c3 h4 => fj_bd h4 fun q5 e6 h7 => ⟨Nat.le_of_ble_eq_true rfl, trivial, ⟨trivial, some (.int q5.1), q5.2, gp_J6_numberOfTrailingZeros_0f7a4 (n := n) (r := r)  e6, fun _ => ⟨fn_aF hf rfl rfl, Or.inl ⟨_, hf.2 82 13 91 rfl, ⟨fn_aF hf rfl rfl, Or.inl ⟨_, hf.2 82 13 91 rfl, fj_gd h7 fun g9 h8 => ⟨128, fn_aF hf rfl rfl, ix_t g9, ⟨fn_aF hf rfl rfl, Or.inl ⟨_, hf.2 82 10 88 rfl, fj_gd h8 fun g11 h10 => ⟨7, fn_aF hf rfl rfl, ix_t g11, fj_gd h10 fun g13 h12 => ⟨128, fn_aF hf rfl rfl, ix_t g13, hK _ h12 _ _ hQ⟩⟩⟩⟩⟩⟩⟩⟩⟩⟩⟩))⟩)
theorem l_X6_shareOut {n : Nat} {r : Nat → Nat → Option Nat} (hf : fn_F n r) (s : S_X6_shareOut) (q : Int32 × fm_) (h : am_lp (st_X6_shareOut) s = some q) : P_X6_shareOut n r s q :=
  am_lp_snd (P := P_X6_shareOut n r) (fun K hK s q h => match s, h with
    | Sum.inl ((x1, x2, x3, m)), h => t_X6_shareOut_4 hf (fun s => hK s q) x1 x2 x3 m h
    | Sum.inr ((x1, x2, x3, m)), h => t_X6_shareOut_82 hf (fun s => hK s q) x1 x2 x3 m h) s q h
set_option maxRecDepth 100000 in
theorem t_X6_shareOut {n : Nat} {r : Nat → Nat → Option Nat} (hf : fn_F n r) {q : Int32 × fm_} (p1 : Int32) {m : fm_}
  (h : f_X6_shareOut p1 m = some q) {Q : Option Value → am_W → Prop} (hQ : Q (en_i q).1 (mk_ n r q.2)) : am_T m_X6_shareOut sp_X6_shareOut n Q 0 [some (.ref 82), some (.int p1), none, none, none] [] (mk_ n r m) :=
  am_T.wp sm_X6_shareOut (K := am_T m_X6_shareOut sp_X6_shareOut n Q) (cuts := [4, 82]) (fun _ _ _ _ h => h) 6
    (l_X6_shareOut hf _ _ h _ _ hQ)
noncomputable def G_X6_shareOut (n : Nat) (r : Nat → Nat → Option Nat) (as : List Value) (m : fm_) : Option (Option Value × fm_) := match as with
  | [.ref x0, .int p1] => gd_ (Nat.beq x0 82) ((f_X6_shareOut p1 m).map en_i)
  | _ => none
set_option maxRecDepth 100000 in
theorem gp_X6_shareOut {n : Nat} {r : Nat → Nat → Option Nat}  {p1 : Int32} {m : fm_} {q : Int32 × fm_}  (e : f_X6_shareOut p1 m = some q) : G_X6_shareOut n r [.ref 82, .int p1] m = some (en_i q) := by
  show (gd_ (Nat.beq 82 82) ((f_X6_shareOut p1 m).map en_i)) = _
  exact fn_gd rfl (fn_mp e)
set_option maxRecDepth 100000 in
theorem ok_X6_shareOut : am_mok 6 76 m_X6_shareOut = true := by decide +kernel
set_option maxRecDepth 100000 in
theorem c_X6_shareOut (l : Launch) {g : am_G} (hg : fx_ l g) : am_Met l g 2 76 (fn_s fn_F G_X6_shareOut) := by
  refine am_sound (own := 6) (M := m_X6_shareOut) (SP := sp_X6_shareOut) hg.1 (by decide +kernel) ok_X6_shareOut (by decide +kernel) ?_ (fun q hq hk => absurd hk (am_no61 (M := m_X6_shareOut) (by decide +kernel) q hq)) (fn_ext l _ rfl g 6) (Or.inl (by decide +kernel)) ?_ ?_
  · intro q hq hk
    have hm : q.2.2.2.1 ∈ am_cs m_X6_shareOut := am_cs_in hq hk
    rw [show am_cs m_X6_shareOut = [86, 77, 284] by decide +kernel] at hm
    have hm : q.2.2.2.1 ∈ [77, 86, 284] := (List.all_eq_true.mp (show ([86, 77, 284] : List Nat).all (fun a => decide (a ∈ ([77, 86, 284] : List Nat))) = true by decide +kernel) _ hm |> of_decide_eq_true)
    simp only [List.mem_cons, List.not_mem_nil, or_false] at hm
    rcases hm with hm | hm | hm
    · rw [hm]; exact ⟨0, by omega, c_X6_share l hg⟩
    · rw [hm]; exact ⟨1, by omega, c_X7_likeness l hg⟩
    · rw [hm]; exact ⟨0, by omega, c_J6_numberOfTrailingZeros_0f7a4 l hg⟩
  · intro as w K h
    obtain ⟨hf, y, m1, hG, hK⟩ := h
    unfold G_X6_shareOut at hG
    split at hG
    · exact Nat.le_of_ble_eq_true rfl
    · cases hG
  · intro as w K h
    obtain ⟨n, i0, l0, r⟩ := w
    obtain ⟨hf, y, m1, hG, hK⟩ := h
    unfold G_X6_shareOut at hG
    split at hG
    · next x0 p1 =>
      obtain ⟨hx1, hG1⟩ := gd_u hG
      obtain rfl := Nat.eq_of_beq_eq_true hx1
      obtain ⟨q, hq, he⟩ := fn_mu hG1
      obtain ⟨rfl, rfl⟩ := Prod.mk.inj he
      exact t_X6_shareOut  hf  p1 (m := (i0, l0)) hq hK
    · cases hG

/-! == X6_offer == -/
abbrev S_X6_offer : Type := (Int32 × Int32 × Int32 × fm_) ⊕ (Int32 × Int32 × Int32 × Int32 × Int32 × fm_)
noncomputable def st_X6_offer (s : S_X6_offer) : Option (S_X6_offer ⊕ (Int32 × fm_)) := match s with
  | Sum.inl ((x1, x2, x3, m)) =>
    (if x3 ≤ 0 then
((some (Sum.inr (0, m))))
else
(gd_ (ix_ x3 128)
((some (Sum.inl (Sum.inr ((x1, x2, x3, (gi_ m 90 (Int32.toNatClampNeg x3)), (x3 &&& x2), m))))))))
  | Sum.inr ((x1, x2, x3, x4, x5, m)) =>
    (if x5 ≤ 0 then
(gd_ (ix_ x3 128)
((some (Sum.inl (Sum.inl ((x1, x2, (x3 + (-1)), (si_ m 90 (Int32.toNatClampNeg x3) x4))))))))
else
(gd_ (ix_ x5 128)
(if (gi_ m 89 (Int32.toNatClampNeg x5)) = 0 then
((some (Sum.inl (Sum.inr ((x1, x2, x3, x4, (((x5 - 1) &&& x3) &&& x2), m))))))
else
(gd_ (ix_ (x3 ^^^ x5) 128)
(gd_ (ix_ x5 128)
((some (Sum.inl (Sum.inr ((x1, x2, x3, (mn_ x4 ((gi_ m 90 (Int32.toNatClampNeg (x3 ^^^ x5))) + (gi_ m 91 (Int32.toNatClampNeg x5)))), (((x5 - 1) &&& x3) &&& x2), m)))))))))))
noncomputable def f_X6_offer_20 (x1 : Int32) (x2 : Int32) (x3 : Int32) (m : fm_) : Option (Int32 × fm_) := am_lp (st_X6_offer) (Sum.inl ((x1, x2, x3, m)))
noncomputable def f_X6_offer_37 (x1 : Int32) (x2 : Int32) (x3 : Int32) (x4 : Int32) (x5 : Int32) (m : fm_) : Option (Int32 × fm_) := am_lp (st_X6_offer) (Sum.inr ((x1, x2, x3, x4, x5, m)))
theorem e_X6_offer_20 (x1 : Int32) (x2 : Int32) (x3 : Int32) (m : fm_) : f_X6_offer_20 x1 x2 x3 m =
(if x3 ≤ 0 then
((some (0, m)))
else
(gd_ (ix_ x3 128)
((f_X6_offer_37 x1 x2 x3 (gi_ m 90 (Int32.toNatClampNeg x3)) (x3 &&& x2) m)))) :=
  (am_lp_eq _ _).trans (fe_if (rfl) (fe_gd (rfl)))
theorem e_X6_offer_37 (x1 : Int32) (x2 : Int32) (x3 : Int32) (x4 : Int32) (x5 : Int32) (m : fm_) : f_X6_offer_37 x1 x2 x3 x4 x5 m =
(if x5 ≤ 0 then
(gd_ (ix_ x3 128)
((f_X6_offer_20 x1 x2 (x3 + (-1)) (si_ m 90 (Int32.toNatClampNeg x3) x4))))
else
(gd_ (ix_ x5 128)
(if (gi_ m 89 (Int32.toNatClampNeg x5)) = 0 then
((f_X6_offer_37 x1 x2 x3 x4 (((x5 - 1) &&& x3) &&& x2) m))
else
(gd_ (ix_ (x3 ^^^ x5) 128)
(gd_ (ix_ x5 128)
((f_X6_offer_37 x1 x2 x3 (mn_ x4 ((gi_ m 90 (Int32.toNatClampNeg (x3 ^^^ x5))) + (gi_ m 91 (Int32.toNatClampNeg x5)))) (((x5 - 1) &&& x3) &&& x2) m))))))) :=
  (am_lp_eq _ _).trans (fe_if (fe_gd (rfl)) (fe_gd (fe_if (rfl) (fe_gd (fe_gd (rfl))))))
noncomputable def f_X6_offer (p1 : Int32) (m : fm_) : Option (Int32 × fm_) :=
  (Option.bind (f_X6_shareOut p1 m) fun q1 =>
(if q1.1 = 0 then
((some (0, q1.2)))
else
((f_X6_offer_20 p1 q1.1 ((1 <<< ((gi_ q1.2 82 9) &&& 31)) - 1) q1.2))))
def sp_X6_offer : am_S := fn_sp [(76, fn_F, G_X6_shareOut)]
theorem sm_X6_offer : am_Smono (sp_X6_offer) := fn_sp_mono _
def P_X6_offer (n : Nat) (r : Nat → Nat → Option Nat) (s : S_X6_offer) (q : Int32 × fm_) : Prop := match s with
  | Sum.inl ((x1, x2, x3, m)) => ∀ (Q : Option Value → am_W → Prop) (y4 : Option Value) (y5 : Option Value), Q (en_v q).1 (mk_ n r q.2) → am_T m_X6_offer sp_X6_offer n Q 20 [some (.ref 82), some (.int x1), some (.int x2), some (.int x3), y4, y5] [] (mk_ n r m)
  | Sum.inr ((x1, x2, x3, x4, x5, m)) => ∀ (Q : Option Value → am_W → Prop), Q (en_v q).1 (mk_ n r q.2) → am_T m_X6_offer sp_X6_offer n Q 37 [some (.ref 82), some (.int x1), some (.int x2), some (.int x3), some (.int x4), some (.int x5)] [] (mk_ n r m)
set_option maxRecDepth 100000 in
theorem t_X6_offer_20 {n : Nat} {r : Nat → Nat → Option Nat} (hf : fn_F n r) {K : S_X6_offer → Option (Int32 × fm_)} {q : Int32 × fm_} (hK : ∀ s, K s = some q → P_X6_offer n r s q) (x1 : Int32) (x2 : Int32) (x3 : Int32) (m : fm_)
  (h : am_k K (st_X6_offer (Sum.inl ((x1, x2, x3, m)))) = some q) : P_X6_offer n r (Sum.inl ((x1, x2, x3, m))) q := fun Q y4 y5 hQ =>
  am_T.wp sm_X6_offer (K := am_T m_X6_offer sp_X6_offer n Q) (cuts := [20, 37]) (fun _ _ _ _ h => h) 13
    (fj_if h (fun c1 h2 => ⟨rfl, fj_rt h2 hQ⟩) (fun c1 h2 => ⟨fn_aF hf rfl rfl, Or.inl ⟨_, hf.2 82 12 90 rfl, fj_gd h2 fun g4 h3 => ⟨128, fn_aF hf rfl rfl, ix_t g4, hK _ h3 _ hQ⟩⟩⟩))
set_option maxRecDepth 100000 in
theorem t_X6_offer_37 {n : Nat} {r : Nat → Nat → Option Nat} (hf : fn_F n r) {K : S_X6_offer → Option (Int32 × fm_)} {q : Int32 × fm_} (hK : ∀ s, K s = some q → P_X6_offer n r s q) (x1 : Int32) (x2 : Int32) (x3 : Int32) (x4 : Int32) (x5 : Int32) (m : fm_)
  (h : am_k K (st_X6_offer (Sum.inr ((x1, x2, x3, x4, x5, m)))) = some q) : P_X6_offer n r (Sum.inr ((x1, x2, x3, x4, x5, m))) q := fun Q hQ =>
  am_T.wp sm_X6_offer (K := am_T m_X6_offer sp_X6_offer n Q) (cuts := [20, 37]) (fun _ _ _ _ h => h) 32
    (fj_if h (fun c1 h2 => ⟨fn_aF hf rfl rfl, Or.inl ⟨_, hf.2 82 12 90 rfl, fj_gd h2 fun g4 h3 => ⟨128, fn_aF hf rfl rfl, ix_t g4, hK _ h3 _ _ _ hQ⟩⟩⟩) (fun c1 h2 => ⟨fn_aF hf rfl rfl, Or.inl ⟨_, hf.2 82 11 89 rfl, fj_gd h2 fun g6 h5 => ⟨128, Or.inr (fn_aF hf rfl rfl), ix_t g6, fj_if h5 (fun c7 h8 => hK _ h8 _ hQ) (fun c7 h8 => ⟨fn_aF hf rfl rfl, Or.inl ⟨_, hf.2 82 12 90 rfl, fj_gd h8 fun g10 h9 => ⟨128, fn_aF hf rfl rfl, ix_t g10, ⟨fn_aF hf rfl rfl, Or.inl ⟨_, hf.2 82 13 91 rfl, fj_gd h9 fun g12 h11 => ⟨128, fn_aF hf rfl rfl, ix_t g12, ⟨Nat.le_of_ble_eq_true rfl, hK _ h11 _ hQ⟩⟩⟩⟩⟩⟩⟩)⟩⟩⟩))
theorem l_X6_offer {n : Nat} {r : Nat → Nat → Option Nat} (hf : fn_F n r) (s : S_X6_offer) (q : Int32 × fm_) (h : am_lp (st_X6_offer) s = some q) : P_X6_offer n r s q :=
  am_lp_snd (P := P_X6_offer n r) (fun K hK s q h => match s, h with
    | Sum.inl ((x1, x2, x3, m)), h => t_X6_offer_20 hf (fun s => hK s q) x1 x2 x3 m h
    | Sum.inr ((x1, x2, x3, x4, x5, m)), h => t_X6_offer_37 hf (fun s => hK s q) x1 x2 x3 x4 x5 m h) s q h
set_option maxRecDepth 100000 in
theorem t_X6_offer {n : Nat} {r : Nat → Nat → Option Nat} (hf : fn_F n r) {q : Int32 × fm_} (p1 : Int32) {m : fm_}
  (h : f_X6_offer p1 m = some q) {Q : Option Value → am_W → Prop} (hQ : Q (en_v q).1 (mk_ n r q.2)) : am_T m_X6_offer sp_X6_offer n Q 0 [some (.ref 82), some (.int p1), none, none, none, none] [] (mk_ n r m) :=
  am_T.wp sm_X6_offer (K := am_T m_X6_offer sp_X6_offer n Q) (cuts := [20, 37]) (fun _ _ _ _ h => h) 15
    (fh_bd h fun q1 e2 h3 => ⟨Nat.le_of_ble_eq_true rfl, fn_aF hf rfl rfl, ⟨hf, some (.int q1.1), q1.2, gp_X6_shareOut (n := n) (r := r)  e2, fun _ => fh_in h3 (fun c4 h5 => ⟨fn_aF hf rfl rfl, l_X6_offer hf _ _ h5 _ _ _ hQ⟩) (fun c4 h5 => ⟨rfl, fh_rt h5 hQ⟩)⟩⟩)
noncomputable def G_X6_offer (n : Nat) (r : Nat → Nat → Option Nat) (as : List Value) (m : fm_) : Option (Option Value × fm_) := match as with
  | [.ref x0, .int p1] => gd_ (Nat.beq x0 82) ((f_X6_offer p1 m).map en_v)
  | _ => none
set_option maxRecDepth 100000 in
theorem gp_X6_offer {n : Nat} {r : Nat → Nat → Option Nat}  {p1 : Int32} {m : fm_} {q : Int32 × fm_}  (e : f_X6_offer p1 m = some q) : G_X6_offer n r [.ref 82, .int p1] m = some (en_v q) := by
  show (gd_ (Nat.beq 82 82) ((f_X6_offer p1 m).map en_v)) = _
  exact fn_gd rfl (fn_mp e)
set_option maxRecDepth 100000 in
theorem ok_X6_offer : am_mok 6 75 m_X6_offer = true := by decide +kernel
set_option maxRecDepth 100000 in
theorem c_X6_offer (l : Launch) {g : am_G} (hg : fx_ l g) : am_Met l g 3 75 (fn_s fn_F G_X6_offer) := by
  refine am_sound (own := 6) (M := m_X6_offer) (SP := sp_X6_offer) hg.1 (by decide +kernel) ok_X6_offer (by decide +kernel) ?_ (fun q hq hk => absurd hk (am_no61 (M := m_X6_offer) (by decide +kernel) q hq)) (fn_ext l _ rfl g 6) (Or.inl (by decide +kernel)) ?_ ?_
  · intro q hq hk
    have hm : q.2.2.2.1 ∈ am_cs m_X6_offer := am_cs_in hq hk
    rw [show am_cs m_X6_offer = [76] by decide +kernel] at hm
    have hm : q.2.2.2.1 ∈ [76] := (List.all_eq_true.mp (show ([76] : List Nat).all (fun a => decide (a ∈ ([76] : List Nat))) = true by decide +kernel) _ hm |> of_decide_eq_true)
    simp only [List.mem_cons, List.not_mem_nil, or_false] at hm
    rcases hm with hm
    · rw [hm]; exact ⟨2, by omega, c_X6_shareOut l hg⟩
  · intro as w K h
    obtain ⟨hf, y, m1, hG, hK⟩ := h
    unfold G_X6_offer at hG
    split at hG
    · exact Nat.le_of_ble_eq_true rfl
    · cases hG
  · intro as w K h
    obtain ⟨n, i0, l0, r⟩ := w
    obtain ⟨hf, y, m1, hG, hK⟩ := h
    unfold G_X6_offer at hG
    split at hG
    · next x0 p1 =>
      obtain ⟨hx1, hG1⟩ := gd_u hG
      obtain rfl := Nat.eq_of_beq_eq_true hx1
      obtain ⟨q, hq, he⟩ := fn_mu hG1
      obtain ⟨rfl, rfl⟩ := Prod.mk.inj he
      exact t_X6_offer  hf  p1 (m := (i0, l0)) hq hK
    · cases hG

