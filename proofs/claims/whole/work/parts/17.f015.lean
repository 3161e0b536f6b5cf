/-! == X6_gatherOf == -/
abbrev S_X6_gatherOf : Type := (Int32 × Int32 × Int32 × fm_) ⊕ (Int32 × Int32 × Int32 × Int32 × Int32 × fm_)
noncomputable def st_X6_gatherOf (s : S_X6_gatherOf) : Option (S_X6_gatherOf ⊕ (Int32 × fm_)) := match s with
  | Sum.inl ((x1, x2, x3, m)) =>
    (Option.bind (f_X1_readingsOn x2 m) fun q1 =>
(if q1.1 ≤ x3 then
((some (Sum.inr (0, q1.2))))
else
(Option.bind (f_X1_readingOn x2 x3 q1.2) fun q6 =>
(Option.bind (f_X6_chosenOwner q6.1 q6.2) fun q9 =>
(if q9.1 = x1 then
(if (gi_ q9.2 82 9) < 7 then
((some (Sum.inl (Sum.inr ((x1, x2, x3, q6.1, (gi_ q9.2 82 9), q9.2))))))
else
((some (Sum.inl (Sum.inl ((x1, x2, (x3 + 1), q9.2)))))))
else
((some (Sum.inl (Sum.inl ((x1, x2, (x3 + 1), q9.2)))))))))))
  | Sum.inr ((x1, x2, x3, x4, x5, m)) =>
    (if x5 ≤ 0 then
(gd_ (ix_ x5 7)
((some (Sum.inl (Sum.inl ((x1, x2, (x3 + 1), (si_ (si_ m 87 (Int32.toNatClampNeg x5) x4) 82 9 ((gi_ m 82 9) + 1)))))))))
else
(gd_ (ix_ (x5 - 1) 7)
(Option.bind (f_X6_minuteOf (gi_ m 87 (Int32.toNatClampNeg (x5 - 1))) m) fun q7 =>
(Option.bind (f_X6_minuteOf x4 q7.2) fun q10 =>
(if q7.1 ≤ q10.1 then
(gd_ (ix_ x5 7)
((some (Sum.inl (Sum.inl ((x1, x2, (x3 + 1), (si_ (si_ q10.2 87 (Int32.toNatClampNeg x5) x4) 82 9 ((gi_ q10.2 82 9) + 1)))))))))
else
(gd_ (ix_ (x5 - 1) 7)
(gd_ (ix_ x5 7)
((some (Sum.inl (Sum.inr ((x1, x2, x3, x4, (x5 + (-1)), (si_ q10.2 87 (Int32.toNatClampNeg x5) (gi_ q10.2 87 (Int32.toNatClampNeg (x5 - 1)))))))))))))))))
noncomputable def f_X6_gatherOf_7 (x1 : Int32) (x2 : Int32) (x3 : Int32) (m : fm_) : Option (Int32 × fm_) := am_lp (st_X6_gatherOf) (Sum.inl ((x1, x2, x3, m)))
noncomputable def f_X6_gatherOf_58 (x1 : Int32) (x2 : Int32) (x3 : Int32) (x4 : Int32) (x5 : Int32) (m : fm_) : Option (Int32 × fm_) := am_lp (st_X6_gatherOf) (Sum.inr ((x1, x2, x3, x4, x5, m)))
theorem e_X6_gatherOf_7 (x1 : Int32) (x2 : Int32) (x3 : Int32) (m : fm_) : f_X6_gatherOf_7 x1 x2 x3 m =
(Option.bind (f_X1_readingsOn x2 m) fun q1 =>
(if q1.1 ≤ x3 then
((some (0, q1.2)))
else
(Option.bind (f_X1_readingOn x2 x3 q1.2) fun q6 =>
(Option.bind (f_X6_chosenOwner q6.1 q6.2) fun q9 =>
(if q9.1 = x1 then
(if (gi_ q9.2 82 9) < 7 then
((f_X6_gatherOf_58 x1 x2 x3 q6.1 (gi_ q9.2 82 9) q9.2))
else
((f_X6_gatherOf_7 x1 x2 (x3 + 1) q9.2)))
else
((f_X6_gatherOf_7 x1 x2 (x3 + 1) q9.2))))))) :=
  (am_lp_eq _ _).trans (fe_bd fun q1 => (fe_if (rfl) (fe_bd fun q6 => (fe_bd fun q9 => (fe_if (fe_if (rfl) (rfl)) (rfl))))))
theorem e_X6_gatherOf_58 (x1 : Int32) (x2 : Int32) (x3 : Int32) (x4 : Int32) (x5 : Int32) (m : fm_) : f_X6_gatherOf_58 x1 x2 x3 x4 x5 m =
(if x5 ≤ 0 then
(gd_ (ix_ x5 7)
((f_X6_gatherOf_7 x1 x2 (x3 + 1) (si_ (si_ m 87 (Int32.toNatClampNeg x5) x4) 82 9 ((gi_ m 82 9) + 1)))))
else
(gd_ (ix_ (x5 - 1) 7)
(Option.bind (f_X6_minuteOf (gi_ m 87 (Int32.toNatClampNeg (x5 - 1))) m) fun q7 =>
(Option.bind (f_X6_minuteOf x4 q7.2) fun q10 =>
(if q7.1 ≤ q10.1 then
(gd_ (ix_ x5 7)
((f_X6_gatherOf_7 x1 x2 (x3 + 1) (si_ (si_ q10.2 87 (Int32.toNatClampNeg x5) x4) 82 9 ((gi_ q10.2 82 9) + 1)))))
else
(gd_ (ix_ (x5 - 1) 7)
(gd_ (ix_ x5 7)
((f_X6_gatherOf_58 x1 x2 x3 x4 (x5 + (-1)) (si_ q10.2 87 (Int32.toNatClampNeg x5) (gi_ q10.2 87 (Int32.toNatClampNeg (x5 - 1))))))))))))) :=
  (am_lp_eq _ _).trans (fe_if (fe_gd (rfl)) (fe_gd (fe_bd fun q7 => (fe_bd fun q10 => (fe_if (fe_gd (rfl)) (fe_gd (fe_gd (rfl))))))))
noncomputable def f_X6_gatherOf (p1 : Int32) (p2 : Int32) (m : fm_) : Option (Int32 × fm_) :=
  ((f_X6_gatherOf_7 p1 p2 0 (si_ m 82 9 0)))
def sp_X6_gatherOf : am_S := fn_sp [(18, fn_F, G_X1_readingsOn), (19, fn_F, G_X1_readingOn), (64, fn_F, G_X6_chosenOwner), (81, fn_F, G_X6_minuteOf)]
theorem sm_X6_gatherOf : am_Smono (sp_X6_gatherOf) := fn_sp_mono _
def P_X6_gatherOf (n : Nat) (r : Nat → Nat → Option Nat) (s : S_X6_gatherOf) (q : Int32 × fm_) : Prop := match s with
  | Sum.inl ((x1, x2, x3, m)) => ∀ (Q : Option Value → am_W → Prop) (y4 : Option Value) (y5 : Option Value), Q (en_v q).1 (mk_ n r q.2) → am_T m_X6_gatherOf sp_X6_gatherOf n Q 7 [some (.ref 82), some (.int x1), some (.int x2), some (.int x3), y4, y5] [] (mk_ n r m)
  | Sum.inr ((x1, x2, x3, x4, x5, m)) => ∀ (Q : Option Value → am_W → Prop), Q (en_v q).1 (mk_ n r q.2) → am_T m_X6_gatherOf sp_X6_gatherOf n Q 58 [some (.ref 82), some (.int x1), some (.int x2), some (.int x3), some (.int x4), some (.int x5)] [] (mk_ n r m)
set_option maxRecDepth 100000 in
theorem t_X6_gatherOf_7 {n : Nat} {r : Nat → Nat → Option Nat} (hf : fn_F n r) {K : S_X6_gatherOf → Option (Int32 × fm_)} {q : Int32 × fm_} (hK : ∀ s, K s = some q → P_X6_gatherOf n r s q) (x1 : Int32) (x2 : Int32) (x3 : Int32) (m : fm_)
  (h : am_k K (st_X6_gatherOf (Sum.inl ((x1, x2, x3, m)))) = some q) : P_X6_gatherOf n r (Sum.inl ((x1, x2, x3, m))) q := fun Q y4 y5 hQ =>
  am_T.wp sm_X6_gatherOf (K := am_T m_X6_gatherOf sp_X6_gatherOf n Q) (cuts := [7, 58]) (fun _ _ _ _ h => h) 26
    (⟨fn_aF hf rfl rfl, Or.inl ⟨_, hf.2 82 2 72 rfl, fj_bd h fun q1 e2 h3 => ⟨Nat.le_of_ble_eq_true rfl, fn_aF hf rfl rfl, ⟨hf, some (.int q1.1), q1.2, gp_X1_readingsOn (n := n) (r := r)  e2, fun _ => fj_if h3 (fun c4 h5 => ⟨rfl, fj_rt h5 hQ⟩) (fun c4 h5 => ⟨fn_aF hf rfl rfl, Or.inl ⟨_, hf.2 82 2 72 rfl, fj_bd h5 fun q6 e7 h8 => ⟨Nat.le_of_ble_eq_true rfl, fn_aF hf rfl rfl, ⟨hf, some (.int q6.1), q6.2, gp_X1_readingOn (n := n) (r := r)  e7, fun _ => fj_bd h8 fun q9 e10 h11 => ⟨Nat.le_of_ble_eq_true rfl, fn_aF hf rfl rfl, ⟨hf, some (.int q9.1), q9.2, gp_X6_chosenOwner (n := n) (r := r)  e10, fun _ => fj_in h11 (fun c12 h13 => hK _ h13 _ _ _ hQ) (fun c12 h13 => ⟨fn_aF hf rfl rfl, fj_if h13 (fun c14 h15 => ⟨fn_aF hf rfl rfl, hK _ h15 _ hQ⟩) (fun c14 h15 => hK _ h15 _ _ _ hQ)⟩)⟩⟩⟩⟩⟩⟩)⟩⟩⟩⟩)
set_option maxRecDepth 100000 in
theorem t_X6_gatherOf_58 {n : Nat} {r : Nat → Nat → Option Nat} (hf : fn_F n r) {K : S_X6_gatherOf → Option (Int32 × fm_)} {q : Int32 × fm_} (hK : ∀ s, K s = some q → P_X6_gatherOf n r s q) (x1 : Int32) (x2 : Int32) (x3 : Int32) (x4 : Int32) (x5 : Int32) (m : fm_)
  (h : am_k K (st_X6_gatherOf (Sum.inr ((x1, x2, x3, x4, x5, m)))) = some q) : P_X6_gatherOf n r (Sum.inr ((x1, x2, x3, x4, x5, m))) q := fun Q hQ =>
  am_T.wp sm_X6_gatherOf (K := am_T m_X6_gatherOf sp_X6_gatherOf n Q) (cuts := [7, 58]) (fun _ _ _ _ h => h) 29
    (fj_if h (fun c1 h2 => ⟨fn_aF hf rfl rfl, Or.inl ⟨_, hf.2 82 8 87 rfl, fj_gd h2 fun g4 h3 => ⟨7, fn_aF hf rfl rfl, ix_t g4, ⟨fn_aF hf rfl rfl, ⟨fn_aF hf rfl rfl, hK _ h3 _ _ _ hQ⟩⟩⟩⟩⟩) (fun c1 h2 => ⟨fn_aF hf rfl rfl, Or.inl ⟨_, hf.2 82 8 87 rfl, fj_gd h2 fun g6 h5 => ⟨7, fn_aF hf rfl rfl, ix_t g6, fj_bd h5 fun q7 e8 h9 => ⟨Nat.le_of_ble_eq_true rfl, fn_aF hf rfl rfl, ⟨hf, some (.int q7.1), q7.2, gp_X6_minuteOf (n := n) (r := r)  e8, fun _ => fj_bd h9 fun q10 e11 h12 => ⟨Nat.le_of_ble_eq_true rfl, fn_aF hf rfl rfl, ⟨hf, some (.int q10.1), q10.2, gp_X6_minuteOf (n := n) (r := r)  e11, fun _ => fj_if h12 (fun c13 h14 => ⟨fn_aF hf rfl rfl, Or.inl ⟨_, hf.2 82 8 87 rfl, fj_gd h14 fun g16 h15 => ⟨7, fn_aF hf rfl rfl, ix_t g16, ⟨fn_aF hf rfl rfl, ⟨fn_aF hf rfl rfl, hK _ h15 _ _ _ hQ⟩⟩⟩⟩⟩) (fun c13 h14 => ⟨fn_aF hf rfl rfl, Or.inl ⟨_, hf.2 82 8 87 rfl, ⟨fn_aF hf rfl rfl, Or.inl ⟨_, hf.2 82 8 87 rfl, fj_gd h14 fun g18 h17 => ⟨7, fn_aF hf rfl rfl, ix_t g18, fj_gd h17 fun g20 h19 => ⟨7, fn_aF hf rfl rfl, ix_t g20, hK _ h19 _ hQ⟩⟩⟩⟩⟩⟩)⟩⟩⟩⟩⟩⟩⟩))
theorem l_X6_gatherOf {n : Nat} {r : Nat → Nat → Option Nat} (hf : fn_F n r) (s : S_X6_gatherOf) (q : Int32 × fm_) (h : am_lp (st_X6_gatherOf) s = some q) : P_X6_gatherOf n r s q :=
  am_lp_snd (P := P_X6_gatherOf n r) (fun K hK s q h => match s, h with
    | Sum.inl ((x1, x2, x3, m)), h => t_X6_gatherOf_7 hf (fun s => hK s q) x1 x2 x3 m h
    | Sum.inr ((x1, x2, x3, x4, x5, m)), h => t_X6_gatherOf_58 hf (fun s => hK s q) x1 x2 x3 x4 x5 m h) s q h
set_option maxRecDepth 100000 in
theorem t_X6_gatherOf {n : Nat} {r : Nat → Nat → Option Nat} (hf : fn_F n r) {q : Int32 × fm_} (p1 : Int32) (p2 : Int32) {m : fm_}
  (h : f_X6_gatherOf p1 p2 m = some q) {Q : Option Value → am_W → Prop} (hQ : Q (en_v q).1 (mk_ n r q.2)) : am_T m_X6_gatherOf sp_X6_gatherOf n Q 0 [some (.ref 82), some (.int p1), some (.int p2), none, none, none] [] (mk_ n r m) :=
  am_T.wp sm_X6_gatherOf (K := am_T m_X6_gatherOf sp_X6_gatherOf n Q) (cuts := [7, 58]) (fun _ _ _ _ h => h) 7
    (⟨fn_aF hf rfl rfl, l_X6_gatherOf hf _ _ h _ _ _ hQ⟩)
noncomputable def G_X6_gatherOf (n : Nat) (r : Nat → Nat → Option Nat) (as : List Value) (m : fm_) : Option (Option Value × fm_) := match as with
  | [.ref x0, .int p1, .int p2] => gd_ (Nat.beq x0 82) ((f_X6_gatherOf p1 p2 m).map en_v)
  | _ => none
set_option maxRecDepth 100000 in
theorem gp_X6_gatherOf {n : Nat} {r : Nat → Nat → Option Nat}  {p1 : Int32} {p2 : Int32} {m : fm_} {q : Int32 × fm_}  (e : f_X6_gatherOf p1 p2 m = some q) : G_X6_gatherOf n r [.ref 82, .int p1, .int p2] m = some (en_v q) := by
  show (gd_ (Nat.beq 82 82) ((f_X6_gatherOf p1 p2 m).map en_v)) = _
  exact fn_gd rfl (fn_mp e)
set_option maxRecDepth 100000 in
theorem ok_X6_gatherOf : am_mok 6 72 m_X6_gatherOf = true := by decide +kernel
set_option maxRecDepth 100000 in
theorem c_X6_gatherOf (l : Launch) {g : am_G} (hg : fx_ l g) : am_Met l g 2 72 (fn_s fn_F G_X6_gatherOf) := by
  refine am_sound (own := 6) (M := m_X6_gatherOf) (SP := sp_X6_gatherOf) hg.1 (by decide +kernel) ok_X6_gatherOf (by decide +kernel) ?_ (fun q hq hk => absurd hk (am_no61 (M := m_X6_gatherOf) (by decide +kernel) q hq)) (fn_ext l _ rfl g 6) (Or.inl (by decide +kernel)) ?_ ?_
  · intro q hq hk
    have hm : q.2.2.2.1 ∈ am_cs m_X6_gatherOf := am_cs_in hq hk
    rw [show am_cs m_X6_gatherOf = [18, 19, 64, 81, 81] by decide +kernel] at hm
    have hm : q.2.2.2.1 ∈ [18, 19, 64, 81] := (List.all_eq_true.mp (show ([18, 19, 64, 81, 81] : List Nat).all (fun a => decide (a ∈ ([18, 19, 64, 81] : List Nat))) = true by decide +kernel) _ hm |> of_decide_eq_true)
    simp only [List.mem_cons, List.not_mem_nil, or_false] at hm
    rcases hm with hm | hm | hm | hm
    · rw [hm]; exact ⟨1, by omega, c_X1_readingsOn l hg⟩
    · rw [hm]; exact ⟨1, by omega, c_X1_readingOn l hg⟩
    · rw [hm]; exact ⟨1, by omega, c_X6_chosenOwner l hg⟩
    · rw [hm]; exact ⟨0, by omega, c_X6_minuteOf l hg⟩
  · intro as w K h
    obtain ⟨hf, y, m1, hG, hK⟩ := h
    unfold G_X6_gatherOf at hG
    split at hG
    · exact Nat.le_of_ble_eq_true rfl
    · cases hG
  · intro as w K h
    obtain ⟨n, i0, l0, r⟩ := w
    obtain ⟨hf, y, m1, hG, hK⟩ := h
    unfold G_X6_gatherOf at hG
    split at hG
    · next x0 p1 p2 =>
      obtain ⟨hx1, hG1⟩ := gd_u hG
      obtain rfl := Nat.eq_of_beq_eq_true hx1
      obtain ⟨q, hq, he⟩ := fn_mu hG1
      obtain ⟨rfl, rfl⟩ := Prod.mk.inj he
      exact t_X6_gatherOf  hf  p1 p2 (m := (i0, l0)) hq hK
    · cases hG

/-! == X6_isInZone == -/
noncomputable def f_X6_isInZone (p1 : Int32) (m : fm_) : Option (Int32 × fm_) :=
  (Option.bind (f_X6_pointOf p1 m) fun q1 =>
(if q1.1 = (-1) then
((some (0, q1.2)))
else
(Option.bind (f_X9_isZone q1.1 q1.2) fun q6 =>
(if q6.1 = 0 then
((some (0, q6.2)))
else
((some (1, q6.2)))))))
def sp_X6_isInZone : am_S := fn_sp [(68, fn_F, G_X6_pointOf), (124, fn_F, G_X9_isZone)]
theorem sm_X6_isInZone : am_Smono (sp_X6_isInZone) := fn_sp_mono _
set_option maxRecDepth 100000 in
theorem t_X6_isInZone {n : Nat} {r : Nat → Nat → Option Nat} (hf : fn_F n r) {q : Int32 × fm_} (p1 : Int32) {m : fm_}
  (h : f_X6_isInZone p1 m = some q) {Q : Option Value → am_W → Prop} (hQ : Q (en_i q).1 (mk_ n r q.2)) : am_T m_X6_isInZone sp_X6_isInZone n Q 0 [some (.ref 82), some (.int p1), none] [] (mk_ n r m) :=
  am_T.wp sm_X6_isInZone (K := am_T m_X6_isInZone sp_X6_isInZone n Q) (cuts := []) (fun _ _ _ _ h => h) 16
    (fh_bd h fun q1 e2 h3 => ⟨Nat.le_of_ble_eq_true rfl, fn_aF hf rfl rfl, ⟨hf, some (.int q1.1), q1.2, gp_X6_pointOf (n := n) (r := r)  e2, fun _ => fh_if h3 (fun c4 h5 => ⟨rfl, Or.inl rfl, fh_rt h5 hQ⟩) (fun c4 h5 => ⟨fn_aF hf rfl rfl, Or.inl ⟨_, hf.2 82 0 6 rfl, fh_bd h5 fun q6 e7 h8 => ⟨Nat.le_of_ble_eq_true rfl, fn_aF hf rfl rfl, ⟨hf, some (.int q6.1), q6.2, gp_X9_isZone (n := n) (r := r)  e7, fun _ => fh_if h8 (fun c9 h10 => ⟨rfl, Or.inl rfl, fh_rt h10 hQ⟩) (fun c9 h10 => ⟨rfl, Or.inr rfl, fh_rt h10 hQ⟩)⟩⟩⟩⟩)⟩⟩)
noncomputable def G_X6_isInZone (n : Nat) (r : Nat → Nat → Option Nat) (as : List Value) (m : fm_) : Option (Option Value × fm_) := match as with
  | [.ref x0, .int p1] => gd_ (Nat.beq x0 82) ((f_X6_isInZone p1 m).map en_i)
  | _ => none
set_option maxRecDepth 100000 in
theorem gp_X6_isInZone {n : Nat} {r : Nat → Nat → Option Nat}  {p1 : Int32} {m : fm_} {q : Int32 × fm_}  (e : f_X6_isInZone p1 m = some q) : G_X6_isInZone n r [.ref 82, .int p1] m = some (en_i q) := by
  show (gd_ (Nat.beq 82 82) ((f_X6_isInZone p1 m).map en_i)) = _
  exact fn_gd rfl (fn_mp e)
set_option maxRecDepth 100000 in
theorem ok_X6_isInZone : am_mok 6 69 m_X6_isInZone = true := by decide +kernel
set_option maxRecDepth 100000 in
theorem c_X6_isInZone (l : Launch) {g : am_G} (hg : fx_ l g) : am_Met l g 2 69 (fn_s fn_F G_X6_isInZone) := by
  refine am_sound (own := 6) (M := m_X6_isInZone) (SP := sp_X6_isInZone) hg.1 (by decide +kernel) ok_X6_isInZone (by decide +kernel) ?_ (fun q hq hk => absurd hk (am_no61 (M := m_X6_isInZone) (by decide +kernel) q hq)) (fn_ext l _ rfl g 6) (Or.inl (by decide +kernel)) ?_ ?_
  · intro q hq hk
    have hm : q.2.2.2.1 ∈ am_cs m_X6_isInZone := am_cs_in hq hk
    rw [show am_cs m_X6_isInZone = [68, 124] by decide +kernel] at hm
    have hm : q.2.2.2.1 ∈ [68, 124] := (List.all_eq_true.mp (show ([68, 124] : List Nat).all (fun a => decide (a ∈ ([68, 124] : List Nat))) = true by decide +kernel) _ hm |> of_decide_eq_true)
    simp only [List.mem_cons, List.not_mem_nil, or_false] at hm
    rcases hm with hm | hm
    · rw [hm]; exact ⟨1, by omega, c_X6_pointOf l hg⟩
    · rw [hm]; exact ⟨0, by omega, c_X9_isZone l hg⟩
  · intro as w K h
    obtain ⟨hf, y, m1, hG, hK⟩ := h
    unfold G_X6_isInZone at hG
    split at hG
    · exact Nat.le_of_ble_eq_true rfl
    · cases hG
  · intro as w K h
    obtain ⟨n, i0, l0, r⟩ := w
    obtain ⟨hf, y, m1, hG, hK⟩ := h
    unfold G_X6_isInZone at hG
    split at hG
    · next x0 p1 =>
      obtain ⟨hx1, hG1⟩ := gd_u hG
      obtain rfl := Nat.eq_of_beq_eq_true hx1
      obtain ⟨q, hq, he⟩ := fn_mu hG1
      obtain ⟨rfl, rfl⟩ := Prod.mk.inj he
      exact t_X6_isInZone  hf  p1 (m := (i0, l0)) hq hK
    · cases hG

/-! == X6_stayBetween == -/
noncomputable def f_X6_stayBetween (p1 : Int32) (p2 : Int32) (p3 : Int32) (m : fm_) : Option (Int32 × fm_) :=
  (Option.bind (f_X6_minuteOf p2 m) fun q1 =>
(Option.bind (f_X6_minuteOf p1 q1.2) fun q4 =>
(Option.bind (f_X6_pointOf p1 q4.2) fun q7 =>
(Option.bind (f_X6_pointOf p2 q7.2) fun q10 =>
(Option.bind (f_X6_isInZone p1 q10.2) fun q13 =>
(if q13.1 = 0 then
(if p3 = 0 then
((some (0, q13.2)))
else
(Option.bind (f_X6_isInZone p1 q13.2) fun q20 =>
(if q20.1 = 0 then
(Option.bind (f_X6_isInZone p2 q20.2) fun q25 =>
(if q25.1 = 0 then
(Option.bind (f_X9_byZone q7.1 q10.1 q25.2) fun q30 =>
((some ((mx_ 0 ((q1.1 - q4.1) - q30.1)), q30.2))))
else
((some ((q1.1 - q4.1), q25.2)))))
else
((some ((q1.1 - q4.1), q20.2))))))
else
(Option.bind (f_X6_isInZone p2 q13.2) fun q33 =>
(if q33.1 = 0 then
(if p3 = 0 then
((some (0, q33.2)))
else
(Option.bind (f_X6_isInZone p1 q33.2) fun q40 =>
(if q40.1 = 0 then
(Option.bind (f_X6_isInZone p2 q40.2) fun q45 =>
(if q45.1 = 0 then
(Option.bind (f_X9_byZone q7.1 q10.1 q45.2) fun q50 =>
((some ((mx_ 0 ((q1.1 - q4.1) - q50.1)), q50.2))))
else
((some ((q1.1 - q4.1), q45.2)))))
else
((some ((q1.1 - q4.1), q40.2))))))
else
(if p3 = 0 then
(Option.bind (f_X9_byOutside q7.1 q10.1 q33.2) fun q55 =>
((some ((mn_ (q1.1 - q4.1) q55.1), q55.2))))
else
((some ((q1.1 - q4.1), q33.2))))))))))))
def sp_X6_stayBetween : am_S := fn_sp [(81, fn_F, G_X6_minuteOf), (68, fn_F, G_X6_pointOf), (69, fn_F, G_X6_isInZone), (121, fn_F, G_X9_byOutside), (120, fn_F, G_X9_byZone)]
theorem sm_X6_stayBetween : am_Smono (sp_X6_stayBetween) := fn_sp_mono _
set_option maxRecDepth 100000 in
theorem t_X6_stayBetween {n : Nat} {r : Nat → Nat → Option Nat} (hf : fn_F n r) {q : Int32 × fm_} (p1 : Int32) (p2 : Int32) (p3 : Int32) {m : fm_}
  (h : f_X6_stayBetween p1 p2 p3 m = some q) {Q : Option Value → am_W → Prop} (hQ : Q (en_i q).1 (mk_ n r q.2)) : am_T m_X6_stayBetween sp_X6_stayBetween n Q 0 [some (.ref 82), some (.int p1), some (.int p2), some (.int p3), none, none, none] [] (mk_ n r m) :=
  am_T.wp sm_X6_stayBetween (K := am_T m_X6_stayBetween sp_X6_stayBetween n Q) (cuts := []) (fun _ _ _ _ h => h) 45
    (fh_bd h fun q1 e2 h3 => ⟨Nat.le_of_ble_eq_true rfl, fn_aF hf rfl rfl, ⟨hf, some (.int q1.1), q1.2, gp_X6_minuteOf (n := n) (r := r)  e2, fun _ => fh_bd h3 fun q4 e5 h6 => ⟨Nat.le_of_ble_eq_true rfl, fn_aF hf rfl rfl, ⟨hf, some (.int q4.1), q4.2, gp_X6_minuteOf (n := n) (r := r)  e5, fun _ => fh_bd h6 fun q7 e8 h9 => ⟨Nat.le_of_ble_eq_true rfl, fn_aF hf rfl rfl, ⟨hf, some (.int q7.1), q7.2, gp_X6_pointOf (n := n) (r := r)  e8, fun _ => fh_bd h9 fun q10 e11 h12 => ⟨Nat.le_of_ble_eq_true rfl, fn_aF hf rfl rfl, ⟨hf, some (.int q10.1), q10.2, gp_X6_pointOf (n := n) (r := r)  e11, fun _ => fh_bd h12 fun q13 e14 h15 => ⟨Nat.le_of_ble_eq_true rfl, fn_aF hf rfl rfl, ⟨hf, some (.int q13.1), q13.2, gp_X6_isInZone (n := n) (r := r)  e14, fun _ => fh_if h15 (fun c16 h17 => fh_in h17 (fun c18 h19 => fh_bd h19 fun q20 e21 h22 => ⟨Nat.le_of_ble_eq_true rfl, fn_aF hf rfl rfl, ⟨hf, some (.int q20.1), q20.2, gp_X6_isInZone (n := n) (r := r)  e21, fun _ => fh_in h22 (fun c23 h24 => ⟨rfl, fh_rt h24 hQ⟩) (fun c23 h24 => fh_bd h24 fun q25 e26 h27 => ⟨Nat.le_of_ble_eq_true rfl, fn_aF hf rfl rfl, ⟨hf, some (.int q25.1), q25.2, gp_X6_isInZone (n := n) (r := r)  e26, fun _ => fh_if h27 (fun c28 h29 => ⟨fn_aF hf rfl rfl, Or.inl ⟨_, hf.2 82 0 6 rfl, fh_bd h29 fun q30 e31 h32 => ⟨Nat.le_of_ble_eq_true rfl, fn_aF hf rfl rfl, ⟨hf, some (.int q30.1), q30.2, gp_X9_byZone (n := n) (r := r)  e31, fun _ => ⟨Nat.le_of_ble_eq_true rfl, ⟨rfl, fh_rt h32 hQ⟩⟩⟩⟩⟩⟩) (fun c28 h29 => ⟨rfl, fh_rt h29 hQ⟩)⟩⟩)⟩⟩) (fun c18 h19 => ⟨rfl, fh_rt h19 hQ⟩)) (fun c16 h17 => fh_bd h17 fun q33 e34 h35 => ⟨Nat.le_of_ble_eq_true rfl, fn_aF hf rfl rfl, ⟨hf, some (.int q33.1), q33.2, gp_X6_isInZone (n := n) (r := r)  e34, fun _ => fh_if h35 (fun c36 h37 => fh_in h37 (fun c38 h39 => fh_bd h39 fun q40 e41 h42 => ⟨Nat.le_of_ble_eq_true rfl, fn_aF hf rfl rfl, ⟨hf, some (.int q40.1), q40.2, gp_X6_isInZone (n := n) (r := r)  e41, fun _ => fh_in h42 (fun c43 h44 => ⟨rfl, fh_rt h44 hQ⟩) (fun c43 h44 => fh_bd h44 fun q45 e46 h47 => ⟨Nat.le_of_ble_eq_true rfl, fn_aF hf rfl rfl, ⟨hf, some (.int q45.1), q45.2, gp_X6_isInZone (n := n) (r := r)  e46, fun _ => fh_if h47 (fun c48 h49 => ⟨fn_aF hf rfl rfl, Or.inl ⟨_, hf.2 82 0 6 rfl, fh_bd h49 fun q50 e51 h52 => ⟨Nat.le_of_ble_eq_true rfl, fn_aF hf rfl rfl, ⟨hf, some (.int q50.1), q50.2, gp_X9_byZone (n := n) (r := r)  e51, fun _ => ⟨Nat.le_of_ble_eq_true rfl, ⟨rfl, fh_rt h52 hQ⟩⟩⟩⟩⟩⟩) (fun c48 h49 => ⟨rfl, fh_rt h49 hQ⟩)⟩⟩)⟩⟩) (fun c38 h39 => ⟨rfl, fh_rt h39 hQ⟩)) (fun c36 h37 => fh_if h37 (fun c53 h54 => ⟨fn_aF hf rfl rfl, Or.inl ⟨_, hf.2 82 0 6 rfl, fh_bd h54 fun q55 e56 h57 => ⟨Nat.le_of_ble_eq_true rfl, fn_aF hf rfl rfl, ⟨hf, some (.int q55.1), q55.2, gp_X9_byOutside (n := n) (r := r)  e56, fun _ => ⟨Nat.le_of_ble_eq_true rfl, ⟨rfl, fh_rt h57 hQ⟩⟩⟩⟩⟩⟩) (fun c53 h54 => ⟨rfl, fh_rt h54 hQ⟩))⟩⟩)⟩⟩⟩⟩⟩⟩⟩⟩⟩⟩)
noncomputable def G_X6_stayBetween (n : Nat) (r : Nat → Nat → Option Nat) (as : List Value) (m : fm_) : Option (Option Value × fm_) := match as with
  | [.ref x0, .int p1, .int p2, .int p3] => gd_ (Nat.beq x0 82) ((f_X6_stayBetween p1 p2 p3 m).map en_i)
  | _ => none
set_option maxRecDepth 100000 in
theorem gp_X6_stayBetween {n : Nat} {r : Nat → Nat → Option Nat}  {p1 : Int32} {p2 : Int32} {p3 : Int32} {m : fm_} {q : Int32 × fm_}  (e : f_X6_stayBetween p1 p2 p3 m = some q) : G_X6_stayBetween n r [.ref 82, .int p1, .int p2, .int p3] m = some (en_i q) := by
  show (gd_ (Nat.beq 82 82) ((f_X6_stayBetween p1 p2 p3 m).map en_i)) = _
  exact fn_gd rfl (fn_mp e)
set_option maxRecDepth 100000 in
theorem ok_X6_stayBetween : am_mok 6 82 m_X6_stayBetween = true := by decide +kernel
set_option maxRecDepth 100000 in
theorem c_X6_stayBetween (l : Launch) {g : am_G} (hg : fx_ l g) : am_Met l g 3 82 (fn_s fn_F G_X6_stayBetween) := by
  refine am_sound (own := 6) (M := m_X6_stayBetween) (SP := sp_X6_stayBetween) hg.1 (by decide +kernel) ok_X6_stayBetween (by decide +kernel) ?_ (fun q hq hk => absurd hk (am_no61 (M := m_X6_stayBetween) (by decide +kernel) q hq)) (fn_ext l _ rfl g 6) (Or.inl (by decide +kernel)) ?_ ?_
  · intro q hq hk
    have hm : q.2.2.2.1 ∈ am_cs m_X6_stayBetween := am_cs_in hq hk
    rw [show am_cs m_X6_stayBetween = [81, 81, 68, 68, 69, 69, 121, 69, 69, 120] by decide +kernel] at hm
    have hm : q.2.2.2.1 ∈ [68, 69, 81, 120, 121] := (List.all_eq_true.mp (show ([81, 81, 68, 68, 69, 69, 121, 69, 69, 120] : List Nat).all (fun a => decide (a ∈ ([68, 69, 81, 120, 121] : List Nat))) = true by decide +kernel) _ hm |> of_decide_eq_true)
    simp only [List.mem_cons, List.not_mem_nil, or_false] at hm
    rcases hm with hm | hm | hm | hm | hm
    · rw [hm]; exact ⟨1, by omega, c_X6_pointOf l hg⟩
    · rw [hm]; exact ⟨2, by omega, c_X6_isInZone l hg⟩
    · rw [hm]; exact ⟨0, by omega, c_X6_minuteOf l hg⟩
    · rw [hm]; exact ⟨1, by omega, c_X9_byZone l hg⟩
    · rw [hm]; exact ⟨1, by omega, c_X9_byOutside l hg⟩
  · intro as w K h
    obtain ⟨hf, y, m1, hG, hK⟩ := h
    unfold G_X6_stayBetween at hG
    split at hG
    · exact Nat.le_of_ble_eq_true rfl
    · cases hG
  · intro as w K h
    obtain ⟨n, i0, l0, r⟩ := w
    obtain ⟨hf, y, m1, hG, hK⟩ := h
    unfold G_X6_stayBetween at hG
    split at hG
    · next x0 p1 p2 p3 =>
      obtain ⟨hx1, hG1⟩ := gd_u hG
      obtain rfl := Nat.eq_of_beq_eq_true hx1
      obtain ⟨q, hq, he⟩ := fn_mu hG1
      obtain ⟨rfl, rfl⟩ := Prod.mk.inj he
      exact t_X6_stayBetween  hf  p1 p2 p3 (m := (i0, l0)) hq hK
    · cases hG

/-! == X6_stay == -/
abbrev S_X6_stay : Type := (Int32 × Int32 × Int32 × Int32 × Int32 × Int32 × fm_)
noncomputable def st_X6_stay (s : S_X6_stay) : Option (S_X6_stay ⊕ (Int32 × fm_)) := match s with
  | (x1, x2, x3, x4, x5, x6, m) =>
    (if (gi_ m 82 9) ≤ x6 then
((some (Sum.inr (x5, m))))
else
(gd_ (ix_ (x6 - 1) 7)
(gd_ (ix_ x6 7)
(Option.bind (f_X6_stayBetween (gi_ m 87 (Int32.toNatClampNeg (x6 - 1))) (gi_ m 87 (Int32.toNatClampNeg x6)) x3 m) fun q7 =>
((some (Sum.inl ((x1, x2, x3, x4, (x5 + q7.1), (x6 + 1), q7.2)))))))))
noncomputable def f_X6_stay_19 (x1 : Int32) (x2 : Int32) (x3 : Int32) (x4 : Int32) (x5 : Int32) (x6 : Int32) (m : fm_) : Option (Int32 × fm_) := am_lp (st_X6_stay) ((x1, x2, x3, x4, x5, x6, m))
theorem e_X6_stay_19 (x1 : Int32) (x2 : Int32) (x3 : Int32) (x4 : Int32) (x5 : Int32) (x6 : Int32) (m : fm_) : f_X6_stay_19 x1 x2 x3 x4 x5 x6 m =
(if (gi_ m 82 9) ≤ x6 then
((some (x5, m)))
else
(gd_ (ix_ (x6 - 1) 7)
(gd_ (ix_ x6 7)
(Option.bind (f_X6_stayBetween (gi_ m 87 (Int32.toNatClampNeg (x6 - 1))) (gi_ m 87 (Int32.toNatClampNeg x6)) x3 m) fun q7 =>
((f_X6_stay_19 x1 x2 x3 x4 (x5 + q7.1) (x6 + 1) q7.2)))))) :=
  (am_lp_eq _ _).trans (fe_if (rfl) (fe_gd (fe_gd (fe_bd fun q7 => (rfl)))))
noncomputable def f_X6_stay (p1 : Int32) (p2 : Int32) (p3 : Int32) (p4 : Int32) (m : fm_) : Option (Int32 × fm_) :=
  (Option.bind (f_X6_choose p2 p4 m) fun q1 =>
(Option.bind (f_X6_gatherOf p1 p2 q1.2) fun q4 =>
((f_X6_stay_19 p1 p2 p3 p4 0 1 q4.2))))
def sp_X6_stay : am_S := fn_sp [(70, fn_F, G_X6_choose), (72, fn_F, G_X6_gatherOf), (82, fn_F, G_X6_stayBetween)]
theorem sm_X6_stay : am_Smono (sp_X6_stay) := fn_sp_mono _
def P_X6_stay (n : Nat) (r : Nat → Nat → Option Nat) (s : S_X6_stay) (q : Int32 × fm_) : Prop := match s with
  | (x1, x2, x3, x4, x5, x6, m) => ∀ (Q : Option Value → am_W → Prop), Q (en_i q).1 (mk_ n r q.2) → am_T m_X6_stay sp_X6_stay n Q 19 [some (.ref 82), some (.int x1), some (.int x2), some (.int x3), some (.int x4), some (.int x5), some (.int x6)] [] (mk_ n r m)
set_option maxRecDepth 100000 in
theorem t_X6_stay_19 {n : Nat} {r : Nat → Nat → Option Nat} (hf : fn_F n r) {K : S_X6_stay → Option (Int32 × fm_)} {q : Int32 × fm_} (hK : ∀ s, K s = some q → P_X6_stay n r s q) (x1 : Int32) (x2 : Int32) (x3 : Int32) (x4 : Int32) (x5 : Int32) (x6 : Int32) (m : fm_)
  (h : am_k K (st_X6_stay ((x1, x2, x3, x4, x5, x6, m))) = some q) : P_X6_stay n r ((x1, x2, x3, x4, x5, x6, m)) q := fun Q hQ =>
  am_T.wp sm_X6_stay (K := am_T m_X6_stay sp_X6_stay n Q) (cuts := [19]) (fun _ _ _ _ h => h) 24
    (⟨fn_aF hf rfl rfl, fj_if h (fun c1 h2 => ⟨rfl, fj_rt h2 hQ⟩) (fun c1 h2 => ⟨fn_aF hf rfl rfl, Or.inl ⟨_, hf.2 82 8 87 rfl, fj_gd h2 fun g4 h3 => ⟨7, fn_aF hf rfl rfl, ix_t g4, ⟨fn_aF hf rfl rfl, Or.inl ⟨_, hf.2 82 8 87 rfl, fj_gd h3 fun g6 h5 => ⟨7, fn_aF hf rfl rfl, ix_t g6, fj_bd h5 fun q7 e8 h9 => ⟨Nat.le_of_ble_eq_true rfl, fn_aF hf rfl rfl, ⟨hf, some (.int q7.1), q7.2, gp_X6_stayBetween (n := n) (r := r)  e8, fun _ => hK _ h9 _ hQ⟩⟩⟩⟩⟩⟩⟩⟩)⟩)
theorem l_X6_stay {n : Nat} {r : Nat → Nat → Option Nat} (hf : fn_F n r) (s : S_X6_stay) (q : Int32 × fm_) (h : am_lp (st_X6_stay) s = some q) : P_X6_stay n r s q :=
  am_lp_snd (P := P_X6_stay n r) (fun K hK s q h => match s, h with
    | (x1, x2, x3, x4, x5, x6, m), h => t_X6_stay_19 hf (fun s => hK s q) x1 x2 x3 x4 x5 x6 m h) s q h
set_option maxRecDepth 100000 in
theorem t_X6_stay {n : Nat} {r : Nat → Nat → Option Nat} (hf : fn_F n r) {q : Int32 × fm_} (p1 : Int32) (p2 : Int32) (p3 : Int32) (p4 : Int32) {m : fm_}
  (h : f_X6_stay p1 p2 p3 p4 m = some q) {Q : Option Value → am_W → Prop} (hQ : Q (en_i q).1 (mk_ n r q.2)) : am_T m_X6_stay sp_X6_stay n Q 0 [some (.ref 82), some (.int p1), some (.int p2), some (.int p3), some (.int p4), none, none] [] (mk_ n r m) :=
  am_T.wp sm_X6_stay (K := am_T m_X6_stay sp_X6_stay n Q) (cuts := [19]) (fun _ _ _ _ h => h) 14
    (fh_bd h fun q1 e2 h3 => ⟨Nat.le_of_ble_eq_true rfl, fn_aF hf rfl rfl, ⟨hf, none, q1.2, gp_X6_choose (n := n) (r := r)  e2, fun _ => ⟨rfl, fh_bd h3 fun q4 e5 h6 => ⟨Nat.le_of_ble_eq_true rfl, fn_aF hf rfl rfl, ⟨hf, none, q4.2, gp_X6_gatherOf (n := n) (r := r)  e5, fun _ => ⟨rfl, l_X6_stay hf _ _ h6 _ hQ⟩⟩⟩⟩⟩⟩)
noncomputable def G_X6_stay (n : Nat) (r : Nat → Nat → Option Nat) (as : List Value) (m : fm_) : Option (Option Value × fm_) := match as with
  | [.ref x0, .int p1, .int p2, .int p3, .int p4] => gd_ (Nat.beq x0 82) ((f_X6_stay p1 p2 p3 p4 m).map en_i)
  | _ => none
set_option maxRecDepth 100000 in
theorem gp_X6_stay {n : Nat} {r : Nat → Nat → Option Nat}  {p1 : Int32} {p2 : Int32} {p3 : Int32} {p4 : Int32} {m : fm_} {q : Int32 × fm_}  (e : f_X6_stay p1 p2 p3 p4 m = some q) : G_X6_stay n r [.ref 82, .int p1, .int p2, .int p3, .int p4] m = some (en_i q) := by
  show (gd_ (Nat.beq 82 82) ((f_X6_stay p1 p2 p3 p4 m).map en_i)) = _
  exact fn_gd rfl (fn_mp e)
set_option maxRecDepth 100000 in
theorem ok_X6_stay : am_mok 6 67 m_X6_stay = true := by decide +kernel
set_option maxRecDepth 100000 in
theorem c_X6_stay (l : Launch) {g : am_G} (hg : fx_ l g) : am_Met l g 5 67 (fn_s fn_F G_X6_stay) := by
  refine am_sound (own := 6) (M := m_X6_stay) (SP := sp_X6_stay) hg.1 (by decide +kernel) ok_X6_stay (by decide +kernel) ?_ (fun q hq hk => absurd hk (am_no61 (M := m_X6_stay) (by decide +kernel) q hq)) (fn_ext l _ rfl g 6) (Or.inl (by decide +kernel)) ?_ ?_
  · intro q hq hk
    have hm : q.2.2.2.1 ∈ am_cs m_X6_stay := am_cs_in hq hk
    rw [show am_cs m_X6_stay = [70, 72, 82] by decide +kernel] at hm
    have hm : q.2.2.2.1 ∈ [70, 72, 82] := (List.all_eq_true.mp (show ([70, 72, 82] : List Nat).all (fun a => decide (a ∈ ([70, 72, 82] : List Nat))) = true by decide +kernel) _ hm |> of_decide_eq_true)
    simp only [List.mem_cons, List.not_mem_nil, or_false] at hm
    rcases hm with hm | hm | hm
    · rw [hm]; exact ⟨4, by omega, c_X6_choose l hg⟩
    · rw [hm]; exact ⟨2, by omega, c_X6_gatherOf l hg⟩
    · rw [hm]; exact ⟨3, by omega, c_X6_stayBetween l hg⟩
  · intro as w K h
    obtain ⟨hf, y, m1, hG, hK⟩ := h
    unfold G_X6_stay at hG
    split at hG
    · exact Nat.le_of_ble_eq_true rfl
    · cases hG
  · intro as w K h
    obtain ⟨n, i0, l0, r⟩ := w
    obtain ⟨hf, y, m1, hG, hK⟩ := h
    unfold G_X6_stay at hG
    split at hG
    · next x0 p1 p2 p3 p4 =>
      obtain ⟨hx1, hG1⟩ := gd_u hG
      obtain rfl := Nat.eq_of_beq_eq_true hx1
      obtain ⟨q, hq, he⟩ := fn_mu hG1
      obtain ⟨rfl, rfl⟩ := Prod.mk.inj he
      exact t_X6_stay  hf  p1 p2 p3 p4 (m := (i0, l0)) hq hK
    · cases hG

/-! == X2_ask == -/
noncomputable def f_X2_ask (p1 : Int32) (p2 : Int32) (p3 : Int32) (m : fm_) : Option (Int32 × fm_) :=
  (Option.bind (f_X1_papersOn p1 p2 p3 m) fun q1 =>
(gd_ (ix_ 0 8)
(gd_ (ix_ 1 8)
(gd_ (ix_ 2 8)
(gd_ (ix_ 3 8)
(gd_ (ix_ 4 8)
((some (0, (si_ (si_ (si_ (si_ (si_ q1.2 93 (Int32.toNatClampNeg 0) (q1.1 / 1000)) 93 (Int32.toNatClampNeg 1) ((q1.1 / 100) - (q1.1 / 100) / 10 * 10)) 93 (Int32.toNatClampNeg 2) ((q1.1 / 10) - (q1.1 / 10) / 10 * 10)) 93 (Int32.toNatClampNeg 3) (q1.1 - q1.1 / 10 * 10)) 93 (Int32.toNatClampNeg 4) p2))))))))))
def sp_X2_ask : am_S := fn_sp [(20, fn_F, G_X1_papersOn)]
theorem sm_X2_ask : am_Smono (sp_X2_ask) := fn_sp_mono _
set_option maxRecDepth 100000 in
theorem t_X2_ask {n : Nat} {r : Nat → Nat → Option Nat} (hf : fn_F n r) {q : Int32 × fm_} (p1 : Int32) (p2 : Int32) (p3 : Int32) {m : fm_}
  (h : f_X2_ask p1 p2 p3 m = some q) {Q : Option Value → am_W → Prop} (hQ : Q (en_v q).1 (mk_ n r q.2)) : am_T m_X2_ask sp_X2_ask n Q 0 [some (.ref 92), some (.int p1), some (.int p2), some (.int p3), none] [] (mk_ n r m) :=
  am_T.wp sm_X2_ask (K := am_T m_X2_ask sp_X2_ask n Q) (cuts := []) (fun _ _ _ _ h => h) 46
    (⟨fn_aF hf rfl rfl, Or.inl ⟨_, hf.2 92 1 72 rfl, fh_bd h fun q1 e2 h3 => ⟨Nat.le_of_ble_eq_true rfl, fn_aF hf rfl rfl, ⟨hf, some (.int q1.1), q1.2, gp_X1_papersOn (n := n) (r := r)  e2, fun _ => ⟨fn_aF hf rfl rfl, Or.inl ⟨_, hf.2 92 4 93 rfl, ⟨by decide, fh_gd h3 fun g5 h4 => ⟨8, fn_aF hf rfl rfl, ix_t g5, ⟨fn_aF hf rfl rfl, Or.inl ⟨_, hf.2 92 4 93 rfl, ⟨by decide, ⟨by decide, fh_gd h4 fun g7 h6 => ⟨8, fn_aF hf rfl rfl, ix_t g7, ⟨fn_aF hf rfl rfl, Or.inl ⟨_, hf.2 92 4 93 rfl, ⟨by decide, ⟨by decide, fh_gd h6 fun g9 h8 => ⟨8, fn_aF hf rfl rfl, ix_t g9, ⟨fn_aF hf rfl rfl, Or.inl ⟨_, hf.2 92 4 93 rfl, ⟨by decide, fh_gd h8 fun g11 h10 => ⟨8, fn_aF hf rfl rfl, ix_t g11, ⟨fn_aF hf rfl rfl, Or.inl ⟨_, hf.2 92 4 93 rfl, fh_gd h10 fun g13 h12 => ⟨8, fn_aF hf rfl rfl, ix_t g13, ⟨rfl, fh_rt h12 hQ⟩⟩⟩⟩⟩⟩⟩⟩⟩⟩⟩⟩⟩⟩⟩⟩⟩⟩⟩⟩⟩⟩⟩⟩⟩⟩)
noncomputable def G_X2_ask (n : Nat) (r : Nat → Nat → Option Nat) (as : List Value) (m : fm_) : Option (Option Value × fm_) := match as with
  | [.ref x0, .int p1, .int p2, .int p3] => gd_ (Nat.beq x0 92) ((f_X2_ask p1 p2 p3 m).map en_v)
  | _ => none
set_option maxRecDepth 100000 in
theorem gp_X2_ask {n : Nat} {r : Nat → Nat → Option Nat}  {p1 : Int32} {p2 : Int32} {p3 : Int32} {m : fm_} {q : Int32 × fm_}  (e : f_X2_ask p1 p2 p3 m = some q) : G_X2_ask n r [.ref 92, .int p1, .int p2, .int p3] m = some (en_v q) := by
  show (gd_ (Nat.beq 92 92) ((f_X2_ask p1 p2 p3 m).map en_v)) = _
  exact fn_gd rfl (fn_mp e)
set_option maxRecDepth 100000 in
theorem ok_X2_ask : am_mok 2 30 m_X2_ask = true := by decide +kernel
set_option maxRecDepth 100000 in
theorem c_X2_ask (l : Launch) {g : am_G} (hg : fx_ l g) : am_Met l g 3 30 (fn_s fn_F G_X2_ask) := by
  refine am_sound (own := 2) (M := m_X2_ask) (SP := sp_X2_ask) hg.1 (by decide +kernel) ok_X2_ask (by decide +kernel) ?_ (fun q hq hk => absurd hk (am_no61 (M := m_X2_ask) (by decide +kernel) q hq)) (fn_ext l _ rfl g 2) (Or.inl (by decide +kernel)) ?_ ?_
  · intro q hq hk
    have hm : q.2.2.2.1 ∈ am_cs m_X2_ask := am_cs_in hq hk
    rw [show am_cs m_X2_ask = [20] by decide +kernel] at hm
    have hm : q.2.2.2.1 ∈ [20] := (List.all_eq_true.mp (show ([20] : List Nat).all (fun a => decide (a ∈ ([20] : List Nat))) = true by decide +kernel) _ hm |> of_decide_eq_true)
    simp only [List.mem_cons, List.not_mem_nil, or_false] at hm
    rcases hm with hm
    · rw [hm]; exact ⟨2, by omega, c_X1_papersOn l hg⟩
  · intro as w K h
    obtain ⟨hf, y, m1, hG, hK⟩ := h
    unfold G_X2_ask at hG
    split at hG
    · exact Nat.le_of_ble_eq_true rfl
    · cases hG
  · intro as w K h
    obtain ⟨n, i0, l0, r⟩ := w
    obtain ⟨hf, y, m1, hG, hK⟩ := h
    unfold G_X2_ask at hG
    split at hG
    · next x0 p1 p2 p3 =>
      obtain ⟨hx1, hG1⟩ := gd_u hG
      obtain rfl := Nat.eq_of_beq_eq_true hx1
      obtain ⟨q, hq, he⟩ := fn_mu hG1
      obtain ⟨rfl, rfl⟩ := Prod.mk.inj he
      exact t_X2_ask  hf  p1 p2 p3 (m := (i0, l0)) hq hK
    · cases hG

/-! == X2_classOn == -/
noncomputable def f_X2_classOn (p1 : Int32) (p2 : Int32) (p3 : Int32) (m : fm_) : Option (Int32 × fm_) :=
  (Option.bind (f_X3_inForce p2 m) fun q1 => om_ q1.1
((some (0, q1.2)))
fun o4 => gd_ (is_O o4)
(Option.bind (f_X2_ask p1 p2 p3 q1.2) fun q9 =>
(Option.bind (f_X4_classBy o4 q9.2) fun q12 =>
((some (q12.1, q12.2))))))
def sp_X2_classOn : am_S := fn_sp [(32, fn_F, G_X3_inForce), (30, fn_F, G_X2_ask), (39, fn_F, G_X4_classBy)]
theorem sm_X2_classOn : am_Smono (sp_X2_classOn) := fn_sp_mono _
set_option maxRecDepth 100000 in
theorem t_X2_classOn {n : Nat} {r : Nat → Nat → Option Nat} (hf : fn_F n r) {q : Int32 × fm_} (p1 : Int32) (p2 : Int32) (p3 : Int32) {m : fm_}
  (h : f_X2_classOn p1 p2 p3 m = some q) {Q : Option Value → am_W → Prop} (hQ : Q (en_i q).1 (mk_ n r q.2)) : am_T m_X2_classOn sp_X2_classOn n Q 0 [some (.ref 92), some (.int p1), some (.int p2), some (.int p3), none] [] (mk_ n r m) :=
  am_T.wp sm_X2_classOn (K := am_T m_X2_classOn sp_X2_classOn n Q) (cuts := []) (fun _ _ _ _ h => h) 18
    (⟨fn_aF hf rfl rfl, Or.inl ⟨_, hf.2 92 0 30 rfl, fh_bd h fun q1 e2 h3 => fh_om h3 (fun e8 h7 => ⟨Nat.le_of_ble_eq_true rfl, fn_aF hf rfl rfl, hf, _, _, gp_X3_inForce (n := n) (r := r)  e2, fun _ => am_rv_n e8 (⟨rfl, fh_rt h7 hQ⟩)⟩) (fun o4 e8 h3 => fh_gd h3 fun g5 h6 => ⟨Nat.le_of_ble_eq_true rfl, fn_aF hf rfl rfl, hf, _, _, gp_X3_inForce (n := n) (r := r)  e2, fun _ => am_rv_s e8 (fh_bd h6 fun q9 e10 h11 => ⟨Nat.le_of_ble_eq_true rfl, fn_aF hf rfl rfl, ⟨hf, none, q9.2, gp_X2_ask (n := n) (r := r)  e10, fun _ => ⟨rfl, ⟨fn_aF hf rfl rfl, Or.inl ⟨_, hf.2 92 4 93 rfl, fh_bd h11 fun q12 e13 h14 => ⟨Nat.le_of_ble_eq_true rfl, fn_aO0 hf g5 rfl, ⟨hf, some (.int q12.1), q12.2, gp_X4_classBy (n := n) (r := r) g5 e13, fun _ => ⟨rfl, fh_rt h14 hQ⟩⟩⟩⟩⟩⟩⟩⟩)⟩)⟩⟩)
noncomputable def G_X2_classOn (n : Nat) (r : Nat → Nat → Option Nat) (as : List Value) (m : fm_) : Option (Option Value × fm_) := match as with
  | [.ref x0, .int p1, .int p2, .int p3] => gd_ (Nat.beq x0 92) ((f_X2_classOn p1 p2 p3 m).map en_i)
  | _ => none
set_option maxRecDepth 100000 in
theorem gp_X2_classOn {n : Nat} {r : Nat → Nat → Option Nat}  {p1 : Int32} {p2 : Int32} {p3 : Int32} {m : fm_} {q : Int32 × fm_}  (e : f_X2_classOn p1 p2 p3 m = some q) : G_X2_classOn n r [.ref 92, .int p1, .int p2, .int p3] m = some (en_i q) := by
  show (gd_ (Nat.beq 92 92) ((f_X2_classOn p1 p2 p3 m).map en_i)) = _
  exact fn_gd rfl (fn_mp e)
set_option maxRecDepth 100000 in
theorem ok_X2_classOn : am_mok 2 24 m_X2_classOn = true := by decide +kernel
set_option maxRecDepth 100000 in
theorem c_X2_classOn (l : Launch) {g : am_G} (hg : fx_ l g) : am_Met l g 4 24 (fn_s fn_F G_X2_classOn) := by
  refine am_sound (own := 2) (M := m_X2_classOn) (SP := sp_X2_classOn) hg.1 (by decide +kernel) ok_X2_classOn (by decide +kernel) ?_ (fun q hq hk => absurd hk (am_no61 (M := m_X2_classOn) (by decide +kernel) q hq)) (fn_ext l _ rfl g 2) (Or.inl (by decide +kernel)) ?_ ?_
  · intro q hq hk
    have hm : q.2.2.2.1 ∈ am_cs m_X2_classOn := am_cs_in hq hk
    rw [show am_cs m_X2_classOn = [32, 30, 39] by decide +kernel] at hm
    have hm : q.2.2.2.1 ∈ [30, 32, 39] := (List.all_eq_true.mp (show ([32, 30, 39] : List Nat).all (fun a => decide (a ∈ ([30, 32, 39] : List Nat))) = true by decide +kernel) _ hm |> of_decide_eq_true)
    simp only [List.mem_cons, List.not_mem_nil, or_false] at hm
    rcases hm with hm | hm | hm
    · rw [hm]; exact ⟨3, by omega, c_X2_ask l hg⟩
    · rw [hm]; exact ⟨0, by omega, c_X3_inForce l hg⟩
    · rw [hm]; exact ⟨2, by omega, c_X4_classBy l hg⟩
  · intro as w K h
    obtain ⟨hf, y, m1, hG, hK⟩ := h
    unfold G_X2_classOn at hG
    split at hG
    · exact Nat.le_of_ble_eq_true rfl
    · cases hG
  · intro as w K h
    obtain ⟨n, i0, l0, r⟩ := w
    obtain ⟨hf, y, m1, hG, hK⟩ := h
    unfold G_X2_classOn at hG
    split at hG
    · next x0 p1 p2 p3 =>
      obtain ⟨hx1, hG1⟩ := gd_u hG
      obtain rfl := Nat.eq_of_beq_eq_true hx1
      obtain ⟨q, hq, he⟩ := fn_mu hG1
      obtain ⟨rfl, rfl⟩ := Prod.mk.inj he
      exact t_X2_classOn  hf  p1 p2 p3 (m := (i0, l0)) hq hK
    · cases hG

