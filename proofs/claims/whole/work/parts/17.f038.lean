/-! == X12_effect == -/
noncomputable def f_X12_effect (p1 : Int32) (m : fm_) : Option (Int32 × fm_) :=
  (Option.bind (f_X12_isDay p1 m) fun q1 =>
(if q1.1 = 0 then
((some ((-1000000), q1.2)))
else
(Option.bind (f_X12_join p1 q1.2) fun q6 =>
(Option.bind (f_X12_sum 0 q6.2) fun q9 =>
((some (q9.1, q9.2)))))))
def sp_X12_effect : am_S := fn_sp [(219, fn_0, G_X12_isDay), (265, fn_F, G_X12_join), (266, fn_F, G_X12_sum)]
theorem sm_X12_effect : am_Smono (sp_X12_effect) := fn_sp_mono _
set_option maxRecDepth 100000 in
theorem t_X12_effect {n : Nat} {r : Nat → Nat → Option Nat} (hf : fn_F n r) {q : Int32 × fm_} (p1 : Int32) {m : fm_}
  (h : f_X12_effect p1 m = some q) {Q : Option Value → am_W → Prop} (hQ : Q (en_i q).1 (mk_ n r q.2)) : am_T m_X12_effect sp_X12_effect n Q 0 [some (.ref 106), some (.int p1)] [] (mk_ n r m) :=
  am_T.wp sm_X12_effect (K := am_T m_X12_effect sp_X12_effect n Q) (cuts := []) (fun _ _ _ _ h => h) 11
    (fh_bd h fun q1 e2 h3 => ⟨Nat.le_of_ble_eq_true rfl, trivial, ⟨trivial, some (.int q1.1), q1.2, gp_X12_isDay (n := n) (r := r)  e2, fun _ => fh_in h3 (fun c4 h5 => fh_bd h5 fun q6 e7 h8 => ⟨Nat.le_of_ble_eq_true rfl, fn_aF hf rfl rfl, ⟨hf, none, q6.2, gp_X12_join (n := n) (r := r)  e7, fun _ => ⟨rfl, fh_bd h8 fun q9 e10 h11 => ⟨Nat.le_of_ble_eq_true rfl, fn_aF hf rfl rfl, ⟨hf, some (.int q9.1), q9.2, gp_X12_sum (n := n) (r := r)  e10, fun _ => ⟨rfl, fh_rt h11 hQ⟩⟩⟩⟩⟩⟩) (fun c4 h5 => ⟨rfl, fh_rt h5 hQ⟩)⟩⟩)
noncomputable def G_X12_effect (n : Nat) (r : Nat → Nat → Option Nat) (as : List Value) (m : fm_) : Option (Option Value × fm_) := match as with
  | [.ref x0, .int p1] => gd_ (Nat.beq x0 106) ((f_X12_effect p1 m).map en_i)
  | _ => none
set_option maxRecDepth 100000 in
theorem gp_X12_effect {n : Nat} {r : Nat → Nat → Option Nat}  {p1 : Int32} {m : fm_} {q : Int32 × fm_}  (e : f_X12_effect p1 m = some q) : G_X12_effect n r [.ref 106, .int p1] m = some (en_i q) := by
  show (gd_ (Nat.beq 106 106) ((f_X12_effect p1 m).map en_i)) = _
  exact fn_gd rfl (fn_mp e)
set_option maxRecDepth 100000 in
theorem ok_X12_effect : am_mok 12 267 m_X12_effect = true := by decide +kernel
set_option maxRecDepth 100000 in
theorem c_X12_effect (l : Launch) {g : am_G} (hg : fx_ l g) : am_Met l g 3 267 (fn_s fn_F G_X12_effect) := by
  refine am_sound (own := 12) (M := m_X12_effect) (SP := sp_X12_effect) hg.1 (by decide +kernel) ok_X12_effect (by decide +kernel) ?_ (fun q hq hk => absurd hk (am_no61 (M := m_X12_effect) (by decide +kernel) q hq)) (fn_ext l _ rfl g 12) (Or.inl (by decide +kernel)) ?_ ?_
  · intro q hq hk
    have hm : q.2.2.2.1 ∈ am_cs m_X12_effect := am_cs_in hq hk
    rw [show am_cs m_X12_effect = [219, 265, 266] by decide +kernel] at hm
    have hm : q.2.2.2.1 ∈ [219, 265, 266] := (List.all_eq_true.mp (show ([219, 265, 266] : List Nat).all (fun a => decide (a ∈ ([219, 265, 266] : List Nat))) = true by decide +kernel) _ hm |> of_decide_eq_true)
    simp only [List.mem_cons, List.not_mem_nil, or_false] at hm
    rcases hm with hm | hm | hm
    · rw [hm]; exact ⟨0, by omega, c_X12_isDay l hg⟩
    · rw [hm]; exact ⟨2, by omega, c_X12_join l hg⟩
    · rw [hm]; exact ⟨0, by omega, c_X12_sum l hg⟩
  · intro as w K h
    obtain ⟨hf, y, m1, hG, hK⟩ := h
    unfold G_X12_effect at hG
    split at hG
    · exact Nat.le_of_ble_eq_true rfl
    · cases hG
  · intro as w K h
    obtain ⟨n, i0, l0, r⟩ := w
    obtain ⟨hf, y, m1, hG, hK⟩ := h
    unfold G_X12_effect at hG
    split at hG
    · next x0 p1 =>
      obtain ⟨hx1, hG1⟩ := gd_u hG
      obtain rfl := Nat.eq_of_beq_eq_true hx1
      obtain ⟨q, hq, he⟩ := fn_mu hG1
      obtain ⟨rfl, rfl⟩ := Prod.mk.inj he
      exact t_X12_effect  hf  p1 (m := (i0, l0)) hq hK
    · cases hG

/-! == X12_doubtOf == -/
abbrev S_X12_doubtOf : Type := (Int32 × Int32 × Int32 × Int32 × Int32 × fm_)
noncomputable def st_X12_doubtOf (s : S_X12_doubtOf) : Option (S_X12_doubtOf ⊕ (Int32 × fm_)) := match s with
  | (x1, x2, x3, x4, x5, m) =>
    (if (1 <<< ((gi_ m 106 86) &&& 31)) ≤ x5 then
(if x2 = 0 then
((some (Sum.inr (x4, m))))
else
((some (Sum.inr ((1 <<< ((gi_ m 106 86) &&& 31)), m)))))
else
(Option.bind (f_X12_sum x5 m) fun q5 =>
(if x3 ≤ q5.1 then
((some (Sum.inl ((x1, x2, x3, (x4 + 1), (x5 + 1), q5.2)))))
else
(Option.bind (f_X12_sum x5 q5.2) fun q10 =>
(if (-q10.1) < x3 then
((some (Sum.inl ((x1, x2, x3, (x4 + 0), (x5 + 1), q10.2)))))
else
((some (Sum.inl ((x1, x2, x3, (x4 + 1), (x5 + 1), q10.2))))))))))
noncomputable def f_X12_doubtOf_52 (x1 : Int32) (x2 : Int32) (x3 : Int32) (x4 : Int32) (x5 : Int32) (m : fm_) : Option (Int32 × fm_) := am_lp (st_X12_doubtOf) ((x1, x2, x3, x4, x5, m))
theorem e_X12_doubtOf_52 (x1 : Int32) (x2 : Int32) (x3 : Int32) (x4 : Int32) (x5 : Int32) (m : fm_) : f_X12_doubtOf_52 x1 x2 x3 x4 x5 m =
(if (1 <<< ((gi_ m 106 86) &&& 31)) ≤ x5 then
(if x2 = 0 then
((some (x4, m)))
else
((some ((1 <<< ((gi_ m 106 86) &&& 31)), m))))
else
(Option.bind (f_X12_sum x5 m) fun q5 =>
(if x3 ≤ q5.1 then
((f_X12_doubtOf_52 x1 x2 x3 (x4 + 1) (x5 + 1) q5.2))
else
(Option.bind (f_X12_sum x5 q5.2) fun q10 =>
(if (-q10.1) < x3 then
((f_X12_doubtOf_52 x1 x2 x3 (x4 + 0) (x5 + 1) q10.2))
else
((f_X12_doubtOf_52 x1 x2 x3 (x4 + 1) (x5 + 1) q10.2))))))) :=
  (am_lp_eq _ _).trans (fe_if (fe_if (rfl) (rfl)) (fe_bd fun q5 => (fe_if (rfl) (fe_bd fun q10 => (fe_if (rfl) (rfl))))))
noncomputable def f_X12_doubtOf (p1 : Int32) (p2 : Int32) (m : fm_) : Option (Int32 × fm_) :=
  (Option.bind (f_X12_isDay p1 m) fun q1 =>
(if q1.1 = 0 then
((some ((-1), q1.2)))
else
(if p2 < 0 then
((some ((-1), q1.2)))
else
(if p2 ≤ 1 then
(Option.bind (f_X12_join p1 q1.2) fun q10 =>
(Option.bind (f_X12_sum 0 q10.2) fun q13 =>
(if 0 ≤ q13.1 then
(Option.bind (f_X12_sum 0 q13.2) fun q18 =>
((f_X12_doubtOf_52 p1 p2 q18.1 0 0 q18.2)))
else
(Option.bind (f_X12_sum 0 q13.2) fun q21 =>
((f_X12_doubtOf_52 p1 p2 (-q21.1) 0 0 q21.2))))))
else
((some ((-1), q1.2)))))))
def sp_X12_doubtOf : am_S := fn_sp [(219, fn_0, G_X12_isDay), (265, fn_F, G_X12_join), (266, fn_F, G_X12_sum)]
theorem sm_X12_doubtOf : am_Smono (sp_X12_doubtOf) := fn_sp_mono _
def P_X12_doubtOf (n : Nat) (r : Nat → Nat → Option Nat) (s : S_X12_doubtOf) (q : Int32 × fm_) : Prop := match s with
  | (x1, x2, x3, x4, x5, m) => ∀ (Q : Option Value → am_W → Prop), Q (en_i q).1 (mk_ n r q.2) → am_T m_X12_doubtOf sp_X12_doubtOf n Q 52 [some (.ref 106), some (.int x1), some (.int x2), some (.int x3), some (.int x4), some (.int x5)] [] (mk_ n r m)
set_option maxRecDepth 100000 in
theorem t_X12_doubtOf_52 {n : Nat} {r : Nat → Nat → Option Nat} (hf : fn_F n r) {K : S_X12_doubtOf → Option (Int32 × fm_)} {q : Int32 × fm_} (hK : ∀ s, K s = some q → P_X12_doubtOf n r s q) (x1 : Int32) (x2 : Int32) (x3 : Int32) (x4 : Int32) (x5 : Int32) (m : fm_)
  (h : am_k K (st_X12_doubtOf ((x1, x2, x3, x4, x5, m))) = some q) : P_X12_doubtOf n r ((x1, x2, x3, x4, x5, m)) q := fun Q hQ =>
  am_T.wp sm_X12_doubtOf (K := am_T m_X12_doubtOf sp_X12_doubtOf n Q) (cuts := [52]) (fun _ _ _ _ h => h) 26
    (⟨fn_aF hf rfl rfl, fj_if h (fun c1 h2 => fj_in h2 (fun c3 h4 => ⟨fn_aF hf rfl rfl, ⟨rfl, fj_rt h4 hQ⟩⟩) (fun c3 h4 => ⟨rfl, fj_rt h4 hQ⟩)) (fun c1 h2 => fj_bd h2 fun q5 e6 h7 => ⟨Nat.le_of_ble_eq_true rfl, fn_aF hf rfl rfl, ⟨hf, some (.int q5.1), q5.2, gp_X12_sum (n := n) (r := r)  e6, fun _ => fj_if h7 (fun c8 h9 => hK _ h9 _ hQ) (fun c8 h9 => fj_bd h9 fun q10 e11 h12 => ⟨Nat.le_of_ble_eq_true rfl, fn_aF hf rfl rfl, ⟨hf, some (.int q10.1), q10.2, gp_X12_sum (n := n) (r := r)  e11, fun _ => fj_if h12 (fun c13 h14 => hK _ h14 _ hQ) (fun c13 h14 => hK _ h14 _ hQ)⟩⟩)⟩⟩)⟩)
theorem l_X12_doubtOf {n : Nat} {r : Nat → Nat → Option Nat} (hf : fn_F n r) (s : S_X12_doubtOf) (q : Int32 × fm_) (h : am_lp (st_X12_doubtOf) s = some q) : P_X12_doubtOf n r s q :=
  am_lp_snd (P := P_X12_doubtOf n r) (fun K hK s q h => match s, h with
    | (x1, x2, x3, x4, x5, m), h => t_X12_doubtOf_52 hf (fun s => hK s q) x1 x2 x3 x4 x5 m h) s q h
set_option maxRecDepth 100000 in
theorem t_X12_doubtOf {n : Nat} {r : Nat → Nat → Option Nat} (hf : fn_F n r) {q : Int32 × fm_} (p1 : Int32) (p2 : Int32) {m : fm_}
  (h : f_X12_doubtOf p1 p2 m = some q) {Q : Option Value → am_W → Prop} (hQ : Q (en_i q).1 (mk_ n r q.2)) : am_T m_X12_doubtOf sp_X12_doubtOf n Q 0 [some (.ref 106), some (.int p1), some (.int p2), none, none, none] [] (mk_ n r m) :=
  am_T.wp sm_X12_doubtOf (K := am_T m_X12_doubtOf sp_X12_doubtOf n Q) (cuts := [52]) (fun _ _ _ _ h => h) 27
    (fh_bd h fun q1 e2 h3 => ⟨Nat.le_of_ble_eq_true rfl, trivial, ⟨trivial, some (.int q1.1), q1.2, gp_X12_isDay (n := n) (r := r)  e2, fun _ => fh_if h3 (fun c4 h5 => ⟨rfl, fh_rt h5 hQ⟩) (fun c4 h5 => fh_if h5 (fun c6 h7 => ⟨rfl, fh_rt h7 hQ⟩) (fun c6 h7 => fh_if h7 (fun c8 h9 => fh_bd h9 fun q10 e11 h12 => ⟨Nat.le_of_ble_eq_true rfl, fn_aF hf rfl rfl, ⟨hf, none, q10.2, gp_X12_join (n := n) (r := r)  e11, fun _ => ⟨rfl, fh_bd h12 fun q13 e14 h15 => ⟨Nat.le_of_ble_eq_true rfl, fn_aF hf rfl rfl, ⟨hf, some (.int q13.1), q13.2, gp_X12_sum (n := n) (r := r)  e14, fun _ => fh_if h15 (fun c16 h17 => fh_bd h17 fun q18 e19 h20 => ⟨Nat.le_of_ble_eq_true rfl, fn_aF hf rfl rfl, ⟨hf, some (.int q18.1), q18.2, gp_X12_sum (n := n) (r := r)  e19, fun _ => l_X12_doubtOf hf _ _ h20 _ hQ⟩⟩) (fun c16 h17 => fh_bd h17 fun q21 e22 h23 => ⟨Nat.le_of_ble_eq_true rfl, fn_aF hf rfl rfl, ⟨hf, some (.int q21.1), q21.2, gp_X12_sum (n := n) (r := r)  e22, fun _ => l_X12_doubtOf hf _ _ h23 _ hQ⟩⟩)⟩⟩⟩⟩⟩) (fun c8 h9 => ⟨rfl, fh_rt h9 hQ⟩)))⟩⟩)
noncomputable def G_X12_doubtOf (n : Nat) (r : Nat → Nat → Option Nat) (as : List Value) (m : fm_) : Option (Option Value × fm_) := match as with
  | [.ref x0, .int p1, .int p2] => gd_ (Nat.beq x0 106) ((f_X12_doubtOf p1 p2 m).map en_i)
  | _ => none
set_option maxRecDepth 100000 in
theorem gp_X12_doubtOf {n : Nat} {r : Nat → Nat → Option Nat}  {p1 : Int32} {p2 : Int32} {m : fm_} {q : Int32 × fm_}  (e : f_X12_doubtOf p1 p2 m = some q) : G_X12_doubtOf n r [.ref 106, .int p1, .int p2] m = some (en_i q) := by
  show (gd_ (Nat.beq 106 106) ((f_X12_doubtOf p1 p2 m).map en_i)) = _
  exact fn_gd rfl (fn_mp e)
set_option maxRecDepth 100000 in
theorem ok_X12_doubtOf : am_mok 12 268 m_X12_doubtOf = true := by decide +kernel
set_option maxRecDepth 100000 in
theorem c_X12_doubtOf (l : Launch) {g : am_G} (hg : fx_ l g) : am_Met l g 3 268 (fn_s fn_F G_X12_doubtOf) := by
  refine am_sound (own := 12) (M := m_X12_doubtOf) (SP := sp_X12_doubtOf) hg.1 (by decide +kernel) ok_X12_doubtOf (by decide +kernel) ?_ (fun q hq hk => absurd hk (am_no61 (M := m_X12_doubtOf) (by decide +kernel) q hq)) (fn_ext l _ rfl g 12) (Or.inl (by decide +kernel)) ?_ ?_
  · intro q hq hk
    have hm : q.2.2.2.1 ∈ am_cs m_X12_doubtOf := am_cs_in hq hk
    rw [show am_cs m_X12_doubtOf = [219, 265, 266, 266, 266, 266, 266] by decide +kernel] at hm
    have hm : q.2.2.2.1 ∈ [219, 265, 266] := (List.all_eq_true.mp (show ([219, 265, 266, 266, 266, 266, 266] : List Nat).all (fun a => decide (a ∈ ([219, 265, 266] : List Nat))) = true by decide +kernel) _ hm |> of_decide_eq_true)
    simp only [List.mem_cons, List.not_mem_nil, or_false] at hm
    rcases hm with hm | hm | hm
    · rw [hm]; exact ⟨0, by omega, c_X12_isDay l hg⟩
    · rw [hm]; exact ⟨2, by omega, c_X12_join l hg⟩
    · rw [hm]; exact ⟨0, by omega, c_X12_sum l hg⟩
  · intro as w K h
    obtain ⟨hf, y, m1, hG, hK⟩ := h
    unfold G_X12_doubtOf at hG
    split at hG
    · exact Nat.le_of_ble_eq_true rfl
    · cases hG
  · intro as w K h
    obtain ⟨n, i0, l0, r⟩ := w
    obtain ⟨hf, y, m1, hG, hK⟩ := h
    unfold G_X12_doubtOf at hG
    split at hG
    · next x0 p1 p2 =>
      obtain ⟨hx1, hG1⟩ := gd_u hG
      obtain rfl := Nat.eq_of_beq_eq_true hx1
      obtain ⟨q, hq, he⟩ := fn_mu hG1
      obtain ⟨rfl, rfl⟩ := Prod.mk.inj he
      exact t_X12_doubtOf  hf  p1 p2 (m := (i0, l0)) hq hK
    · cases hG

/-! == X12_trip == -/
noncomputable def f_X12_trip (p1 : Int32) (p2 : Int32) (p3 : Int32) (p4 : Int32) (p5 : Int32) (m : fm_) : Option (Int32 × fm_) :=
  (if (gi_ m 106 87) = 20 then
((some ((-1), m)))
else
(Option.bind (f_X12_isPoint p1 m) fun q3 =>
(if q3.1 = 0 then
((some ((-1), q3.2)))
else
(Option.bind (f_X12_isPoint p2 q3.2) fun q8 =>
(if q8.1 = 0 then
((some ((-1), q8.2)))
else
(if p1 = p2 then
((some ((-1), q8.2)))
else
(gd_ (ix_ ((12 * p1) + p2) 144)
(if 1000000 ≤ (gi_ q8.2 120 (Int32.toNatClampNeg ((12 * p1) + p2))) then
((some ((-1), q8.2)))
else
(if p3 < 1 then
((some ((-1), q8.2)))
else
(if 99 < p3 then
((some ((-1), q8.2)))
else
(if p4 < 1 then
((some ((-1), q8.2)))
else
(if 99 < p4 then
((some ((-1), q8.2)))
else
(Option.bind (f_X12_isSmall p5 q8.2) fun q27 =>
(if q27.1 = 0 then
((some ((-1), q27.2)))
else
(gd_ (ix_ (gi_ q27.2 106 87) 20)
(gd_ (ix_ (gi_ q27.2 106 87) 20)
(gd_ (ix_ (gi_ q27.2 106 87) 20)
(gd_ (ix_ (gi_ q27.2 106 87) 20)
(gd_ (ix_ (gi_ q27.2 106 87) 20)
((some ((((gi_ q27.2 106 87) + 1) - 1), (si_ (si_ (si_ (si_ (si_ (si_ q27.2 160 (Int32.toNatClampNeg (gi_ q27.2 106 87)) p1) 161 (Int32.toNatClampNeg (gi_ q27.2 106 87)) p2) 162 (Int32.toNatClampNeg (gi_ q27.2 106 87)) p3) 163 (Int32.toNatClampNeg (gi_ q27.2 106 87)) p4) 164 (Int32.toNatClampNeg (gi_ q27.2 106 87)) p5) 106 87 ((gi_ q27.2 106 87) + 1))))))))))))))))))))))))
def sp_X12_trip : am_S := fn_sp [(203, fn_0, G_X12_isPoint), (229, fn_0, G_X12_isSmall)]
theorem sm_X12_trip : am_Smono (sp_X12_trip) := fn_sp_mono _
set_option maxRecDepth 100000 in
theorem t_X12_trip {n : Nat} {r : Nat → Nat → Option Nat} (hf : fn_F n r) {q : Int32 × fm_} (p1 : Int32) (p2 : Int32) (p3 : Int32) (p4 : Int32) (p5 : Int32) {m : fm_}
  (h : f_X12_trip p1 p2 p3 p4 p5 m = some q) {Q : Option Value → am_W → Prop} (hQ : Q (en_i q).1 (mk_ n r q.2)) : am_T m_X12_trip sp_X12_trip n Q 0 [some (.ref 106), some (.int p1), some (.int p2), some (.int p3), some (.int p4), some (.int p5)] [] (mk_ n r m) :=
  am_T.wp sm_X12_trip (K := am_T m_X12_trip sp_X12_trip n Q) (cuts := []) (fun _ _ _ _ h => h) 80
    (⟨fn_aF hf rfl rfl, fh_if h (fun c1 h2 => ⟨rfl, fh_rt h2 hQ⟩) (fun c1 h2 => fh_bd h2 fun q3 e4 h5 => ⟨Nat.le_of_ble_eq_true rfl, trivial, ⟨trivial, some (.int q3.1), q3.2, gp_X12_isPoint (n := n) (r := r)  e4, fun _ => fh_if h5 (fun c6 h7 => ⟨rfl, fh_rt h7 hQ⟩) (fun c6 h7 => fh_bd h7 fun q8 e9 h10 => ⟨Nat.le_of_ble_eq_true rfl, trivial, ⟨trivial, some (.int q8.1), q8.2, gp_X12_isPoint (n := n) (r := r)  e9, fun _ => fh_if h10 (fun c11 h12 => ⟨rfl, fh_rt h12 hQ⟩) (fun c11 h12 => fh_if h12 (fun c13 h14 => ⟨rfl, fh_rt h14 hQ⟩) (fun c13 h14 => ⟨fn_aF hf rfl rfl, Or.inl ⟨_, hf.2 106 27 120 rfl, fh_gd h14 fun g16 h15 => ⟨144, fn_aF hf rfl rfl, ix_t g16, fh_if h15 (fun c17 h18 => ⟨rfl, fh_rt h18 hQ⟩) (fun c17 h18 => fh_if h18 (fun c19 h20 => ⟨rfl, fh_rt h20 hQ⟩) (fun c19 h20 => fh_if h20 (fun c21 h22 => ⟨rfl, fh_rt h22 hQ⟩) (fun c21 h22 => fh_if h22 (fun c23 h24 => ⟨rfl, fh_rt h24 hQ⟩) (fun c23 h24 => fh_if h24 (fun c25 h26 => ⟨rfl, fh_rt h26 hQ⟩) (fun c25 h26 => fh_bd h26 fun q27 e28 h29 => ⟨Nat.le_of_ble_eq_true rfl, trivial, ⟨trivial, some (.int q27.1), q27.2, gp_X12_isSmall (n := n) (r := r)  e28, fun _ => fh_in h29 (fun c30 h31 => ⟨fn_aF hf rfl rfl, Or.inl ⟨_, hf.2 106 88 160 rfl, ⟨fn_aF hf rfl rfl, fh_gd h31 fun g33 h32 => ⟨20, fn_aF hf rfl rfl, ix_t g33, ⟨fn_aF hf rfl rfl, Or.inl ⟨_, hf.2 106 89 161 rfl, ⟨fn_aF hf rfl rfl, fh_gd h32 fun g35 h34 => ⟨20, fn_aF hf rfl rfl, ix_t g35, ⟨fn_aF hf rfl rfl, Or.inl ⟨_, hf.2 106 90 162 rfl, ⟨fn_aF hf rfl rfl, fh_gd h34 fun g37 h36 => ⟨20, fn_aF hf rfl rfl, ix_t g37, ⟨fn_aF hf rfl rfl, Or.inl ⟨_, hf.2 106 91 163 rfl, ⟨fn_aF hf rfl rfl, fh_gd h36 fun g39 h38 => ⟨20, fn_aF hf rfl rfl, ix_t g39, ⟨fn_aF hf rfl rfl, Or.inl ⟨_, hf.2 106 92 164 rfl, ⟨fn_aF hf rfl rfl, fh_gd h38 fun g41 h40 => ⟨20, fn_aF hf rfl rfl, ix_t g41, ⟨fn_aF hf rfl rfl, ⟨fn_aF hf rfl rfl, ⟨fn_aF hf rfl rfl, ⟨rfl, fh_rt h40 hQ⟩⟩⟩⟩⟩⟩⟩⟩⟩⟩⟩⟩⟩⟩⟩⟩⟩⟩⟩⟩⟩⟩⟩⟩) (fun c30 h31 => ⟨rfl, fh_rt h31 hQ⟩)⟩⟩)))))⟩⟩⟩))⟩⟩)⟩⟩)⟩)
noncomputable def G_X12_trip (n : Nat) (r : Nat → Nat → Option Nat) (as : List Value) (m : fm_) : Option (Option Value × fm_) := match as with
  | [.ref x0, .int p1, .int p2, .int p3, .int p4, .int p5] => gd_ (Nat.beq x0 106) ((f_X12_trip p1 p2 p3 p4 p5 m).map en_i)
  | _ => none
set_option maxRecDepth 100000 in
theorem gp_X12_trip {n : Nat} {r : Nat → Nat → Option Nat}  {p1 : Int32} {p2 : Int32} {p3 : Int32} {p4 : Int32} {p5 : Int32} {m : fm_} {q : Int32 × fm_}  (e : f_X12_trip p1 p2 p3 p4 p5 m = some q) : G_X12_trip n r [.ref 106, .int p1, .int p2, .int p3, .int p4, .int p5] m = some (en_i q) := by
  show (gd_ (Nat.beq 106 106) ((f_X12_trip p1 p2 p3 p4 p5 m).map en_i)) = _
  exact fn_gd rfl (fn_mp e)
set_option maxRecDepth 100000 in
theorem ok_X12_trip : am_mok 12 269 m_X12_trip = true := by decide +kernel
set_option maxRecDepth 100000 in
theorem c_X12_trip (l : Launch) {g : am_G} (hg : fx_ l g) : am_Met l g 1 269 (fn_s fn_F G_X12_trip) := by
  refine am_sound (own := 12) (M := m_X12_trip) (SP := sp_X12_trip) hg.1 (by decide +kernel) ok_X12_trip (by decide +kernel) ?_ (fun q hq hk => absurd hk (am_no61 (M := m_X12_trip) (by decide +kernel) q hq)) (fn_ext l _ rfl g 12) (Or.inl (by decide +kernel)) ?_ ?_
  · intro q hq hk
    have hm : q.2.2.2.1 ∈ am_cs m_X12_trip := am_cs_in hq hk
    rw [show am_cs m_X12_trip = [203, 203, 229] by decide +kernel] at hm
    have hm : q.2.2.2.1 ∈ [203, 229] := (List.all_eq_true.mp (show ([203, 203, 229] : List Nat).all (fun a => decide (a ∈ ([203, 229] : List Nat))) = true by decide +kernel) _ hm |> of_decide_eq_true)
    simp only [List.mem_cons, List.not_mem_nil, or_false] at hm
    rcases hm with hm | hm
    · rw [hm]; exact ⟨0, by omega, c_X12_isPoint l hg⟩
    · rw [hm]; exact ⟨0, by omega, c_X12_isSmall l hg⟩
  · intro as w K h
    obtain ⟨hf, y, m1, hG, hK⟩ := h
    unfold G_X12_trip at hG
    split at hG
    · exact Nat.le_of_ble_eq_true rfl
    · cases hG
  · intro as w K h
    obtain ⟨n, i0, l0, r⟩ := w
    obtain ⟨hf, y, m1, hG, hK⟩ := h
    unfold G_X12_trip at hG
    split at hG
    · next x0 p1 p2 p3 p4 p5 =>
      obtain ⟨hx1, hG1⟩ := gd_u hG
      obtain rfl := Nat.eq_of_beq_eq_true hx1
      obtain ⟨q, hq, he⟩ := fn_mu hG1
      obtain ⟨rfl, rfl⟩ := Prod.mk.inj he
      exact t_X12_trip  hf  p1 p2 p3 p4 p5 (m := (i0, l0)) hq hK
    · cases hG

/-! == X12_onBy == -/
noncomputable def f_X12_onBy (p1 : Int32) (p2 : Int32) (p3 : Int32) (p4 : Int32) (p5 : Int32) (m : fm_) : Option (Int32 × fm_) :=
  (gd_ (ix_ ((12 * p2) + p3) 144)
(if (gi_ m 121 (Int32.toNatClampNeg ((12 * p2) + p3))) < 1000000 then
(if p4 = 0 then
(Option.bind (f_X12_isInZone p3 m) fun q17 =>
(if q17.1 = 0 then
(gd_ (ix_ ((2 * p3) + p4) 24)
(if (gi_ q17.2 165 (Int32.toNatClampNeg ((2 * p3) + p4))) < 1000000 then
(gd_ (ix_ p1 20)
(gd_ (ix_ ((12 * p2) + p3) 144)
((some (((((gi_ q17.2 163 (Int32.toNatClampNeg p1)) * (gi_ q17.2 121 (Int32.toNatClampNeg ((12 * p2) + p3)))) + 0) + (gi_ q17.2 165 (Int32.toNatClampNeg ((2 * p3) + p4)))), q17.2)))))
else
((some (1000000, q17.2)))))
else
(gd_ (ix_ ((2 * p3) + 1) 24)
(if (gi_ q17.2 165 (Int32.toNatClampNeg ((2 * p3) + 1))) < 1000000 then
(gd_ (ix_ p1 20)
(gd_ (ix_ ((12 * p2) + p3) 144)
((some (((((gi_ q17.2 163 (Int32.toNatClampNeg p1)) * (gi_ q17.2 121 (Int32.toNatClampNeg ((12 * p2) + p3)))) + p5) + (gi_ q17.2 165 (Int32.toNatClampNeg ((2 * p3) + 1)))), q17.2)))))
else
((some (1000000, q17.2)))))))
else
(gd_ (ix_ ((2 * p3) + p4) 24)
(if (gi_ m 165 (Int32.toNatClampNeg ((2 * p3) + p4))) < 1000000 then
(gd_ (ix_ p1 20)
(gd_ (ix_ ((12 * p2) + p3) 144)
((some (((((gi_ m 163 (Int32.toNatClampNeg p1)) * (gi_ m 121 (Int32.toNatClampNeg ((12 * p2) + p3)))) + 0) + (gi_ m 165 (Int32.toNatClampNeg ((2 * p3) + p4)))), m)))))
else
((some (1000000, m))))))
else
((some (1000000, m)))))
def sp_X12_onBy : am_S := fn_sp [(204, fn_F, G_X12_isInZone)]
theorem sm_X12_onBy : am_Smono (sp_X12_onBy) := fn_sp_mono _
set_option maxRecDepth 100000 in
theorem t_X12_onBy {n : Nat} {r : Nat → Nat → Option Nat} (hf : fn_F n r) {q : Int32 × fm_} (p1 : Int32) (p2 : Int32) (p3 : Int32) (p4 : Int32) (p5 : Int32) {m : fm_}
  (h : f_X12_onBy p1 p2 p3 p4 p5 m = some q) {Q : Option Value → am_W → Prop} (hQ : Q (en_i q).1 (mk_ n r q.2)) : am_T m_X12_onBy sp_X12_onBy n Q 0 [some (.ref 106), some (.int p1), some (.int p2), some (.int p3), some (.int p4), some (.int p5), none, none] [] (mk_ n r m) :=
  am_T.wp sm_X12_onBy (K := am_T m_X12_onBy sp_X12_onBy n Q) (cuts := []) (fun _ _ _ _ h => h) 56
    (⟨fn_aF hf rfl rfl, Or.inl ⟨_, hf.2 106 28 121 rfl, fh_gd h fun g2 h1 => ⟨144, fn_aF hf rfl rfl, ix_t g2, fh_if h1 (fun c3 h4 => fh_in h4 (fun c5 h6 => ⟨fn_aF hf rfl rfl, Or.inl ⟨_, hf.2 106 93 165 rfl, ⟨fun c7 => fh_gd h6 fun g9 h8 => ⟨24, fn_aF hf rfl rfl, ix_t g9, fh_if h8 (fun c10 h11 => ⟨fn_aF hf rfl rfl, Or.inl ⟨_, hf.2 106 91 163 rfl, fh_gd h11 fun g13 h12 => ⟨20, fn_aF hf rfl rfl, ix_t g13, ⟨fn_aF hf rfl rfl, Or.inl ⟨_, hf.2 106 28 121 rfl, fh_gd h12 fun g15 h14 => ⟨144, fn_aF hf rfl rfl, ix_t g15, ⟨fun c16 => ⟨rfl, fh_rt h14 hQ⟩, fun c16 => absurd c16 (by decide)⟩⟩⟩⟩⟩⟩⟩) (fun c10 h11 => ⟨rfl, fh_rt h11 hQ⟩)⟩, fun c7 => absurd c7 (by decide)⟩⟩⟩) (fun c5 h6 => fh_bd h6 fun q17 e18 h19 => ⟨Nat.le_of_ble_eq_true rfl, fn_aF hf rfl rfl, ⟨hf, some (.int q17.1), q17.2, gp_X12_isInZone (n := n) (r := r)  e18, fun _ => fh_if h19 (fun c20 h21 => ⟨fn_aF hf rfl rfl, Or.inl ⟨_, hf.2 106 93 165 rfl, ⟨fun c22 => fh_gd h21 fun g24 h23 => ⟨24, fn_aF hf rfl rfl, ix_t g24, fh_if h23 (fun c25 h26 => ⟨fn_aF hf rfl rfl, Or.inl ⟨_, hf.2 106 91 163 rfl, fh_gd h26 fun g28 h27 => ⟨20, fn_aF hf rfl rfl, ix_t g28, ⟨fn_aF hf rfl rfl, Or.inl ⟨_, hf.2 106 28 121 rfl, fh_gd h27 fun g30 h29 => ⟨144, fn_aF hf rfl rfl, ix_t g30, ⟨fun c31 => ⟨rfl, fh_rt h29 hQ⟩, fun c31 => absurd c31 (by decide)⟩⟩⟩⟩⟩⟩⟩) (fun c25 h26 => ⟨rfl, fh_rt h26 hQ⟩)⟩, fun c22 => absurd c22 (by decide)⟩⟩⟩) (fun c20 h21 => ⟨fn_aF hf rfl rfl, Or.inl ⟨_, hf.2 106 93 165 rfl, ⟨fun c32 => absurd c32 (by decide), fun c32 => fh_gd h21 fun g34 h33 => ⟨24, fn_aF hf rfl rfl, ix_t g34, fh_if h33 (fun c35 h36 => ⟨fn_aF hf rfl rfl, Or.inl ⟨_, hf.2 106 91 163 rfl, fh_gd h36 fun g38 h37 => ⟨20, fn_aF hf rfl rfl, ix_t g38, ⟨fn_aF hf rfl rfl, Or.inl ⟨_, hf.2 106 28 121 rfl, fh_gd h37 fun g40 h39 => ⟨144, fn_aF hf rfl rfl, ix_t g40, ⟨fun c41 => absurd c41 (by decide), fun c41 => ⟨rfl, fh_rt h39 hQ⟩⟩⟩⟩⟩⟩⟩⟩) (fun c35 h36 => ⟨rfl, fh_rt h36 hQ⟩)⟩⟩⟩⟩)⟩⟩)) (fun c3 h4 => ⟨rfl, fh_rt h4 hQ⟩)⟩⟩⟩)
noncomputable def G_X12_onBy (n : Nat) (r : Nat → Nat → Option Nat) (as : List Value) (m : fm_) : Option (Option Value × fm_) := match as with
  | [.ref x0, .int p1, .int p2, .int p3, .int p4, .int p5] => gd_ (Nat.beq x0 106) ((f_X12_onBy p1 p2 p3 p4 p5 m).map en_i)
  | _ => none
set_option maxRecDepth 100000 in
theorem gp_X12_onBy {n : Nat} {r : Nat → Nat → Option Nat}  {p1 : Int32} {p2 : Int32} {p3 : Int32} {p4 : Int32} {p5 : Int32} {m : fm_} {q : Int32 × fm_}  (e : f_X12_onBy p1 p2 p3 p4 p5 m = some q) : G_X12_onBy n r [.ref 106, .int p1, .int p2, .int p3, .int p4, .int p5] m = some (en_i q) := by
  show (gd_ (Nat.beq 106 106) ((f_X12_onBy p1 p2 p3 p4 p5 m).map en_i)) = _
  exact fn_gd rfl (fn_mp e)
set_option maxRecDepth 100000 in
theorem ok_X12_onBy : am_mok 12 270 m_X12_onBy = true := by decide +kernel
set_option maxRecDepth 100000 in
theorem c_X12_onBy (l : Launch) {g : am_G} (hg : fx_ l g) : am_Met l g 1 270 (fn_s fn_F G_X12_onBy) := by
  refine am_sound (own := 12) (M := m_X12_onBy) (SP := sp_X12_onBy) hg.1 (by decide +kernel) ok_X12_onBy (by decide +kernel) ?_ (fun q hq hk => absurd hk (am_no61 (M := m_X12_onBy) (by decide +kernel) q hq)) (fn_ext l _ rfl g 12) (Or.inl (by decide +kernel)) ?_ ?_
  · intro q hq hk
    have hm : q.2.2.2.1 ∈ am_cs m_X12_onBy := am_cs_in hq hk
    rw [show am_cs m_X12_onBy = [204] by decide +kernel] at hm
    have hm : q.2.2.2.1 ∈ [204] := (List.all_eq_true.mp (show ([204] : List Nat).all (fun a => decide (a ∈ ([204] : List Nat))) = true by decide +kernel) _ hm |> of_decide_eq_true)
    simp only [List.mem_cons, List.not_mem_nil, or_false] at hm
    rcases hm with hm
    · rw [hm]; exact ⟨0, by omega, c_X12_isInZone l hg⟩
  · intro as w K h
    obtain ⟨hf, y, m1, hG, hK⟩ := h
    unfold G_X12_onBy at hG
    split at hG
    · exact Nat.le_of_ble_eq_true rfl
    · cases hG
  · intro as w K h
    obtain ⟨n, i0, l0, r⟩ := w
    obtain ⟨hf, y, m1, hG, hK⟩ := h
    unfold G_X12_onBy at hG
    split at hG
    · next x0 p1 p2 p3 p4 p5 =>
      obtain ⟨hx1, hG1⟩ := gd_u hG
      obtain rfl := Nat.eq_of_beq_eq_true hx1
      obtain ⟨q, hq, he⟩ := fn_mu hG1
      obtain ⟨rfl, rfl⟩ := Prod.mk.inj he
      exact t_X12_onBy  hf  p1 p2 p3 p4 p5 (m := (i0, l0)) hq hK
    · cases hG

/-! == X12_travel == -/
abbrev S_X12_travel : Type := (Int32 × Int32 × Int32 × fm_) ⊕ (Int32 × Int32 × Int32 × fm_) ⊕ (Int32 × Int32 × Int32 × Int32 × fm_) ⊕ (Int32 × Int32 × Int32 × Int32 × Int32 × fm_) ⊕ (Int32 × Int32 × Int32 × Int32 × Int32 × fm_) ⊕ (Int32 × Int32 × Int32 × Int32 × Int32 × Int32 × fm_)
noncomputable def st_X12_travel (s : S_X12_travel) : Option (S_X12_travel ⊕ (Int32 × fm_)) := match s with
  | Sum.inl ((x1, x2, x3, m)) =>
    (if 24 ≤ x3 then
((some (Sum.inl (Sum.inr (Sum.inl ((x1, x2, 1, m)))))))
else
(gd_ (ix_ x1 20)
(if (x3 / 2) = (gi_ m 161 (Int32.toNatClampNeg x1)) then
(gd_ (ix_ x3 24)
((some (Sum.inl (Sum.inl ((x1, x2, (x3 + 1), (si_ m 165 (Int32.toNatClampNeg x3) 0))))))))
else
(gd_ (ix_ x3 24)
((some (Sum.inl (Sum.inl ((x1, x2, (x3 + 1), (si_ m 165 (Int32.toNatClampNeg x3) 1000000)))))))))))
  | Sum.inr (Sum.inl ((x1, x2, x3, m))) =>
    (if x3 = 0 then
(gd_ (ix_ x1 20)
(Option.bind (f_X12_isInZone (gi_ m 160 (Int32.toNatClampNeg x1)) m) fun q5 =>
(if q5.1 = 0 then
(gd_ (ix_ 0 13)
((some (Sum.inl (Sum.inr (Sum.inr (Sum.inr (Sum.inr (Sum.inl ((x1, x2, x3, (gi_ m 160 (Int32.toNatClampNeg x1)), 0, (si_ (si_ q5.2 166 (Int32.toNatClampNeg 0) (gi_ m 160 (Int32.toNatClampNeg x1))) 106 95 1))))))))))))
else
(gd_ (ix_ 0 13)
((some (Sum.inl (Sum.inr (Sum.inr (Sum.inr (Sum.inr (Sum.inl ((x1, x2, x3, (gi_ m 160 (Int32.toNatClampNeg x1)), 1, (si_ (si_ q5.2 166 (Int32.toNatClampNeg 0) (gi_ m 160 (Int32.toNatClampNeg x1))) 106 95 1)))))))))))))))
else
((some (Sum.inl (Sum.inr (Sum.inr (Sum.inl ((x1, x2, 0, 0, m)))))))))
  | Sum.inr (Sum.inr (Sum.inl ((x1, x2, x3, x4, m)))) =>
    (if 24 ≤ x4 then
((some (Sum.inl (Sum.inr (Sum.inl ((x1, x2, x3, m)))))))
else
((some (Sum.inl (Sum.inr (Sum.inr (Sum.inr (Sum.inl ((x1, x2, x3, x4, 0, m))))))))))
  | Sum.inr (Sum.inr (Sum.inr (Sum.inl ((x1, x2, x3, x4, x5, m))))) =>
    (if 12 ≤ x5 then
((some (Sum.inl (Sum.inr (Sum.inr (Sum.inl ((x1, x2, x3, (x4 + 1), m))))))))
else
(Option.bind (f_X12_onBy x1 (x4 / 2) x5 (x4 - x4 / 2 * 2) x2 m) fun q3 =>
(gd_ (ix_ x4 24)
(if q3.1 < (gi_ q3.2 165 (Int32.toNatClampNeg x4)) then
(gd_ (ix_ x4 24)
((some (Sum.inl (Sum.inr (Sum.inr (Sum.inr (Sum.inl ((x1, x2, 1, x4, (x5 + 1), (si_ q3.2 165 (Int32.toNatClampNeg x4) q3.1)))))))))))
else
((some (Sum.inl (Sum.inr (Sum.inr (Sum.inr (Sum.inl ((x1, x2, x3, x4, (x5 + 1), q3.2)))))))))))))
  | Sum.inr (Sum.inr (Sum.inr (Sum.inr (Sum.inl ((x1, x2, x3, x4, x5, m)))))) =>
    (gd_ (ix_ x1 20)
(if x4 = (gi_ m 161 (Int32.toNatClampNeg x1)) then
((some (Sum.inr (0, m))))
else
((some (Sum.inl (Sum.inr (Sum.inr (Sum.inr (Sum.inr (Sum.inr ((x1, x2, x3, x4, x5, 0, m))))))))))))
  | Sum.inr (Sum.inr (Sum.inr (Sum.inr (Sum.inr ((x1, x2, x3, x4, x5, x6, m)))))) =>
    (Option.bind (f_X12_onBy x1 x4 x6 x5 x2 m) fun q1 =>
(gd_ (ix_ ((2 * x4) + x5) 24)
(if q1.1 = (gi_ q1.2 165 (Int32.toNatClampNeg ((2 * x4) + x5))) then
(Option.bind (f_X12_isInZone x6 q1.2) fun q8 =>
(if q8.1 = 0 then
(gd_ (ix_ (gi_ q8.2 106 95) 13)
((some (Sum.inl (Sum.inr (Sum.inr (Sum.inr (Sum.inr (Sum.inl ((x1, x2, x3, x6, x5, (si_ (si_ q8.2 166 (Int32.toNatClampNeg (gi_ q8.2 106 95)) x6) 106 95 ((gi_ q8.2 106 95) + 1)))))))))))))
else
(gd_ (ix_ (gi_ q8.2 106 95) 13)
((some (Sum.inl (Sum.inr (Sum.inr (Sum.inr (Sum.inr (Sum.inl ((x1, x2, x3, x6, 1, (si_ (si_ q8.2 166 (Int32.toNatClampNeg (gi_ q8.2 106 95)) x6) 106 95 ((gi_ q8.2 106 95) + 1)))))))))))))))
else
((some (Sum.inl (Sum.inr (Sum.inr (Sum.inr (Sum.inr (Sum.inr ((x1, x2, x3, x4, x5, (x6 + 1), q1.2)))))))))))))
noncomputable def f_X12_travel_2 (x1 : Int32) (x2 : Int32) (x3 : Int32) (m : fm_) : Option (Int32 × fm_) := am_lp (st_X12_travel) (Sum.inl ((x1, x2, x3, m)))
noncomputable def f_X12_travel_41 (x1 : Int32) (x2 : Int32) (x3 : Int32) (m : fm_) : Option (Int32 × fm_) := am_lp (st_X12_travel) (Sum.inr (Sum.inl ((x1, x2, x3, m))))
noncomputable def f_X12_travel_50 (x1 : Int32) (x2 : Int32) (x3 : Int32) (x4 : Int32) (m : fm_) : Option (Int32 × fm_) := am_lp (st_X12_travel) (Sum.inr (Sum.inr (Sum.inl ((x1, x2, x3, x4, m)))))
noncomputable def f_X12_travel_60 (x1 : Int32) (x2 : Int32) (x3 : Int32) (x4 : Int32) (x5 : Int32) (m : fm_) : Option (Int32 × fm_) := am_lp (st_X12_travel) (Sum.inr (Sum.inr (Sum.inr (Sum.inl ((x1, x2, x3, x4, x5, m))))))
noncomputable def f_X12_travel_163 (x1 : Int32) (x2 : Int32) (x3 : Int32) (x4 : Int32) (x5 : Int32) (m : fm_) : Option (Int32 × fm_) := am_lp (st_X12_travel) (Sum.inr (Sum.inr (Sum.inr (Sum.inr (Sum.inl ((x1, x2, x3, x4, x5, m)))))))
noncomputable def f_X12_travel_177 (x1 : Int32) (x2 : Int32) (x3 : Int32) (x4 : Int32) (x5 : Int32) (x6 : Int32) (m : fm_) : Option (Int32 × fm_) := am_lp (st_X12_travel) (Sum.inr (Sum.inr (Sum.inr (Sum.inr (Sum.inr ((x1, x2, x3, x4, x5, x6, m)))))))
theorem e_X12_travel_2 (x1 : Int32) (x2 : Int32) (x3 : Int32) (m : fm_) : f_X12_travel_2 x1 x2 x3 m =
(if 24 ≤ x3 then
((f_X12_travel_41 x1 x2 1 m))
else
(gd_ (ix_ x1 20)
(if (x3 / 2) = (gi_ m 161 (Int32.toNatClampNeg x1)) then
(gd_ (ix_ x3 24)
((f_X12_travel_2 x1 x2 (x3 + 1) (si_ m 165 (Int32.toNatClampNeg x3) 0))))
else
(gd_ (ix_ x3 24)
((f_X12_travel_2 x1 x2 (x3 + 1) (si_ m 165 (Int32.toNatClampNeg x3) 1000000))))))) :=
  (am_lp_eq _ _).trans (fe_if (rfl) (fe_gd (fe_if (fe_gd (rfl)) (fe_gd (rfl)))))
theorem e_X12_travel_41 (x1 : Int32) (x2 : Int32) (x3 : Int32) (m : fm_) : f_X12_travel_41 x1 x2 x3 m =
(if x3 = 0 then
(gd_ (ix_ x1 20)
(Option.bind (f_X12_isInZone (gi_ m 160 (Int32.toNatClampNeg x1)) m) fun q5 =>
(if q5.1 = 0 then
(gd_ (ix_ 0 13)
((f_X12_travel_163 x1 x2 x3 (gi_ m 160 (Int32.toNatClampNeg x1)) 0 (si_ (si_ q5.2 166 (Int32.toNatClampNeg 0) (gi_ m 160 (Int32.toNatClampNeg x1))) 106 95 1))))
else
(gd_ (ix_ 0 13)
((f_X12_travel_163 x1 x2 x3 (gi_ m 160 (Int32.toNatClampNeg x1)) 1 (si_ (si_ q5.2 166 (Int32.toNatClampNeg 0) (gi_ m 160 (Int32.toNatClampNeg x1))) 106 95 1)))))))
else
((f_X12_travel_50 x1 x2 0 0 m))) :=
  (am_lp_eq _ _).trans (fe_if (fe_gd (fe_bd fun q5 => (fe_if (fe_gd (rfl)) (fe_gd (rfl))))) (rfl))
theorem e_X12_travel_50 (x1 : Int32) (x2 : Int32) (x3 : Int32) (x4 : Int32) (m : fm_) : f_X12_travel_50 x1 x2 x3 x4 m =
(if 24 ≤ x4 then
((f_X12_travel_41 x1 x2 x3 m))
else
((f_X12_travel_60 x1 x2 x3 x4 0 m))) :=
  (am_lp_eq _ _).trans (fe_if (rfl) (rfl))
theorem e_X12_travel_60 (x1 : Int32) (x2 : Int32) (x3 : Int32) (x4 : Int32) (x5 : Int32) (m : fm_) : f_X12_travel_60 x1 x2 x3 x4 x5 m =
(if 12 ≤ x5 then
((f_X12_travel_50 x1 x2 x3 (x4 + 1) m))
else
(Option.bind (f_X12_onBy x1 (x4 / 2) x5 (x4 - x4 / 2 * 2) x2 m) fun q3 =>
(gd_ (ix_ x4 24)
(if q3.1 < (gi_ q3.2 165 (Int32.toNatClampNeg x4)) then
(gd_ (ix_ x4 24)
((f_X12_travel_60 x1 x2 1 x4 (x5 + 1) (si_ q3.2 165 (Int32.toNatClampNeg x4) q3.1))))
else
((f_X12_travel_60 x1 x2 x3 x4 (x5 + 1) q3.2)))))) :=
  (am_lp_eq _ _).trans (fe_if (rfl) (fe_bd fun q3 => (fe_gd (fe_if (fe_gd (rfl)) (rfl)))))
theorem e_X12_travel_163 (x1 : Int32) (x2 : Int32) (x3 : Int32) (x4 : Int32) (x5 : Int32) (m : fm_) : f_X12_travel_163 x1 x2 x3 x4 x5 m =
(gd_ (ix_ x1 20)
(if x4 = (gi_ m 161 (Int32.toNatClampNeg x1)) then
((some (0, m)))
else
((f_X12_travel_177 x1 x2 x3 x4 x5 0 m)))) :=
  (am_lp_eq _ _).trans (fe_gd (fe_if (rfl) (rfl)))
theorem e_X12_travel_177 (x1 : Int32) (x2 : Int32) (x3 : Int32) (x4 : Int32) (x5 : Int32) (x6 : Int32) (m : fm_) : f_X12_travel_177 x1 x2 x3 x4 x5 x6 m =
(Option.bind (f_X12_onBy x1 x4 x6 x5 x2 m) fun q1 =>
(gd_ (ix_ ((2 * x4) + x5) 24)
(if q1.1 = (gi_ q1.2 165 (Int32.toNatClampNeg ((2 * x4) + x5))) then
(Option.bind (f_X12_isInZone x6 q1.2) fun q8 =>
(if q8.1 = 0 then
(gd_ (ix_ (gi_ q8.2 106 95) 13)
((f_X12_travel_163 x1 x2 x3 x6 x5 (si_ (si_ q8.2 166 (Int32.toNatClampNeg (gi_ q8.2 106 95)) x6) 106 95 ((gi_ q8.2 106 95) + 1)))))
else
(gd_ (ix_ (gi_ q8.2 106 95) 13)
((f_X12_travel_163 x1 x2 x3 x6 1 (si_ (si_ q8.2 166 (Int32.toNatClampNeg (gi_ q8.2 106 95)) x6) 106 95 ((gi_ q8.2 106 95) + 1)))))))
else
((f_X12_travel_177 x1 x2 x3 x4 x5 (x6 + 1) q1.2))))) :=
  (am_lp_eq _ _).trans (fe_bd fun q1 => (fe_gd (fe_if (fe_bd fun q8 => (fe_if (fe_gd (rfl)) (fe_gd (rfl)))) (rfl))))
noncomputable def f_X12_travel (p1 : Int32) (p2 : Int32) (m : fm_) : Option (Int32 × fm_) :=
  ((f_X12_travel_2 p1 p2 0 m))
def sp_X12_travel : am_S := fn_sp [(270, fn_F, G_X12_onBy), (204, fn_F, G_X12_isInZone)]
theorem sm_X12_travel : am_Smono (sp_X12_travel) := fn_sp_mono _
def P_X12_travel (n : Nat) (r : Nat → Nat → Option Nat) (s : S_X12_travel) (q : Int32 × fm_) : Prop := match s with
  | Sum.inl ((x1, x2, x3, m)) => ∀ (Q : Option Value → am_W → Prop), Q (en_v q).1 (mk_ n r q.2) → am_T m_X12_travel sp_X12_travel n Q 2 [some (.ref 106), some (.int x1), some (.int x2), some (.int x3), none, none, none] [] (mk_ n r m)
  | Sum.inr (Sum.inl ((x1, x2, x3, m))) => ∀ (Q : Option Value → am_W → Prop) (y4 : Option Value) (y5 : Option Value) (y6 : Option Value), Q (en_v q).1 (mk_ n r q.2) → am_T m_X12_travel sp_X12_travel n Q 41 [some (.ref 106), some (.int x1), some (.int x2), some (.int x3), y4, y5, y6] [] (mk_ n r m)
  | Sum.inr (Sum.inr (Sum.inl ((x1, x2, x3, x4, m)))) => ∀ (Q : Option Value → am_W → Prop) (y5 : Option Value) (y6 : Option Value), Q (en_v q).1 (mk_ n r q.2) → am_T m_X12_travel sp_X12_travel n Q 50 [some (.ref 106), some (.int x1), some (.int x2), some (.int x3), some (.int x4), y5, y6] [] (mk_ n r m)
  | Sum.inr (Sum.inr (Sum.inr (Sum.inl ((x1, x2, x3, x4, x5, m))))) => ∀ (Q : Option Value → am_W → Prop) (y6 : Option Value), Q (en_v q).1 (mk_ n r q.2) → am_T m_X12_travel sp_X12_travel n Q 60 [some (.ref 106), some (.int x1), some (.int x2), some (.int x3), some (.int x4), some (.int x5), y6] [] (mk_ n r m)
  | Sum.inr (Sum.inr (Sum.inr (Sum.inr (Sum.inl ((x1, x2, x3, x4, x5, m)))))) => ∀ (Q : Option Value → am_W → Prop) (y6 : Option Value), Q (en_v q).1 (mk_ n r q.2) → am_T m_X12_travel sp_X12_travel n Q 163 [some (.ref 106), some (.int x1), some (.int x2), some (.int x3), some (.int x4), some (.int x5), y6] [] (mk_ n r m)
  | Sum.inr (Sum.inr (Sum.inr (Sum.inr (Sum.inr ((x1, x2, x3, x4, x5, x6, m)))))) => ∀ (Q : Option Value → am_W → Prop), Q (en_v q).1 (mk_ n r q.2) → am_T m_X12_travel sp_X12_travel n Q 177 [some (.ref 106), some (.int x1), some (.int x2), some (.int x3), some (.int x4), some (.int x5), some (.int x6)] [] (mk_ n r m)
set_option maxRecDepth 100000 in
theorem t_X12_travel_2 {n : Nat} {r : Nat → Nat → Option Nat} (hf : fn_F n r) {K : S_X12_travel → Option (Int32 × fm_)} {q : Int32 × fm_} (hK : ∀ s, K s = some q → P_X12_travel n r s q) (x1 : Int32) (x2 : Int32) (x3 : Int32) (m : fm_)
  (h : am_k K (st_X12_travel (Sum.inl ((x1, x2, x3, m)))) = some q) : P_X12_travel n r (Sum.inl ((x1, x2, x3, m))) q := fun Q hQ =>
  am_T.wp sm_X12_travel (K := am_T m_X12_travel sp_X12_travel n Q) (cuts := [2, 41, 50, 60, 163, 177]) (fun _ _ _ _ h => h) 21
    (fj_if h (fun c1 h2 => hK _ h2 _ _ _ _ hQ) (fun c1 h2 => ⟨fn_aF hf rfl rfl, Or.inl ⟨_, hf.2 106 93 165 rfl, ⟨by decide, ⟨fn_aF hf rfl rfl, Or.inl ⟨_, hf.2 106 89 161 rfl, fj_gd h2 fun g4 h3 => ⟨20, fn_aF hf rfl rfl, ix_t g4, fj_in h3 (fun c5 h6 => fj_gd h6 fun g8 h7 => ⟨24, fn_aF hf rfl rfl, ix_t g8, hK _ h7 _ hQ⟩) (fun c5 h6 => fj_gd h6 fun g10 h9 => ⟨24, fn_aF hf rfl rfl, ix_t g10, hK _ h9 _ hQ⟩)⟩⟩⟩⟩⟩⟩))
set_option maxRecDepth 100000 in
theorem t_X12_travel_41 {n : Nat} {r : Nat → Nat → Option Nat} (hf : fn_F n r) {K : S_X12_travel → Option (Int32 × fm_)} {q : Int32 × fm_} (hK : ∀ s, K s = some q → P_X12_travel n r s q) (x1 : Int32) (x2 : Int32) (x3 : Int32) (m : fm_)
  (h : am_k K (st_X12_travel (Sum.inr (Sum.inl ((x1, x2, x3, m))))) = some q) : P_X12_travel n r (Sum.inr (Sum.inl ((x1, x2, x3, m)))) q := fun Q y4 y5 y6 hQ =>
  am_T.wp sm_X12_travel (K := am_T m_X12_travel sp_X12_travel n Q) (cuts := [2, 41, 50, 60, 163, 177]) (fun _ _ _ _ h => h) 24
    (fj_if h (fun c1 h2 => ⟨fn_aF hf rfl rfl, Or.inl ⟨_, hf.2 106 88 160 rfl, fj_gd h2 fun g4 h3 => ⟨20, fn_aF hf rfl rfl, ix_t g4, fj_bd h3 fun q5 e6 h7 => ⟨Nat.le_of_ble_eq_true rfl, fn_aF hf rfl rfl, ⟨hf, some (.int q5.1), q5.2, gp_X12_isInZone (n := n) (r := r)  e6, fun _ => fj_if h7 (fun c8 h9 => ⟨fn_aF hf rfl rfl, Or.inl ⟨_, hf.2 106 94 166 rfl, fj_gd h9 fun g11 h10 => ⟨13, fn_aF hf rfl rfl, ix_t g11, ⟨fn_aF hf rfl rfl, hK _ h10 _ _ hQ⟩⟩⟩⟩) (fun c8 h9 => ⟨fn_aF hf rfl rfl, Or.inl ⟨_, hf.2 106 94 166 rfl, fj_gd h9 fun g13 h12 => ⟨13, fn_aF hf rfl rfl, ix_t g13, ⟨fn_aF hf rfl rfl, hK _ h12 _ _ hQ⟩⟩⟩⟩)⟩⟩⟩⟩⟩) (fun c1 h2 => hK _ h2 _ _ _ hQ))
set_option maxRecDepth 100000 in
theorem t_X12_travel_50 {n : Nat} {r : Nat → Nat → Option Nat} (hf : fn_F n r) {K : S_X12_travel → Option (Int32 × fm_)} {q : Int32 × fm_} (hK : ∀ s, K s = some q → P_X12_travel n r s q) (x1 : Int32) (x2 : Int32) (x3 : Int32) (x4 : Int32) (m : fm_)
  (h : am_k K (st_X12_travel (Sum.inr (Sum.inr (Sum.inl ((x1, x2, x3, x4, m)))))) = some q) : P_X12_travel n r (Sum.inr (Sum.inr (Sum.inl ((x1, x2, x3, x4, m))))) q := fun Q y5 y6 hQ =>
  am_T.wp sm_X12_travel (K := am_T m_X12_travel sp_X12_travel n Q) (cuts := [2, 41, 50, 60, 163, 177]) (fun _ _ _ _ h => h) 7
    (fj_if h (fun c1 h2 => hK _ h2 _ _ _ _ hQ) (fun c1 h2 => hK _ h2 _ _ hQ))
set_option maxRecDepth 100000 in
theorem t_X12_travel_60 {n : Nat} {r : Nat → Nat → Option Nat} (hf : fn_F n r) {K : S_X12_travel → Option (Int32 × fm_)} {q : Int32 × fm_} (hK : ∀ s, K s = some q → P_X12_travel n r s q) (x1 : Int32) (x2 : Int32) (x3 : Int32) (x4 : Int32) (x5 : Int32) (m : fm_)
  (h : am_k K (st_X12_travel (Sum.inr (Sum.inr (Sum.inr (Sum.inl ((x1, x2, x3, x4, x5, m))))))) = some q) : P_X12_travel n r (Sum.inr (Sum.inr (Sum.inr (Sum.inl ((x1, x2, x3, x4, x5, m)))))) q := fun Q y6 hQ =>
  am_T.wp sm_X12_travel (K := am_T m_X12_travel sp_X12_travel n Q) (cuts := [2, 41, 50, 60, 163, 177]) (fun _ _ _ _ h => h) 32
    (fj_if h (fun c1 h2 => hK _ h2 _ _ _ hQ) (fun c1 h2 => ⟨by decide, ⟨by decide, fj_bd h2 fun q3 e4 h5 => ⟨Nat.le_of_ble_eq_true rfl, fn_aF hf rfl rfl, ⟨hf, some (.int q3.1), q3.2, gp_X12_onBy (n := n) (r := r)  e4, fun _ => ⟨fn_aF hf rfl rfl, Or.inl ⟨_, hf.2 106 93 165 rfl, fj_gd h5 fun g7 h6 => ⟨24, fn_aF hf rfl rfl, ix_t g7, fj_if h6 (fun c8 h9 => ⟨fn_aF hf rfl rfl, Or.inl ⟨_, hf.2 106 93 165 rfl, fj_gd h9 fun g11 h10 => ⟨24, fn_aF hf rfl rfl, ix_t g11, hK _ h10 _ _ hQ⟩⟩⟩) (fun c8 h9 => hK _ h9 _ _ hQ)⟩⟩⟩⟩⟩⟩⟩))
set_option maxRecDepth 100000 in
theorem t_X12_travel_163 {n : Nat} {r : Nat → Nat → Option Nat} (hf : fn_F n r) {K : S_X12_travel → Option (Int32 × fm_)} {q : Int32 × fm_} (hK : ∀ s, K s = some q → P_X12_travel n r s q) (x1 : Int32) (x2 : Int32) (x3 : Int32) (x4 : Int32) (x5 : Int32) (m : fm_)
  (h : am_k K (st_X12_travel (Sum.inr (Sum.inr (Sum.inr (Sum.inr (Sum.inl ((x1, x2, x3, x4, x5, m)))))))) = some q) : P_X12_travel n r (Sum.inr (Sum.inr (Sum.inr (Sum.inr (Sum.inl ((x1, x2, x3, x4, x5, m))))))) q := fun Q y6 hQ =>
  am_T.wp sm_X12_travel (K := am_T m_X12_travel sp_X12_travel n Q) (cuts := [2, 41, 50, 60, 163, 177]) (fun _ _ _ _ h => h) 10
    (⟨fn_aF hf rfl rfl, Or.inl ⟨_, hf.2 106 89 161 rfl, fj_gd h fun g2 h1 => ⟨20, fn_aF hf rfl rfl, ix_t g2, fj_if h1 (fun c3 h4 => ⟨rfl, fj_rt h4 hQ⟩) (fun c3 h4 => hK _ h4 _ hQ)⟩⟩⟩)
set_option maxRecDepth 100000 in
theorem t_X12_travel_177 {n : Nat} {r : Nat → Nat → Option Nat} (hf : fn_F n r) {K : S_X12_travel → Option (Int32 × fm_)} {q : Int32 × fm_} (hK : ∀ s, K s = some q → P_X12_travel n r s q) (x1 : Int32) (x2 : Int32) (x3 : Int32) (x4 : Int32) (x5 : Int32) (x6 : Int32) (m : fm_)
  (h : am_k K (st_X12_travel (Sum.inr (Sum.inr (Sum.inr (Sum.inr (Sum.inr ((x1, x2, x3, x4, x5, x6, m)))))))) = some q) : P_X12_travel n r (Sum.inr (Sum.inr (Sum.inr (Sum.inr (Sum.inr ((x1, x2, x3, x4, x5, x6, m))))))) q := fun Q hQ =>
  am_T.wp sm_X12_travel (K := am_T m_X12_travel sp_X12_travel n Q) (cuts := [2, 41, 50, 60, 163, 177]) (fun _ _ _ _ h => h) 40
    (fj_bd h fun q1 e2 h3 => ⟨Nat.le_of_ble_eq_true rfl, fn_aF hf rfl rfl, ⟨hf, some (.int q1.1), q1.2, gp_X12_onBy (n := n) (r := r)  e2, fun _ => ⟨fn_aF hf rfl rfl, Or.inl ⟨_, hf.2 106 93 165 rfl, fj_gd h3 fun g5 h4 => ⟨24, fn_aF hf rfl rfl, ix_t g5, fj_if h4 (fun c6 h7 => fj_bd h7 fun q8 e9 h10 => ⟨Nat.le_of_ble_eq_true rfl, fn_aF hf rfl rfl, ⟨hf, some (.int q8.1), q8.2, gp_X12_isInZone (n := n) (r := r)  e9, fun _ => fj_if h10 (fun c11 h12 => ⟨fn_aF hf rfl rfl, Or.inl ⟨_, hf.2 106 94 166 rfl, ⟨fn_aF hf rfl rfl, fj_gd h12 fun g14 h13 => ⟨13, fn_aF hf rfl rfl, ix_t g14, ⟨fn_aF hf rfl rfl, ⟨fn_aF hf rfl rfl, hK _ h13 _ _ hQ⟩⟩⟩⟩⟩⟩) (fun c11 h12 => ⟨fn_aF hf rfl rfl, Or.inl ⟨_, hf.2 106 94 166 rfl, ⟨fn_aF hf rfl rfl, fj_gd h12 fun g16 h15 => ⟨13, fn_aF hf rfl rfl, ix_t g16, ⟨fn_aF hf rfl rfl, ⟨fn_aF hf rfl rfl, hK _ h15 _ _ hQ⟩⟩⟩⟩⟩⟩)⟩⟩) (fun c6 h7 => hK _ h7 _ hQ)⟩⟩⟩⟩⟩)
theorem l_X12_travel {n : Nat} {r : Nat → Nat → Option Nat} (hf : fn_F n r) (s : S_X12_travel) (q : Int32 × fm_) (h : am_lp (st_X12_travel) s = some q) : P_X12_travel n r s q :=
  am_lp_snd (P := P_X12_travel n r) (fun K hK s q h => match s, h with
    | Sum.inl ((x1, x2, x3, m)), h => t_X12_travel_2 hf (fun s => hK s q) x1 x2 x3 m h
    | Sum.inr (Sum.inl ((x1, x2, x3, m))), h => t_X12_travel_41 hf (fun s => hK s q) x1 x2 x3 m h
    | Sum.inr (Sum.inr (Sum.inl ((x1, x2, x3, x4, m)))), h => t_X12_travel_50 hf (fun s => hK s q) x1 x2 x3 x4 m h
    | Sum.inr (Sum.inr (Sum.inr (Sum.inl ((x1, x2, x3, x4, x5, m))))), h => t_X12_travel_60 hf (fun s => hK s q) x1 x2 x3 x4 x5 m h
    | Sum.inr (Sum.inr (Sum.inr (Sum.inr (Sum.inl ((x1, x2, x3, x4, x5, m)))))), h => t_X12_travel_163 hf (fun s => hK s q) x1 x2 x3 x4 x5 m h
    | Sum.inr (Sum.inr (Sum.inr (Sum.inr (Sum.inr ((x1, x2, x3, x4, x5, x6, m)))))), h => t_X12_travel_177 hf (fun s => hK s q) x1 x2 x3 x4 x5 x6 m h) s q h
set_option maxRecDepth 100000 in
theorem t_X12_travel {n : Nat} {r : Nat → Nat → Option Nat} (hf : fn_F n r) {q : Int32 × fm_} (p1 : Int32) (p2 : Int32) {m : fm_}
  (h : f_X12_travel p1 p2 m = some q) {Q : Option Value → am_W → Prop} (hQ : Q (en_v q).1 (mk_ n r q.2)) : am_T m_X12_travel sp_X12_travel n Q 0 [some (.ref 106), some (.int p1), some (.int p2), none, none, none, none] [] (mk_ n r m) :=
  am_T.wp sm_X12_travel (K := am_T m_X12_travel sp_X12_travel n Q) (cuts := [2, 41, 50, 60, 163, 177]) (fun _ _ _ _ h => h) 4
    (l_X12_travel hf _ _ h _ hQ)
noncomputable def G_X12_travel (n : Nat) (r : Nat → Nat → Option Nat) (as : List Value) (m : fm_) : Option (Option Value × fm_) := match as with
  | [.ref x0, .int p1, .int p2] => gd_ (Nat.beq x0 106) ((f_X12_travel p1 p2 m).map en_v)
  | _ => none
set_option maxRecDepth 100000 in
theorem gp_X12_travel {n : Nat} {r : Nat → Nat → Option Nat}  {p1 : Int32} {p2 : Int32} {m : fm_} {q : Int32 × fm_}  (e : f_X12_travel p1 p2 m = some q) : G_X12_travel n r [.ref 106, .int p1, .int p2] m = some (en_v q) := by
  show (gd_ (Nat.beq 106 106) ((f_X12_travel p1 p2 m).map en_v)) = _
  exact fn_gd rfl (fn_mp e)
set_option maxRecDepth 100000 in
theorem ok_X12_travel : am_mok 12 271 m_X12_travel = true := by decide +kernel
set_option maxRecDepth 100000 in
theorem c_X12_travel (l : Launch) {g : am_G} (hg : fx_ l g) : am_Met l g 2 271 (fn_s fn_F G_X12_travel) := by
  refine am_sound (own := 12) (M := m_X12_travel) (SP := sp_X12_travel) hg.1 (by decide +kernel) ok_X12_travel (by decide +kernel) ?_ (fun q hq hk => absurd hk (am_no61 (M := m_X12_travel) (by decide +kernel) q hq)) (fn_ext l _ rfl g 12) (Or.inl (by decide +kernel)) ?_ ?_
  · intro q hq hk
    have hm : q.2.2.2.1 ∈ am_cs m_X12_travel := am_cs_in hq hk
    rw [show am_cs m_X12_travel = [270, 204, 270, 204] by decide +kernel] at hm
    have hm : q.2.2.2.1 ∈ [204, 270] := (List.all_eq_true.mp (show ([270, 204, 270, 204] : List Nat).all (fun a => decide (a ∈ ([204, 270] : List Nat))) = true by decide +kernel) _ hm |> of_decide_eq_true)
    simp only [List.mem_cons, List.not_mem_nil, or_false] at hm
    rcases hm with hm | hm
    · rw [hm]; exact ⟨0, by omega, c_X12_isInZone l hg⟩
    · rw [hm]; exact ⟨1, by omega, c_X12_onBy l hg⟩
  · intro as w K h
    obtain ⟨hf, y, m1, hG, hK⟩ := h
    unfold G_X12_travel at hG
    split at hG
    · exact Nat.le_of_ble_eq_true rfl
    · cases hG
  · intro as w K h
    obtain ⟨n, i0, l0, r⟩ := w
    obtain ⟨hf, y, m1, hG, hK⟩ := h
    unfold G_X12_travel at hG
    split at hG
    · next x0 p1 p2 =>
      obtain ⟨hx1, hG1⟩ := gd_u hG
      obtain rfl := Nat.eq_of_beq_eq_true hx1
      obtain ⟨q, hq, he⟩ := fn_mu hG1
      obtain ⟨rfl, rfl⟩ := Prod.mk.inj he
      exact t_X12_travel  hf  p1 p2 (m := (i0, l0)) hq hK
    · cases hG

