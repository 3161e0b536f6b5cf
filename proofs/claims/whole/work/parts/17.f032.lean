/-! == X12_price == -/
abbrev S_X12_price : Type := (Int32 × Int32 × Int32 × Int32 × fm_)
noncomputable def st_X12_price (s : S_X12_price) : Option (S_X12_price ⊕ (Int32 × fm_)) := match s with
  | (x1, x2, x3, x4, m) =>
    (if 6 ≤ x4 then
(if x3 ≤ 2 then
((some (Sum.inr (x3, m))))
else
((some (Sum.inr (9, m)))))
else
(gd_ (ix_ x1 200)
(Option.bind (f_X12_signAt (gl_ m 139 (Int32.toNatClampNeg x1)) x4 m) fun q7 =>
(gd_ (ix_ x2 10)
(Option.bind (f_X12_signAt (gl_ q7.2 138 (Int32.toNatClampNeg x2)) x4 q7.2) fun q12 =>
(if q7.1 = q12.1 then
((some (Sum.inl ((x1, x2, (x3 + 0), (x4 + 1), q12.2)))))
else
(if q7.1 = 63 then
((some (Sum.inl ((x1, x2, (x3 + 1), (x4 + 1), q12.2)))))
else
(Option.bind (f_X12_looks q7.1 q12.2) fun q19 =>
(Option.bind (f_X12_looks q12.1 q19.2) fun q22 =>
(if q19.1 = q22.1 then
((some (Sum.inl ((x1, x2, (x3 + 1), (x4 + 1), q22.2)))))
else
((some (Sum.inl ((x1, x2, (x3 + 3), (x4 + 1), q22.2)))))))))))))))
noncomputable def f_X12_price_5 (x1 : Int32) (x2 : Int32) (x3 : Int32) (x4 : Int32) (m : fm_) : Option (Int32 × fm_) := am_lp (st_X12_price) ((x1, x2, x3, x4, m))
theorem e_X12_price_5 (x1 : Int32) (x2 : Int32) (x3 : Int32) (x4 : Int32) (m : fm_) : f_X12_price_5 x1 x2 x3 x4 m =
(if 6 ≤ x4 then
(if x3 ≤ 2 then
((some (x3, m)))
else
((some (9, m))))
else
(gd_ (ix_ x1 200)
(Option.bind (f_X12_signAt (gl_ m 139 (Int32.toNatClampNeg x1)) x4 m) fun q7 =>
(gd_ (ix_ x2 10)
(Option.bind (f_X12_signAt (gl_ q7.2 138 (Int32.toNatClampNeg x2)) x4 q7.2) fun q12 =>
(if q7.1 = q12.1 then
((f_X12_price_5 x1 x2 (x3 + 0) (x4 + 1) q12.2))
else
(if q7.1 = 63 then
((f_X12_price_5 x1 x2 (x3 + 1) (x4 + 1) q12.2))
else
(Option.bind (f_X12_looks q7.1 q12.2) fun q19 =>
(Option.bind (f_X12_looks q12.1 q19.2) fun q22 =>
(if q19.1 = q22.1 then
((f_X12_price_5 x1 x2 (x3 + 1) (x4 + 1) q22.2))
else
((f_X12_price_5 x1 x2 (x3 + 3) (x4 + 1) q22.2)))))))))))) :=
  (am_lp_eq _ _).trans (fe_if (fe_if (rfl) (rfl)) (fe_gd (fe_bd fun q7 => (fe_gd (fe_bd fun q12 => (fe_if (rfl) (fe_if (rfl) (fe_bd fun q19 => (fe_bd fun q22 => (fe_if (rfl) (rfl)))))))))))
noncomputable def f_X12_price (p1 : Int32) (p2 : Int32) (m : fm_) : Option (Int32 × fm_) :=
  ((f_X12_price_5 p1 p2 0 0 m))
def sp_X12_price : am_S := fn_sp [(224, fn_0, G_X12_signAt), (236, fn_0, G_X12_looks)]
theorem sm_X12_price : am_Smono (sp_X12_price) := fn_sp_mono _
def P_X12_price (n : Nat) (r : Nat → Nat → Option Nat) (s : S_X12_price) (q : Int32 × fm_) : Prop := match s with
  | (x1, x2, x3, x4, m) => ∀ (Q : Option Value → am_W → Prop) (y5 : Option Value) (y6 : Option Value), Q (en_i q).1 (mk_ n r q.2) → am_T m_X12_price sp_X12_price n Q 5 [some (.ref 106), some (.int x1), some (.int x2), some (.int x3), some (.int x4), y5, y6] [] (mk_ n r m)
set_option maxRecDepth 100000 in
theorem t_X12_price_5 {n : Nat} {r : Nat → Nat → Option Nat} (hf : fn_F n r) {K : S_X12_price → Option (Int32 × fm_)} {q : Int32 × fm_} (hK : ∀ s, K s = some q → P_X12_price n r s q) (x1 : Int32) (x2 : Int32) (x3 : Int32) (x4 : Int32) (m : fm_)
  (h : am_k K (st_X12_price ((x1, x2, x3, x4, m))) = some q) : P_X12_price n r ((x1, x2, x3, x4, m)) q := fun Q y5 y6 hQ =>
  am_T.wp sm_X12_price (K := am_T m_X12_price sp_X12_price n Q) (cuts := [5]) (fun _ _ _ _ h => h) 37
    (fj_if h (fun c1 h2 => fj_if h2 (fun c3 h4 => ⟨rfl, fj_rt h4 hQ⟩) (fun c3 h4 => ⟨rfl, fj_rt h4 hQ⟩)) (fun c1 h2 => ⟨fn_aF hf rfl rfl, Or.inl ⟨_, hf.2 106 61 139 rfl, fj_gd h2 fun g6 h5 => ⟨200, fn_aF hf rfl rfl, ix_t g6, fj_bd h5 fun q7 e8 h9 => ⟨Nat.le_of_ble_eq_true rfl, trivial, ⟨trivial, some (.int q7.1), q7.2, gp_X12_signAt (n := n) (r := r)  e8, fun _ => ⟨fn_aF hf rfl rfl, Or.inl ⟨_, hf.2 106 60 138 rfl, fj_gd h9 fun g11 h10 => ⟨10, fn_aF hf rfl rfl, ix_t g11, fj_bd h10 fun q12 e13 h14 => ⟨Nat.le_of_ble_eq_true rfl, trivial, ⟨trivial, some (.int q12.1), q12.2, gp_X12_signAt (n := n) (r := r)  e13, fun _ => fj_in h14 (fun c15 h16 => fj_if h16 (fun c17 h18 => hK _ h18 _ _ _ hQ) (fun c17 h18 => fj_bd h18 fun q19 e20 h21 => ⟨Nat.le_of_ble_eq_true rfl, trivial, ⟨trivial, some (.int q19.1), q19.2, gp_X12_looks (n := n) (r := r)  e20, fun _ => fj_bd h21 fun q22 e23 h24 => ⟨Nat.le_of_ble_eq_true rfl, trivial, ⟨trivial, some (.int q22.1), q22.2, gp_X12_looks (n := n) (r := r)  e23, fun _ => fj_in h24 (fun c25 h26 => hK _ h26 _ _ _ hQ) (fun c25 h26 => hK _ h26 _ _ _ hQ)⟩⟩⟩⟩)) (fun c15 h16 => hK _ h16 _ _ _ hQ)⟩⟩⟩⟩⟩⟩⟩⟩⟩⟩))
theorem l_X12_price {n : Nat} {r : Nat → Nat → Option Nat} (hf : fn_F n r) (s : S_X12_price) (q : Int32 × fm_) (h : am_lp (st_X12_price) s = some q) : P_X12_price n r s q :=
  am_lp_snd (P := P_X12_price n r) (fun K hK s q h => match s, h with
    | (x1, x2, x3, x4, m), h => t_X12_price_5 hf (fun s => hK s q) x1 x2 x3 x4 m h) s q h
set_option maxRecDepth 100000 in
theorem t_X12_price {n : Nat} {r : Nat → Nat → Option Nat} (hf : fn_F n r) {q : Int32 × fm_} (p1 : Int32) (p2 : Int32) {m : fm_}
  (h : f_X12_price p1 p2 m = some q) {Q : Option Value → am_W → Prop} (hQ : Q (en_i q).1 (mk_ n r q.2)) : am_T m_X12_price sp_X12_price n Q 0 [some (.ref 106), some (.int p1), some (.int p2), none, none, none, none] [] (mk_ n r m) :=
  am_T.wp sm_X12_price (K := am_T m_X12_price sp_X12_price n Q) (cuts := [5]) (fun _ _ _ _ h => h) 6
    (l_X12_price hf _ _ h _ _ _ hQ)
noncomputable def G_X12_price (n : Nat) (r : Nat → Nat → Option Nat) (as : List Value) (m : fm_) : Option (Option Value × fm_) := match as with
  | [.ref x0, .int p1, .int p2] => gd_ (Nat.beq x0 106) ((f_X12_price p1 p2 m).map en_i)
  | _ => none
set_option maxRecDepth 100000 in
theorem gp_X12_price {n : Nat} {r : Nat → Nat → Option Nat}  {p1 : Int32} {p2 : Int32} {m : fm_} {q : Int32 × fm_}  (e : f_X12_price p1 p2 m = some q) : G_X12_price n r [.ref 106, .int p1, .int p2] m = some (en_i q) := by
  show (gd_ (Nat.beq 106 106) ((f_X12_price p1 p2 m).map en_i)) = _
  exact fn_gd rfl (fn_mp e)
set_option maxRecDepth 100000 in
theorem ok_X12_price : am_mok 12 237 m_X12_price = true := by decide +kernel
set_option maxRecDepth 100000 in
theorem c_X12_price (l : Launch) {g : am_G} (hg : fx_ l g) : am_Met l g 1 237 (fn_s fn_F G_X12_price) := by
  refine am_sound (own := 12) (M := m_X12_price) (SP := sp_X12_price) hg.1 (by decide +kernel) ok_X12_price (by decide +kernel) ?_ (fun q hq hk => absurd hk (am_no61 (M := m_X12_price) (by decide +kernel) q hq)) (fn_ext l _ rfl g 12) (Or.inl (by decide +kernel)) ?_ ?_
  · intro q hq hk
    have hm : q.2.2.2.1 ∈ am_cs m_X12_price := am_cs_in hq hk
    rw [show am_cs m_X12_price = [224, 224, 236, 236] by decide +kernel] at hm
    have hm : q.2.2.2.1 ∈ [224, 236] := (List.all_eq_true.mp (show ([224, 224, 236, 236] : List Nat).all (fun a => decide (a ∈ ([224, 236] : List Nat))) = true by decide +kernel) _ hm |> of_decide_eq_true)
    simp only [List.mem_cons, List.not_mem_nil, or_false] at hm
    rcases hm with hm | hm
    · rw [hm]; exact ⟨0, by omega, c_X12_signAt l hg⟩
    · rw [hm]; exact ⟨0, by omega, c_X12_looks l hg⟩
  · intro as w K h
    obtain ⟨hf, y, m1, hG, hK⟩ := h
    unfold G_X12_price at hG
    split at hG
    · exact Nat.le_of_ble_eq_true rfl
    · cases hG
  · intro as w K h
    obtain ⟨n, i0, l0, r⟩ := w
    obtain ⟨hf, y, m1, hG, hK⟩ := h
    unfold G_X12_price at hG
    split at hG
    · next x0 p1 p2 =>
      obtain ⟨hx1, hG1⟩ := gd_u hG
      obtain rfl := Nat.eq_of_beq_eq_true hx1
      obtain ⟨q, hq, he⟩ := fn_mu hG1
      obtain ⟨rfl, rfl⟩ := Prod.mk.inj he
      exact t_X12_price  hf  p1 p2 (m := (i0, l0)) hq hK
    · cases hG

/-! == X12_isReading == -/
noncomputable def f_X12_isReading (p1 : Int32) (m : fm_) : Option (Int32 × fm_) :=
  (if p1 < 0 then
((some (0, m)))
else
(if (gi_ m 106 58) ≤ p1 then
((some (0, m)))
else
(gd_ (ix_ p1 200)
(if (gi_ m 141 (Int32.toNatClampNeg p1)) = 1 then
((some (1, m)))
else
((some (0, m)))))))
def sp_X12_isReading : am_S := fn_sp []
theorem sm_X12_isReading : am_Smono (sp_X12_isReading) := fn_sp_mono _
set_option maxRecDepth 100000 in
theorem t_X12_isReading {n : Nat} {r : Nat → Nat → Option Nat} (hf : fn_F n r) {q : Int32 × fm_} (p1 : Int32) {m : fm_}
  (h : f_X12_isReading p1 m = some q) {Q : Option Value → am_W → Prop} (hQ : Q (en_i q).1 (mk_ n r q.2)) : am_T m_X12_isReading sp_X12_isReading n Q 0 [some (.ref 106), some (.int p1)] [] (mk_ n r m) :=
  am_T.wp sm_X12_isReading (K := am_T m_X12_isReading sp_X12_isReading n Q) (cuts := []) (fun _ _ _ _ h => h) 16
    (fh_if h (fun c1 h2 => ⟨rfl, Or.inl rfl, fh_rt h2 hQ⟩) (fun c1 h2 => ⟨fn_aF hf rfl rfl, fh_if h2 (fun c3 h4 => ⟨rfl, Or.inl rfl, fh_rt h4 hQ⟩) (fun c3 h4 => ⟨fn_aF hf rfl rfl, Or.inl ⟨_, hf.2 106 63 141 rfl, fh_gd h4 fun g6 h5 => ⟨200, fn_aF hf rfl rfl, ix_t g6, fh_in h5 (fun c7 h8 => ⟨rfl, Or.inl rfl, fh_rt h8 hQ⟩) (fun c7 h8 => ⟨rfl, Or.inr rfl, fh_rt h8 hQ⟩)⟩⟩⟩)⟩))
noncomputable def G_X12_isReading (n : Nat) (r : Nat → Nat → Option Nat) (as : List Value) (m : fm_) : Option (Option Value × fm_) := match as with
  | [.ref x0, .int p1] => gd_ (Nat.beq x0 106) ((f_X12_isReading p1 m).map en_i)
  | _ => none
set_option maxRecDepth 100000 in
theorem gp_X12_isReading {n : Nat} {r : Nat → Nat → Option Nat}  {p1 : Int32} {m : fm_} {q : Int32 × fm_}  (e : f_X12_isReading p1 m = some q) : G_X12_isReading n r [.ref 106, .int p1] m = some (en_i q) := by
  show (gd_ (Nat.beq 106 106) ((f_X12_isReading p1 m).map en_i)) = _
  exact fn_gd rfl (fn_mp e)
set_option maxRecDepth 100000 in
theorem ok_X12_isReading : am_mok 12 238 m_X12_isReading = true := by decide +kernel
set_option maxRecDepth 100000 in
theorem c_X12_isReading (l : Launch) {g : am_G} (hg : fx_ l g) : am_Met l g 0 238 (fn_s fn_F G_X12_isReading) := by
  refine am_sound (own := 12) (M := m_X12_isReading) (SP := sp_X12_isReading) hg.1 (by decide +kernel) ok_X12_isReading (by decide +kernel) ?_ (fun q hq hk => absurd hk (am_no61 (M := m_X12_isReading) (by decide +kernel) q hq)) (fn_ext l _ rfl g 12) (Or.inl (by decide +kernel)) ?_ ?_
  · intro q hq hk
    have hm : q.2.2.2.1 ∈ am_cs m_X12_isReading := am_cs_in hq hk
    rw [show am_cs m_X12_isReading = [] by decide +kernel] at hm
    cases hm
  · intro as w K h
    obtain ⟨hf, y, m1, hG, hK⟩ := h
    unfold G_X12_isReading at hG
    split at hG
    · exact Nat.le_of_ble_eq_true rfl
    · cases hG
  · intro as w K h
    obtain ⟨n, i0, l0, r⟩ := w
    obtain ⟨hf, y, m1, hG, hK⟩ := h
    unfold G_X12_isReading at hG
    split at hG
    · next x0 p1 =>
      obtain ⟨hx1, hG1⟩ := gd_u hG
      obtain rfl := Nat.eq_of_beq_eq_true hx1
      obtain ⟨q, hq, he⟩ := fn_mu hG1
      obtain ⟨rfl, rfl⟩ := Prod.mk.inj he
      exact t_X12_isReading  hf  p1 (m := (i0, l0)) hq hK
    · cases hG

/-! == X12_like == -/
noncomputable def f_X12_like (p1 : Int32) (p2 : Int32) (m : fm_) : Option (Int32 × fm_) :=
  (Option.bind (f_X12_isReading p1 m) fun q1 =>
(if q1.1 = 0 then
((some ((-1), q1.2)))
else
(Option.bind (f_X12_isPlate p2 q1.2) fun q6 =>
(if q6.1 = 0 then
((some ((-1), q6.2)))
else
(Option.bind (f_X12_price p1 p2 q6.2) fun q11 =>
((some (q11.1, q11.2))))))))
def sp_X12_like : am_S := fn_sp [(238, fn_F, G_X12_isReading), (227, fn_F, G_X12_isPlate), (237, fn_F, G_X12_price)]
theorem sm_X12_like : am_Smono (sp_X12_like) := fn_sp_mono _
set_option maxRecDepth 100000 in
theorem t_X12_like {n : Nat} {r : Nat → Nat → Option Nat} (hf : fn_F n r) {q : Int32 × fm_} (p1 : Int32) (p2 : Int32) {m : fm_}
  (h : f_X12_like p1 p2 m = some q) {Q : Option Value → am_W → Prop} (hQ : Q (en_i q).1 (mk_ n r q.2)) : am_T m_X12_like sp_X12_like n Q 0 [some (.ref 106), some (.int p1), some (.int p2)] [] (mk_ n r m) :=
  am_T.wp sm_X12_like (K := am_T m_X12_like sp_X12_like n Q) (cuts := []) (fun _ _ _ _ h => h) 15
    (fh_bd h fun q1 e2 h3 => ⟨Nat.le_of_ble_eq_true rfl, fn_aF hf rfl rfl, ⟨hf, some (.int q1.1), q1.2, gp_X12_isReading (n := n) (r := r)  e2, fun _ => fh_if h3 (fun c4 h5 => ⟨rfl, fh_rt h5 hQ⟩) (fun c4 h5 => fh_bd h5 fun q6 e7 h8 => ⟨Nat.le_of_ble_eq_true rfl, fn_aF hf rfl rfl, ⟨hf, some (.int q6.1), q6.2, gp_X12_isPlate (n := n) (r := r)  e7, fun _ => fh_if h8 (fun c9 h10 => ⟨rfl, fh_rt h10 hQ⟩) (fun c9 h10 => fh_bd h10 fun q11 e12 h13 => ⟨Nat.le_of_ble_eq_true rfl, fn_aF hf rfl rfl, ⟨hf, some (.int q11.1), q11.2, gp_X12_price (n := n) (r := r)  e12, fun _ => ⟨rfl, fh_rt h13 hQ⟩⟩⟩)⟩⟩)⟩⟩)
noncomputable def G_X12_like (n : Nat) (r : Nat → Nat → Option Nat) (as : List Value) (m : fm_) : Option (Option Value × fm_) := match as with
  | [.ref x0, .int p1, .int p2] => gd_ (Nat.beq x0 106) ((f_X12_like p1 p2 m).map en_i)
  | _ => none
set_option maxRecDepth 100000 in
theorem gp_X12_like {n : Nat} {r : Nat → Nat → Option Nat}  {p1 : Int32} {p2 : Int32} {m : fm_} {q : Int32 × fm_}  (e : f_X12_like p1 p2 m = some q) : G_X12_like n r [.ref 106, .int p1, .int p2] m = some (en_i q) := by
  show (gd_ (Nat.beq 106 106) ((f_X12_like p1 p2 m).map en_i)) = _
  exact fn_gd rfl (fn_mp e)
set_option maxRecDepth 100000 in
theorem ok_X12_like : am_mok 12 239 m_X12_like = true := by decide +kernel
set_option maxRecDepth 100000 in
theorem c_X12_like (l : Launch) {g : am_G} (hg : fx_ l g) : am_Met l g 2 239 (fn_s fn_F G_X12_like) := by
  refine am_sound (own := 12) (M := m_X12_like) (SP := sp_X12_like) hg.1 (by decide +kernel) ok_X12_like (by decide +kernel) ?_ (fun q hq hk => absurd hk (am_no61 (M := m_X12_like) (by decide +kernel) q hq)) (fn_ext l _ rfl g 12) (Or.inl (by decide +kernel)) ?_ ?_
  · intro q hq hk
    have hm : q.2.2.2.1 ∈ am_cs m_X12_like := am_cs_in hq hk
    rw [show am_cs m_X12_like = [238, 227, 237] by decide +kernel] at hm
    have hm : q.2.2.2.1 ∈ [227, 237, 238] := (List.all_eq_true.mp (show ([238, 227, 237] : List Nat).all (fun a => decide (a ∈ ([227, 237, 238] : List Nat))) = true by decide +kernel) _ hm |> of_decide_eq_true)
    simp only [List.mem_cons, List.not_mem_nil, or_false] at hm
    rcases hm with hm | hm | hm
    · rw [hm]; exact ⟨0, by omega, c_X12_isPlate l hg⟩
    · rw [hm]; exact ⟨1, by omega, c_X12_price l hg⟩
    · rw [hm]; exact ⟨0, by omega, c_X12_isReading l hg⟩
  · intro as w K h
    obtain ⟨hf, y, m1, hG, hK⟩ := h
    unfold G_X12_like at hG
    split at hG
    · exact Nat.le_of_ble_eq_true rfl
    · cases hG
  · intro as w K h
    obtain ⟨n, i0, l0, r⟩ := w
    obtain ⟨hf, y, m1, hG, hK⟩ := h
    unfold G_X12_like at hG
    split at hG
    · next x0 p1 p2 =>
      obtain ⟨hx1, hG1⟩ := gd_u hG
      obtain rfl := Nat.eq_of_beq_eq_true hx1
      obtain ⟨q, hq, he⟩ := fn_mu hG1
      obtain ⟨rfl, rfl⟩ := Prod.mk.inj he
      exact t_X12_like  hf  p1 p2 (m := (i0, l0)) hq hK
    · cases hG

/-! == X12_pointOf == -/
noncomputable def f_X12_pointOf (p1 : Int32) (m : fm_) : Option (Int32 × fm_) :=
  (gd_ (ix_ p1 200)
(gd_ (ix_ (gi_ m 142 (Int32.toNatClampNeg p1)) 8)
((some ((gi_ m 117 (Int32.toNatClampNeg (gi_ m 142 (Int32.toNatClampNeg p1)))), m)))))
def sp_X12_pointOf : am_S := fn_sp []
theorem sm_X12_pointOf : am_Smono (sp_X12_pointOf) := fn_sp_mono _
set_option maxRecDepth 100000 in
theorem t_X12_pointOf {n : Nat} {r : Nat → Nat → Option Nat} (hf : fn_F n r) {q : Int32 × fm_} (p1 : Int32) {m : fm_}
  (h : f_X12_pointOf p1 m = some q) {Q : Option Value → am_W → Prop} (hQ : Q (en_i q).1 (mk_ n r q.2)) : am_T m_X12_pointOf sp_X12_pointOf n Q 0 [some (.ref 106), some (.int p1)] [] (mk_ n r m) :=
  am_T.wp sm_X12_pointOf (K := am_T m_X12_pointOf sp_X12_pointOf n Q) (cuts := []) (fun _ _ _ _ h => h) 9
    (⟨fn_aF hf rfl rfl, Or.inl ⟨_, hf.2 106 24 117 rfl, ⟨fn_aF hf rfl rfl, Or.inl ⟨_, hf.2 106 64 142 rfl, fh_gd h fun g2 h1 => ⟨200, fn_aF hf rfl rfl, ix_t g2, fh_gd h1 fun g4 h3 => ⟨8, fn_aF hf rfl rfl, ix_t g4, ⟨rfl, fh_rt h3 hQ⟩⟩⟩⟩⟩⟩⟩)
noncomputable def G_X12_pointOf (n : Nat) (r : Nat → Nat → Option Nat) (as : List Value) (m : fm_) : Option (Option Value × fm_) := match as with
  | [.ref x0, .int p1] => gd_ (Nat.beq x0 106) ((f_X12_pointOf p1 m).map en_i)
  | _ => none
set_option maxRecDepth 100000 in
theorem gp_X12_pointOf {n : Nat} {r : Nat → Nat → Option Nat}  {p1 : Int32} {m : fm_} {q : Int32 × fm_}  (e : f_X12_pointOf p1 m = some q) : G_X12_pointOf n r [.ref 106, .int p1] m = some (en_i q) := by
  show (gd_ (Nat.beq 106 106) ((f_X12_pointOf p1 m).map en_i)) = _
  exact fn_gd rfl (fn_mp e)
set_option maxRecDepth 100000 in
theorem ok_X12_pointOf : am_mok 12 240 m_X12_pointOf = true := by decide +kernel
set_option maxRecDepth 100000 in
theorem c_X12_pointOf (l : Launch) {g : am_G} (hg : fx_ l g) : am_Met l g 0 240 (fn_s fn_F G_X12_pointOf) := by
  refine am_sound (own := 12) (M := m_X12_pointOf) (SP := sp_X12_pointOf) hg.1 (by decide +kernel) ok_X12_pointOf (by decide +kernel) ?_ (fun q hq hk => absurd hk (am_no61 (M := m_X12_pointOf) (by decide +kernel) q hq)) (fn_ext l _ rfl g 12) (Or.inl (by decide +kernel)) ?_ ?_
  · intro q hq hk
    have hm : q.2.2.2.1 ∈ am_cs m_X12_pointOf := am_cs_in hq hk
    rw [show am_cs m_X12_pointOf = [] by decide +kernel] at hm
    cases hm
  · intro as w K h
    obtain ⟨hf, y, m1, hG, hK⟩ := h
    unfold G_X12_pointOf at hG
    split at hG
    · exact Nat.le_of_ble_eq_true rfl
    · cases hG
  · intro as w K h
    obtain ⟨n, i0, l0, r⟩ := w
    obtain ⟨hf, y, m1, hG, hK⟩ := h
    unfold G_X12_pointOf at hG
    split at hG
    · next x0 p1 =>
      obtain ⟨hx1, hG1⟩ := gd_u hG
      obtain rfl := Nat.eq_of_beq_eq_true hx1
      obtain ⟨q, hq, he⟩ := fn_mu hG1
      obtain ⟨rfl, rfl⟩ := Prod.mk.inj he
      exact t_X12_pointOf  hf  p1 (m := (i0, l0)) hq hK
    · cases hG

/-! == X12_together == -/
noncomputable def f_X12_together (p1 : Int32) (p2 : Int32) (m : fm_) : Option (Int32 × fm_) :=
  (gd_ (ix_ p1 200)
(gd_ (ix_ p2 200)
(Option.bind (f_X12_pointOf p1 m) fun q5 =>
(Option.bind (f_X12_pointOf p2 q5.2) fun q8 =>
(gd_ (ix_ ((12 * q5.1) + q8.1) 144)
(if 1000000 ≤ (gi_ q8.2 120 (Int32.toNatClampNeg ((12 * q5.1) + q8.1))) then
((some (0, q8.2)))
else
(if 0 ≤ ((gi_ m 144 (Int32.toNatClampNeg p1)) - (gi_ m 144 (Int32.toNatClampNeg p2))) then
(if ((gi_ m 144 (Int32.toNatClampNeg p1)) - (gi_ m 144 (Int32.toNatClampNeg p2))) < (gi_ q8.2 120 (Int32.toNatClampNeg ((12 * q5.1) + q8.1))) then
((some (0, q8.2)))
else
((some (1, q8.2))))
else
(if (-((gi_ m 144 (Int32.toNatClampNeg p1)) - (gi_ m 144 (Int32.toNatClampNeg p2)))) < (gi_ q8.2 120 (Int32.toNatClampNeg ((12 * q5.1) + q8.1))) then
((some (0, q8.2)))
else
((some (1, q8.2)))))))))))
def sp_X12_together : am_S := fn_sp [(240, fn_F, G_X12_pointOf)]
theorem sm_X12_together : am_Smono (sp_X12_together) := fn_sp_mono _
set_option maxRecDepth 100000 in
theorem t_X12_together {n : Nat} {r : Nat → Nat → Option Nat} (hf : fn_F n r) {q : Int32 × fm_} (p1 : Int32) (p2 : Int32) {m : fm_}
  (h : f_X12_together p1 p2 m = some q) {Q : Option Value → am_W → Prop} (hQ : Q (en_i q).1 (mk_ n r q.2)) : am_T m_X12_together sp_X12_together n Q 0 [some (.ref 106), some (.int p1), some (.int p2), none, none] [] (mk_ n r m) :=
  am_T.wp sm_X12_together (K := am_T m_X12_together sp_X12_together n Q) (cuts := []) (fun _ _ _ _ h => h) 37
    (⟨fn_aF hf rfl rfl, Or.inl ⟨_, hf.2 106 66 144 rfl, fh_gd h fun g2 h1 => ⟨200, fn_aF hf rfl rfl, ix_t g2, ⟨fn_aF hf rfl rfl, Or.inl ⟨_, hf.2 106 66 144 rfl, fh_gd h1 fun g4 h3 => ⟨200, fn_aF hf rfl rfl, ix_t g4, ⟨fn_aF hf rfl rfl, Or.inl ⟨_, hf.2 106 27 120 rfl, fh_bd h3 fun q5 e6 h7 => ⟨Nat.le_of_ble_eq_true rfl, fn_aF hf rfl rfl, ⟨hf, some (.int q5.1), q5.2, gp_X12_pointOf (n := n) (r := r)  e6, fun _ => fh_bd h7 fun q8 e9 h10 => ⟨Nat.le_of_ble_eq_true rfl, fn_aF hf rfl rfl, ⟨hf, some (.int q8.1), q8.2, gp_X12_pointOf (n := n) (r := r)  e9, fun _ => fh_gd h10 fun g12 h11 => ⟨144, fn_aF hf rfl rfl, ix_t g12, fh_if h11 (fun c13 h14 => ⟨rfl, Or.inl rfl, fh_rt h14 hQ⟩) (fun c13 h14 => fh_if h14 (fun c15 h16 => fh_if h16 (fun c17 h18 => ⟨rfl, Or.inl rfl, fh_rt h18 hQ⟩) (fun c17 h18 => ⟨rfl, Or.inr rfl, fh_rt h18 hQ⟩)) (fun c15 h16 => fh_if h16 (fun c19 h20 => ⟨rfl, Or.inl rfl, fh_rt h20 hQ⟩) (fun c19 h20 => ⟨rfl, Or.inr rfl, fh_rt h20 hQ⟩)))⟩⟩⟩⟩⟩⟩⟩⟩⟩⟩⟩⟩⟩)
noncomputable def G_X12_together (n : Nat) (r : Nat → Nat → Option Nat) (as : List Value) (m : fm_) : Option (Option Value × fm_) := match as with
  | [.ref x0, .int p1, .int p2] => gd_ (Nat.beq x0 106) ((f_X12_together p1 p2 m).map en_i)
  | _ => none
set_option maxRecDepth 100000 in
theorem gp_X12_together {n : Nat} {r : Nat → Nat → Option Nat}  {p1 : Int32} {p2 : Int32} {m : fm_} {q : Int32 × fm_}  (e : f_X12_together p1 p2 m = some q) : G_X12_together n r [.ref 106, .int p1, .int p2] m = some (en_i q) := by
  show (gd_ (Nat.beq 106 106) ((f_X12_together p1 p2 m).map en_i)) = _
  exact fn_gd rfl (fn_mp e)
set_option maxRecDepth 100000 in
theorem ok_X12_together : am_mok 12 241 m_X12_together = true := by decide +kernel
set_option maxRecDepth 100000 in
theorem c_X12_together (l : Launch) {g : am_G} (hg : fx_ l g) : am_Met l g 1 241 (fn_s fn_F G_X12_together) := by
  refine am_sound (own := 12) (M := m_X12_together) (SP := sp_X12_together) hg.1 (by decide +kernel) ok_X12_together (by decide +kernel) ?_ (fun q hq hk => absurd hk (am_no61 (M := m_X12_together) (by decide +kernel) q hq)) (fn_ext l _ rfl g 12) (Or.inl (by decide +kernel)) ?_ ?_
  · intro q hq hk
    have hm : q.2.2.2.1 ∈ am_cs m_X12_together := am_cs_in hq hk
    rw [show am_cs m_X12_together = [240, 240] by decide +kernel] at hm
    have hm : q.2.2.2.1 ∈ [240] := (List.all_eq_true.mp (show ([240, 240] : List Nat).all (fun a => decide (a ∈ ([240] : List Nat))) = true by decide +kernel) _ hm |> of_decide_eq_true)
    simp only [List.mem_cons, List.not_mem_nil, or_false] at hm
    rcases hm with hm
    · rw [hm]; exact ⟨0, by omega, c_X12_pointOf l hg⟩
  · intro as w K h
    obtain ⟨hf, y, m1, hG, hK⟩ := h
    unfold G_X12_together at hG
    split at hG
    · exact Nat.le_of_ble_eq_true rfl
    · cases hG
  · intro as w K h
    obtain ⟨n, i0, l0, r⟩ := w
    obtain ⟨hf, y, m1, hG, hK⟩ := h
    unfold G_X12_together at hG
    split at hG
    · next x0 p1 p2 =>
      obtain ⟨hx1, hG1⟩ := gd_u hG
      obtain rfl := Nat.eq_of_beq_eq_true hx1
      obtain ⟨q, hq, he⟩ := fn_mu hG1
      obtain ⟨rfl, rfl⟩ := Prod.mk.inj he
      exact t_X12_together  hf  p1 p2 (m := (i0, l0)) hq hK
    · cases hG

/-! == X12_canBe == -/
abbrev S_X12_canBe : Type := (Int32 × Int32 × Int32 × Int32 × fm_)
noncomputable def st_X12_canBe (s : S_X12_canBe) : Option (S_X12_canBe ⊕ (Int32 × fm_)) := match s with
  | (x1, x2, x3, x4, m) =>
    (if x1 ≤ x4 then
(gd_ (bl_ x3)
((some (Sum.inr (x3, m)))))
else
(if x3 = 0 then
(gd_ (bl_ x3)
((some (Sum.inr (x3, m)))))
else
(gd_ (ix_ x4 8)
(if (gi_ m 152 (Int32.toNatClampNeg x4)) = x2 then
(gd_ (ix_ x4 8)
(gd_ (ix_ x1 8)
(Option.bind (f_X12_together (gi_ m 151 (Int32.toNatClampNeg x4)) (gi_ m 151 (Int32.toNatClampNeg x1)) m) fun q17 =>
(if q17.1 = 0 then
((some (Sum.inl ((x1, x2, 0, (x4 + 1), q17.2)))))
else
((some (Sum.inl ((x1, x2, 1, (x4 + 1), q17.2)))))))))
else
((some (Sum.inl ((x1, x2, 1, (x4 + 1), m)))))))))
noncomputable def f_X12_canBe_40 (x1 : Int32) (x2 : Int32) (x3 : Int32) (x4 : Int32) (m : fm_) : Option (Int32 × fm_) := am_lp (st_X12_canBe) ((x1, x2, x3, x4, m))
theorem e_X12_canBe_40 (x1 : Int32) (x2 : Int32) (x3 : Int32) (x4 : Int32) (m : fm_) : f_X12_canBe_40 x1 x2 x3 x4 m =
(if x1 ≤ x4 then
(gd_ (bl_ x3)
((some (x3, m))))
else
(if x3 = 0 then
(gd_ (bl_ x3)
((some (x3, m))))
else
(gd_ (ix_ x4 8)
(if (gi_ m 152 (Int32.toNatClampNeg x4)) = x2 then
(gd_ (ix_ x4 8)
(gd_ (ix_ x1 8)
(Option.bind (f_X12_together (gi_ m 151 (Int32.toNatClampNeg x4)) (gi_ m 151 (Int32.toNatClampNeg x1)) m) fun q17 =>
(if q17.1 = 0 then
((f_X12_canBe_40 x1 x2 0 (x4 + 1) q17.2))
else
((f_X12_canBe_40 x1 x2 1 (x4 + 1) q17.2))))))
else
((f_X12_canBe_40 x1 x2 1 (x4 + 1) m)))))) :=
  (am_lp_eq _ _).trans (fe_if (fe_gd rfl) (fe_if (fe_gd rfl) (fe_gd (fe_if (fe_gd (fe_gd (fe_bd fun q17 => (fe_if (rfl) (rfl))))) (rfl)))))
noncomputable def f_X12_canBe (p1 : Int32) (m : fm_) : Option (Int32 × fm_) :=
  (gd_ (ix_ p1 8)
(if (gi_ m 152 (Int32.toNatClampNeg p1)) = (gi_ m 106 57) then
((some (1, m)))
else
(gd_ (ix_ p1 8)
(Option.bind (f_X12_price (gi_ m 151 (Int32.toNatClampNeg p1)) (gi_ m 152 (Int32.toNatClampNeg p1)) m) fun q7 =>
(if q7.1 = 9 then
((some (0, q7.2)))
else
((f_X12_canBe_40 p1 (gi_ m 152 (Int32.toNatClampNeg p1)) 1 0 q7.2)))))))
def sp_X12_canBe : am_S := fn_sp [(237, fn_F, G_X12_price), (241, fn_F, G_X12_together)]
theorem sm_X12_canBe : am_Smono (sp_X12_canBe) := fn_sp_mono _
def P_X12_canBe (n : Nat) (r : Nat → Nat → Option Nat) (s : S_X12_canBe) (q : Int32 × fm_) : Prop := match s with
  | (x1, x2, x3, x4, m) => ∀ (Q : Option Value → am_W → Prop), Q (en_i q).1 (mk_ n r q.2) → am_T m_X12_canBe sp_X12_canBe n Q 40 [some (.ref 106), some (.int x1), some (.int x2), some (.int x3), some (.int x4)] [] (mk_ n r m)
set_option maxRecDepth 100000 in
theorem t_X12_canBe_40 {n : Nat} {r : Nat → Nat → Option Nat} (hf : fn_F n r) {K : S_X12_canBe → Option (Int32 × fm_)} {q : Int32 × fm_} (hK : ∀ s, K s = some q → P_X12_canBe n r s q) (x1 : Int32) (x2 : Int32) (x3 : Int32) (x4 : Int32) (m : fm_)
  (h : am_k K (st_X12_canBe ((x1, x2, x3, x4, m))) = some q) : P_X12_canBe n r ((x1, x2, x3, x4, m)) q := fun Q hQ =>
  am_T.wp sm_X12_canBe (K := am_T m_X12_canBe sp_X12_canBe n Q) (cuts := [40]) (fun _ _ _ _ h => h) 29
    (fj_if h (fun c1 h2 => fj_gd h2 fun g4 h3 => ⟨rfl, bl_t g4, fj_rt h3 hQ⟩) (fun c1 h2 => fj_if h2 (fun c5 h6 => fj_gd h6 fun g8 h7 => ⟨rfl, bl_t g8, fj_rt h7 hQ⟩) (fun c5 h6 => ⟨fn_aF hf rfl rfl, Or.inl ⟨_, hf.2 106 74 152 rfl, fj_gd h6 fun g10 h9 => ⟨8, fn_aF hf rfl rfl, ix_t g10, fj_in h9 (fun c11 h12 => hK _ h12 _ hQ) (fun c11 h12 => ⟨fn_aF hf rfl rfl, Or.inl ⟨_, hf.2 106 73 151 rfl, fj_gd h12 fun g14 h13 => ⟨8, fn_aF hf rfl rfl, ix_t g14, ⟨fn_aF hf rfl rfl, Or.inl ⟨_, hf.2 106 73 151 rfl, fj_gd h13 fun g16 h15 => ⟨8, fn_aF hf rfl rfl, ix_t g16, fj_bd h15 fun q17 e18 h19 => ⟨Nat.le_of_ble_eq_true rfl, fn_aF hf rfl rfl, ⟨hf, some (.int q17.1), q17.2, gp_X12_together (n := n) (r := r)  e18, fun _ => fj_if h19 (fun c20 h21 => hK _ h21 _ hQ) (fun c20 h21 => hK _ h21 _ hQ)⟩⟩⟩⟩⟩⟩⟩⟩)⟩⟩⟩)))
theorem l_X12_canBe {n : Nat} {r : Nat → Nat → Option Nat} (hf : fn_F n r) (s : S_X12_canBe) (q : Int32 × fm_) (h : am_lp (st_X12_canBe) s = some q) : P_X12_canBe n r s q :=
  am_lp_snd (P := P_X12_canBe n r) (fun K hK s q h => match s, h with
    | (x1, x2, x3, x4, m), h => t_X12_canBe_40 hf (fun s => hK s q) x1 x2 x3 x4 m h) s q h
set_option maxRecDepth 100000 in
theorem t_X12_canBe {n : Nat} {r : Nat → Nat → Option Nat} (hf : fn_F n r) {q : Int32 × fm_} (p1 : Int32) {m : fm_}
  (h : f_X12_canBe p1 m = some q) {Q : Option Value → am_W → Prop} (hQ : Q (en_i q).1 (mk_ n r q.2)) : am_T m_X12_canBe sp_X12_canBe n Q 0 [some (.ref 106), some (.int p1), none, none, none] [] (mk_ n r m) :=
  am_T.wp sm_X12_canBe (K := am_T m_X12_canBe sp_X12_canBe n Q) (cuts := [40]) (fun _ _ _ _ h => h) 24
    (⟨fn_aF hf rfl rfl, Or.inl ⟨_, hf.2 106 74 152 rfl, fh_gd h fun g2 h1 => ⟨8, fn_aF hf rfl rfl, ix_t g2, ⟨fn_aF hf rfl rfl, fh_in h1 (fun c3 h4 => ⟨fn_aF hf rfl rfl, Or.inl ⟨_, hf.2 106 73 151 rfl, fh_gd h4 fun g6 h5 => ⟨8, fn_aF hf rfl rfl, ix_t g6, fh_bd h5 fun q7 e8 h9 => ⟨Nat.le_of_ble_eq_true rfl, fn_aF hf rfl rfl, ⟨hf, some (.int q7.1), q7.2, gp_X12_price (n := n) (r := r)  e8, fun _ => fh_in h9 (fun c10 h11 => l_X12_canBe hf _ _ h11 _ hQ) (fun c10 h11 => ⟨rfl, Or.inl rfl, fh_rt h11 hQ⟩)⟩⟩⟩⟩⟩) (fun c3 h4 => ⟨rfl, Or.inr rfl, fh_rt h4 hQ⟩)⟩⟩⟩⟩)
noncomputable def G_X12_canBe (n : Nat) (r : Nat → Nat → Option Nat) (as : List Value) (m : fm_) : Option (Option Value × fm_) := match as with
  | [.ref x0, .int p1] => gd_ (Nat.beq x0 106) ((f_X12_canBe p1 m).map en_i)
  | _ => none
set_option maxRecDepth 100000 in
theorem gp_X12_canBe {n : Nat} {r : Nat → Nat → Option Nat}  {p1 : Int32} {m : fm_} {q : Int32 × fm_}  (e : f_X12_canBe p1 m = some q) : G_X12_canBe n r [.ref 106, .int p1] m = some (en_i q) := by
  show (gd_ (Nat.beq 106 106) ((f_X12_canBe p1 m).map en_i)) = _
  exact fn_gd rfl (fn_mp e)
set_option maxRecDepth 100000 in
theorem ok_X12_canBe : am_mok 12 242 m_X12_canBe = true := by decide +kernel
set_option maxRecDepth 100000 in
theorem c_X12_canBe (l : Launch) {g : am_G} (hg : fx_ l g) : am_Met l g 2 242 (fn_s fn_F G_X12_canBe) := by
  refine am_sound (own := 12) (M := m_X12_canBe) (SP := sp_X12_canBe) hg.1 (by decide +kernel) ok_X12_canBe (by decide +kernel) ?_ (fun q hq hk => absurd hk (am_no61 (M := m_X12_canBe) (by decide +kernel) q hq)) (fn_ext l _ rfl g 12) (Or.inl (by decide +kernel)) ?_ ?_
  · intro q hq hk
    have hm : q.2.2.2.1 ∈ am_cs m_X12_canBe := am_cs_in hq hk
    rw [show am_cs m_X12_canBe = [237, 241] by decide +kernel] at hm
    have hm : q.2.2.2.1 ∈ [237, 241] := (List.all_eq_true.mp (show ([237, 241] : List Nat).all (fun a => decide (a ∈ ([237, 241] : List Nat))) = true by decide +kernel) _ hm |> of_decide_eq_true)
    simp only [List.mem_cons, List.not_mem_nil, or_false] at hm
    rcases hm with hm | hm
    · rw [hm]; exact ⟨1, by omega, c_X12_price l hg⟩
    · rw [hm]; exact ⟨1, by omega, c_X12_together l hg⟩
  · intro as w K h
    obtain ⟨hf, y, m1, hG, hK⟩ := h
    unfold G_X12_canBe at hG
    split at hG
    · exact Nat.le_of_ble_eq_true rfl
    · cases hG
  · intro as w K h
    obtain ⟨n, i0, l0, r⟩ := w
    obtain ⟨hf, y, m1, hG, hK⟩ := h
    unfold G_X12_canBe at hG
    split at hG
    · next x0 p1 =>
      obtain ⟨hx1, hG1⟩ := gd_u hG
      obtain rfl := Nat.eq_of_beq_eq_true hx1
      obtain ⟨q, hq, he⟩ := fn_mu hG1
      obtain ⟨rfl, rfl⟩ := Prod.mk.inj he
      exact t_X12_canBe  hf  p1 (m := (i0, l0)) hq hK
    · cases hG

