/-! == X8_takeNumber == -/
noncomputable def f_X8_takeNumber (p1 : Int32) (p2 : Int32) (m : fm_) : Option (Int32 × fm_) :=
  (Option.bind (f_X8_value m) fun q1 =>
(Option.bind (f_X8_kind q1.2) fun q4 =>
(if q4.1 = 2 then
(if q1.1 < p1 then
(Option.bind (f_X8_fail 4 q4.2) fun q11 =>
((some ((-1), q11.2))))
else
(if q1.1 ≤ p2 then
(Option.bind (f_X8_step q4.2) fun q16 =>
((some (q1.1, q16.2))))
else
(Option.bind (f_X8_fail 4 q4.2) fun q19 =>
((some ((-1), q19.2))))))
else
(Option.bind (f_X8_fail 2 q4.2) fun q22 =>
((some ((-1), q22.2)))))))
def sp_X8_takeNumber : am_S := fn_sp [(94, fn_F, G_X8_value), (93, fn_F, G_X8_kind), (96, fn_F, G_X8_fail), (95, fn_F, G_X8_step)]
theorem sm_X8_takeNumber : am_Smono (sp_X8_takeNumber) := fn_sp_mono _
set_option maxRecDepth 100000 in
theorem t_X8_takeNumber {n : Nat} {r : Nat → Nat → Option Nat} (hf : fn_F n r) {q : Int32 × fm_} (p1 : Int32) (p2 : Int32) {m : fm_}
  (h : f_X8_takeNumber p1 p2 m = some q) {Q : Option Value → am_W → Prop} (hQ : Q (en_i q).1 (mk_ n r q.2)) : am_T m_X8_takeNumber sp_X8_takeNumber n Q 0 [some (.ref 1), some (.int p1), some (.int p2), none] [] (mk_ n r m) :=
  am_T.wp sm_X8_takeNumber (K := am_T m_X8_takeNumber sp_X8_takeNumber n Q) (cuts := []) (fun _ _ _ _ h => h) 20
    (fh_bd h fun q1 e2 h3 => ⟨Nat.le_of_ble_eq_true rfl, fn_aF hf rfl rfl, ⟨hf, some (.int q1.1), q1.2, gp_X8_value (n := n) (r := r)  e2, fun _ => fh_bd h3 fun q4 e5 h6 => ⟨Nat.le_of_ble_eq_true rfl, fn_aF hf rfl rfl, ⟨hf, some (.int q4.1), q4.2, gp_X8_kind (n := n) (r := r)  e5, fun _ => fh_if h6 (fun c7 h8 => fh_if h8 (fun c9 h10 => fh_bd h10 fun q11 e12 h13 => ⟨Nat.le_of_ble_eq_true rfl, fn_aF hf rfl rfl, ⟨hf, some (.int q11.1), q11.2, gp_X8_fail (n := n) (r := r)  e12, fun _ => ⟨rfl, fh_rt h13 hQ⟩⟩⟩) (fun c9 h10 => fh_if h10 (fun c14 h15 => fh_bd h15 fun q16 e17 h18 => ⟨Nat.le_of_ble_eq_true rfl, fn_aF hf rfl rfl, ⟨hf, none, q16.2, gp_X8_step (n := n) (r := r)  e17, fun _ => ⟨rfl, ⟨rfl, fh_rt h18 hQ⟩⟩⟩⟩) (fun c14 h15 => fh_bd h15 fun q19 e20 h21 => ⟨Nat.le_of_ble_eq_true rfl, fn_aF hf rfl rfl, ⟨hf, some (.int q19.1), q19.2, gp_X8_fail (n := n) (r := r)  e20, fun _ => ⟨rfl, fh_rt h21 hQ⟩⟩⟩))) (fun c7 h8 => fh_bd h8 fun q22 e23 h24 => ⟨Nat.le_of_ble_eq_true rfl, fn_aF hf rfl rfl, ⟨hf, some (.int q22.1), q22.2, gp_X8_fail (n := n) (r := r)  e23, fun _ => ⟨rfl, fh_rt h24 hQ⟩⟩⟩)⟩⟩⟩⟩)
noncomputable def G_X8_takeNumber (n : Nat) (r : Nat → Nat → Option Nat) (as : List Value) (m : fm_) : Option (Option Value × fm_) := match as with
  | [.ref x0, .int p1, .int p2] => gd_ (Nat.beq x0 1) ((f_X8_takeNumber p1 p2 m).map en_i)
  | _ => none
set_option maxRecDepth 100000 in
theorem gp_X8_takeNumber {n : Nat} {r : Nat → Nat → Option Nat}  {p1 : Int32} {p2 : Int32} {m : fm_} {q : Int32 × fm_}  (e : f_X8_takeNumber p1 p2 m = some q) : G_X8_takeNumber n r [.ref 1, .int p1, .int p2] m = some (en_i q) := by
  show (gd_ (Nat.beq 1 1) ((f_X8_takeNumber p1 p2 m).map en_i)) = _
  exact fn_gd rfl (fn_mp e)
set_option maxRecDepth 100000 in
theorem ok_X8_takeNumber : am_mok 8 98 m_X8_takeNumber = true := by decide +kernel
set_option maxRecDepth 100000 in
theorem c_X8_takeNumber (l : Launch) {g : am_G} (hg : fx_ l g) : am_Met l g 1 98 (fn_s fn_F G_X8_takeNumber) := by
  refine am_sound (own := 8) (M := m_X8_takeNumber) (SP := sp_X8_takeNumber) hg.1 (by decide +kernel) ok_X8_takeNumber (by decide +kernel) ?_ (fun q hq hk => absurd hk (am_no61 (M := m_X8_takeNumber) (by decide +kernel) q hq)) (fn_ext l _ rfl g 8) (Or.inl (by decide +kernel)) ?_ ?_
  · intro q hq hk
    have hm : q.2.2.2.1 ∈ am_cs m_X8_takeNumber := am_cs_in hq hk
    rw [show am_cs m_X8_takeNumber = [94, 93, 96, 96, 95] by decide +kernel] at hm
    have hm : q.2.2.2.1 ∈ [93, 94, 95, 96] := (List.all_eq_true.mp (show ([94, 93, 96, 96, 95] : List Nat).all (fun a => decide (a ∈ ([93, 94, 95, 96] : List Nat))) = true by decide +kernel) _ hm |> of_decide_eq_true)
    simp only [List.mem_cons, List.not_mem_nil, or_false] at hm
    rcases hm with hm | hm | hm | hm
    · rw [hm]; exact ⟨0, by omega, c_X8_kind l hg⟩
    · rw [hm]; exact ⟨0, by omega, c_X8_value l hg⟩
    · rw [hm]; exact ⟨0, by omega, c_X8_step l hg⟩
    · rw [hm]; exact ⟨0, by omega, c_X8_fail l hg⟩
  · intro as w K h
    obtain ⟨hf, y, m1, hG, hK⟩ := h
    unfold G_X8_takeNumber at hG
    split at hG
    · exact Nat.le_of_ble_eq_true rfl
    · cases hG
  · intro as w K h
    obtain ⟨n, i0, l0, r⟩ := w
    obtain ⟨hf, y, m1, hG, hK⟩ := h
    unfold G_X8_takeNumber at hG
    split at hG
    · next x0 p1 p2 =>
      obtain ⟨hx1, hG1⟩ := gd_u hG
      obtain rfl := Nat.eq_of_beq_eq_true hx1
      obtain ⟨q, hq, he⟩ := fn_mu hG1
      obtain ⟨rfl, rfl⟩ := Prod.mk.inj he
      exact t_X8_takeNumber  hf  p1 p2 (m := (i0, l0)) hq hK
    · cases hG

/-! == X8_takePoint == -/
noncomputable def f_X8_takePoint (p1 : Int32) (m : fm_) : Option (Int32 × fm_) :=
  (Option.bind (f_X8_value m) fun q1 =>
(Option.bind (f_X8_kind q1.2) fun q4 =>
(if q4.1 = 3 then
(if ((p1 >>> (q1.1 &&& 31)) &&& 1) = 1 then
(Option.bind (f_X8_fail 5 q4.2) fun q14 =>
((some ((-1), q14.2))))
else
(Option.bind (f_X8_step q4.2) fun q11 =>
((some (q1.1, q11.2)))))
else
(Option.bind (f_X8_fail 2 q4.2) fun q17 =>
((some ((-1), q17.2)))))))
def sp_X8_takePoint : am_S := fn_sp [(94, fn_F, G_X8_value), (93, fn_F, G_X8_kind), (96, fn_F, G_X8_fail), (95, fn_F, G_X8_step)]
theorem sm_X8_takePoint : am_Smono (sp_X8_takePoint) := fn_sp_mono _
set_option maxRecDepth 100000 in
theorem t_X8_takePoint {n : Nat} {r : Nat → Nat → Option Nat} (hf : fn_F n r) {q : Int32 × fm_} (p1 : Int32) {m : fm_}
  (h : f_X8_takePoint p1 m = some q) {Q : Option Value → am_W → Prop} (hQ : Q (en_i q).1 (mk_ n r q.2)) : am_T m_X8_takePoint sp_X8_takePoint n Q 0 [some (.ref 1), some (.int p1), none] [] (mk_ n r m) :=
  am_T.wp sm_X8_takePoint (K := am_T m_X8_takePoint sp_X8_takePoint n Q) (cuts := []) (fun _ _ _ _ h => h) 21
    (fh_bd h fun q1 e2 h3 => ⟨Nat.le_of_ble_eq_true rfl, fn_aF hf rfl rfl, ⟨hf, some (.int q1.1), q1.2, gp_X8_value (n := n) (r := r)  e2, fun _ => fh_bd h3 fun q4 e5 h6 => ⟨Nat.le_of_ble_eq_true rfl, fn_aF hf rfl rfl, ⟨hf, some (.int q4.1), q4.2, gp_X8_kind (n := n) (r := r)  e5, fun _ => fh_if h6 (fun c7 h8 => fh_in h8 (fun c9 h10 => fh_bd h10 fun q11 e12 h13 => ⟨Nat.le_of_ble_eq_true rfl, fn_aF hf rfl rfl, ⟨hf, none, q11.2, gp_X8_step (n := n) (r := r)  e12, fun _ => ⟨rfl, ⟨rfl, fh_rt h13 hQ⟩⟩⟩⟩) (fun c9 h10 => fh_bd h10 fun q14 e15 h16 => ⟨Nat.le_of_ble_eq_true rfl, fn_aF hf rfl rfl, ⟨hf, some (.int q14.1), q14.2, gp_X8_fail (n := n) (r := r)  e15, fun _ => ⟨rfl, fh_rt h16 hQ⟩⟩⟩)) (fun c7 h8 => fh_bd h8 fun q17 e18 h19 => ⟨Nat.le_of_ble_eq_true rfl, fn_aF hf rfl rfl, ⟨hf, some (.int q17.1), q17.2, gp_X8_fail (n := n) (r := r)  e18, fun _ => ⟨rfl, fh_rt h19 hQ⟩⟩⟩)⟩⟩⟩⟩)
noncomputable def G_X8_takePoint (n : Nat) (r : Nat → Nat → Option Nat) (as : List Value) (m : fm_) : Option (Option Value × fm_) := match as with
  | [.ref x0, .int p1] => gd_ (Nat.beq x0 1) ((f_X8_takePoint p1 m).map en_i)
  | _ => none
set_option maxRecDepth 100000 in
theorem gp_X8_takePoint {n : Nat} {r : Nat → Nat → Option Nat}  {p1 : Int32} {m : fm_} {q : Int32 × fm_}  (e : f_X8_takePoint p1 m = some q) : G_X8_takePoint n r [.ref 1, .int p1] m = some (en_i q) := by
  show (gd_ (Nat.beq 1 1) ((f_X8_takePoint p1 m).map en_i)) = _
  exact fn_gd rfl (fn_mp e)
set_option maxRecDepth 100000 in
theorem ok_X8_takePoint : am_mok 8 99 m_X8_takePoint = true := by decide +kernel
set_option maxRecDepth 100000 in
theorem c_X8_takePoint (l : Launch) {g : am_G} (hg : fx_ l g) : am_Met l g 1 99 (fn_s fn_F G_X8_takePoint) := by
  refine am_sound (own := 8) (M := m_X8_takePoint) (SP := sp_X8_takePoint) hg.1 (by decide +kernel) ok_X8_takePoint (by decide +kernel) ?_ (fun q hq hk => absurd hk (am_no61 (M := m_X8_takePoint) (by decide +kernel) q hq)) (fn_ext l _ rfl g 8) (Or.inl (by decide +kernel)) ?_ ?_
  · intro q hq hk
    have hm : q.2.2.2.1 ∈ am_cs m_X8_takePoint := am_cs_in hq hk
    rw [show am_cs m_X8_takePoint = [94, 93, 96, 96, 95] by decide +kernel] at hm
    have hm : q.2.2.2.1 ∈ [93, 94, 95, 96] := (List.all_eq_true.mp (show ([94, 93, 96, 96, 95] : List Nat).all (fun a => decide (a ∈ ([93, 94, 95, 96] : List Nat))) = true by decide +kernel) _ hm |> of_decide_eq_true)
    simp only [List.mem_cons, List.not_mem_nil, or_false] at hm
    rcases hm with hm | hm | hm | hm
    · rw [hm]; exact ⟨0, by omega, c_X8_kind l hg⟩
    · rw [hm]; exact ⟨0, by omega, c_X8_value l hg⟩
    · rw [hm]; exact ⟨0, by omega, c_X8_step l hg⟩
    · rw [hm]; exact ⟨0, by omega, c_X8_fail l hg⟩
  · intro as w K h
    obtain ⟨hf, y, m1, hG, hK⟩ := h
    unfold G_X8_takePoint at hG
    split at hG
    · exact Nat.le_of_ble_eq_true rfl
    · cases hG
  · intro as w K h
    obtain ⟨n, i0, l0, r⟩ := w
    obtain ⟨hf, y, m1, hG, hK⟩ := h
    unfold G_X8_takePoint at hG
    split at hG
    · next x0 p1 =>
      obtain ⟨hx1, hG1⟩ := gd_u hG
      obtain rfl := Nat.eq_of_beq_eq_true hx1
      obtain ⟨q, hq, he⟩ := fn_mu hG1
      obtain ⟨rfl, rfl⟩ := Prod.mk.inj he
      exact t_X8_takePoint  hf  p1 (m := (i0, l0)) hq hK
    · cases hG

/-! == X9_readWay == -/
noncomputable def f_X9_readWay (t : Nat)  (m : fm_) : Option (Int32 × fm_) :=
  (if (gi_ m t 3) < 24 then
(Option.bind (f_X8_step m) fun q3 =>
(Option.bind (f_X8_takePoint 0 q3.2) fun q6 =>
(if q6.1 = (-1) then
((some (0, q6.2)))
else
(Option.bind (f_X8_takePoint (1 <<< (q6.1 &&& 31)) q6.2) fun q11 =>
(if q11.1 = (-1) then
((some (0, q11.2)))
else
(Option.bind (f_X8_takeNumber 1 99 q11.2) fun q16 =>
(if q16.1 = (-1) then
((some (0, q16.2)))
else
(Option.bind (f_X8_take 59 q16.2) fun q21 =>
(if q21.1 = 0 then
((some (0, q21.2)))
else
(gd_ (ix_ (gi_ q21.2 t 3) 24)
(gd_ (ix_ (gi_ (si_ q21.2 (t + 1) (Int32.toNatClampNeg (gi_ q21.2 t 3)) q6.1) t 3) 24)
(gd_ (ix_ (gi_ (si_ (si_ q21.2 (t + 1) (Int32.toNatClampNeg (gi_ q21.2 t 3)) q6.1) (t + 2) (Int32.toNatClampNeg (gi_ (si_ q21.2 (t + 1) (Int32.toNatClampNeg (gi_ q21.2 t 3)) q6.1) t 3)) q11.1) t 3) 24)
((some (1, (si_ (si_ (si_ (si_ q21.2 (t + 1) (Int32.toNatClampNeg (gi_ q21.2 t 3)) q6.1) (t + 2) (Int32.toNatClampNeg (gi_ (si_ q21.2 (t + 1) (Int32.toNatClampNeg (gi_ q21.2 t 3)) q6.1) t 3)) q11.1) (t + 3) (Int32.toNatClampNeg (gi_ (si_ (si_ q21.2 (t + 1) (Int32.toNatClampNeg (gi_ q21.2 t 3)) q6.1) (t + 2) (Int32.toNatClampNeg (gi_ (si_ q21.2 (t + 1) (Int32.toNatClampNeg (gi_ q21.2 t 3)) q6.1) t 3)) q11.1) t 3)) q16.1) t 3 ((gi_ (si_ (si_ (si_ q21.2 (t + 1) (Int32.toNatClampNeg (gi_ q21.2 t 3)) q6.1) (t + 2) (Int32.toNatClampNeg (gi_ (si_ q21.2 (t + 1) (Int32.toNatClampNeg (gi_ q21.2 t 3)) q6.1) t 3)) q11.1) (t + 3) (Int32.toNatClampNeg (gi_ (si_ (si_ q21.2 (t + 1) (Int32.toNatClampNeg (gi_ q21.2 t 3)) q6.1) (t + 2) (Int32.toNatClampNeg (gi_ (si_ q21.2 (t + 1) (Int32.toNatClampNeg (gi_ q21.2 t 3)) q6.1) t 3)) q11.1) t 3)) q16.1) t 3) + 1)))))))))))))))))
else
(Option.bind (f_X8_fail 2 m) fun q35 =>
(gd_ (bl_ q35.1)
((some (q35.1, q35.2))))))
def sp_X9_readWay : am_S := fn_sp [(96, fn_F, G_X8_fail), (95, fn_F, G_X8_step), (99, fn_F, G_X8_takePoint), (98, fn_F, G_X8_takeNumber), (97, fn_F, G_X8_take)]
theorem sm_X9_readWay : am_Smono (sp_X9_readWay) := fn_sp_mono _
set_option maxRecDepth 100000 in
theorem t_X9_readWay (t : Nat) {n : Nat} {r : Nat → Nat → Option Nat} (hf : fn_F n r) (ht : is_T t = true) {q : Int32 × fm_}  {m : fm_}
  (h : f_X9_readWay t  m = some q) {Q : Option Value → am_W → Prop} (hQ : Q (en_i q).1 (mk_ n r q.2)) : am_T m_X9_readWay sp_X9_readWay n Q 0 [some (.ref t), some (.ref 1), none, none, none] [] (mk_ n r m) :=
  am_T.wp sm_X9_readWay (K := am_T m_X9_readWay sp_X9_readWay n Q) (cuts := []) (fun _ _ _ _ h => h) 61
    (⟨fn_at0 hf ht rfl, fh_if h (fun c1 h2 => fh_bd h2 fun q3 e4 h5 => ⟨Nat.le_of_ble_eq_true rfl, fn_aF hf rfl rfl, ⟨hf, none, q3.2, gp_X8_step (n := n) (r := r)  e4, fun _ => ⟨rfl, fh_bd h5 fun q6 e7 h8 => ⟨Nat.le_of_ble_eq_true rfl, fn_aF hf rfl rfl, ⟨hf, some (.int q6.1), q6.2, gp_X8_takePoint (n := n) (r := r)  e7, fun _ => fh_in h8 (fun c9 h10 => fh_bd h10 fun q11 e12 h13 => ⟨Nat.le_of_ble_eq_true rfl, fn_aF hf rfl rfl, ⟨hf, some (.int q11.1), q11.2, gp_X8_takePoint (n := n) (r := r)  e12, fun _ => fh_in h13 (fun c14 h15 => fh_bd h15 fun q16 e17 h18 => ⟨Nat.le_of_ble_eq_true rfl, fn_aF hf rfl rfl, ⟨hf, some (.int q16.1), q16.2, gp_X8_takeNumber (n := n) (r := r)  e17, fun _ => fh_if h18 (fun c19 h20 => ⟨rfl, Or.inl rfl, fh_rt h20 hQ⟩) (fun c19 h20 => fh_bd h20 fun q21 e22 h23 => ⟨Nat.le_of_ble_eq_true rfl, fn_aF hf rfl rfl, ⟨hf, some (.int q21.1), q21.2, gp_X8_take (n := n) (r := r)  e22, fun _ => fh_in h23 (fun c24 h25 => ⟨fn_at0 hf ht rfl, Or.inl ⟨_, fn_rt0 hf ht, ⟨fn_at0 hf ht rfl, fh_gd h25 fun g27 h26 => ⟨24, fn_at1 hf ht rfl, ix_t g27, ⟨fn_at0 hf ht rfl, Or.inl ⟨_, fn_rt1 hf ht, ⟨fn_at0 hf ht rfl, fh_gd h26 fun g29 h28 => ⟨24, fn_at2 hf ht rfl, ix_t g29, ⟨fn_at0 hf ht rfl, Or.inl ⟨_, fn_rt2 hf ht, ⟨fn_at0 hf ht rfl, fh_gd h28 fun g31 h30 => ⟨24, fn_at3 hf ht rfl, ix_t g31, ⟨fn_at0 hf ht rfl, ⟨fn_at0 hf ht rfl, ⟨rfl, Or.inr rfl, fh_rt h30 hQ⟩⟩⟩⟩⟩⟩⟩⟩⟩⟩⟩⟩⟩⟩⟩) (fun c24 h25 => ⟨rfl, Or.inl rfl, fh_rt h25 hQ⟩)⟩⟩)⟩⟩) (fun c14 h15 => ⟨fun c32 => ⟨rfl, Or.inl rfl, fh_rt h15 hQ⟩, fun c32 => absurd c32 (by decide)⟩)⟩⟩) (fun c9 h10 => ⟨fun c33 => absurd c33 (by decide), fun c33 => ⟨fun c34 => ⟨rfl, Or.inl rfl, fh_rt h10 hQ⟩, fun c34 => absurd c34 (by decide)⟩⟩)⟩⟩⟩⟩⟩) (fun c1 h2 => fh_bd h2 fun q35 e36 h37 => ⟨Nat.le_of_ble_eq_true rfl, fn_aF hf rfl rfl, ⟨hf, some (.int q35.1), q35.2, gp_X8_fail (n := n) (r := r)  e36, fun _ => fh_gd h37 fun g39 h38 => ⟨rfl, bl_t g39, fh_rt h38 hQ⟩⟩⟩)⟩)
noncomputable def G_X9_readWay (n : Nat) (r : Nat → Nat → Option Nat) (as : List Value) (m : fm_) : Option (Option Value × fm_) := match as with
  | [.ref t, .ref z1] => gd_ (is_T t) (gd_ (Nat.beq z1 1) ((f_X9_readWay t m).map en_i))
  | _ => none
set_option maxRecDepth 100000 in
theorem gp_X9_readWay {n : Nat} {r : Nat → Nat → Option Nat} {t : Nat}  {m : fm_} {q : Int32 × fm_} (ht : is_T t = true) (e : f_X9_readWay t m = some q) : G_X9_readWay n r [.ref t, .ref 1] m = some (en_i q) := by
  show (gd_ (is_T t) (gd_ (Nat.beq 1 1) ((f_X9_readWay t m).map en_i))) = _
  exact fn_gd ht (fn_gd rfl (fn_mp e))
set_option maxRecDepth 100000 in
theorem ok_X9_readWay : am_mok 9 128 m_X9_readWay = true := by decide +kernel
set_option maxRecDepth 100000 in
theorem c_X9_readWay (l : Launch) {g : am_G} (hg : fx_ l g) : am_Met l g 2 128 (fn_s fn_F G_X9_readWay) := by
  refine am_sound (own := 9) (M := m_X9_readWay) (SP := sp_X9_readWay) hg.1 (by decide +kernel) ok_X9_readWay (by decide +kernel) ?_ (fun q hq hk => absurd hk (am_no61 (M := m_X9_readWay) (by decide +kernel) q hq)) (fn_ext l _ rfl g 9) (Or.inl (by decide +kernel)) ?_ ?_
  · intro q hq hk
    have hm : q.2.2.2.1 ∈ am_cs m_X9_readWay := am_cs_in hq hk
    rw [show am_cs m_X9_readWay = [96, 95, 99, 99, 98, 97] by decide +kernel] at hm
    have hm : q.2.2.2.1 ∈ [95, 96, 97, 98, 99] := (List.all_eq_true.mp (show ([96, 95, 99, 99, 98, 97] : List Nat).all (fun a => decide (a ∈ ([95, 96, 97, 98, 99] : List Nat))) = true by decide +kernel) _ hm |> of_decide_eq_true)
    simp only [List.mem_cons, List.not_mem_nil, or_false] at hm
    rcases hm with hm | hm | hm | hm | hm
    · rw [hm]; exact ⟨0, by omega, c_X8_step l hg⟩
    · rw [hm]; exact ⟨0, by omega, c_X8_fail l hg⟩
    · rw [hm]; exact ⟨1, by omega, c_X8_take l hg⟩
    · rw [hm]; exact ⟨1, by omega, c_X8_takeNumber l hg⟩
    · rw [hm]; exact ⟨1, by omega, c_X8_takePoint l hg⟩
  · intro as w K h
    obtain ⟨hf, y, m1, hG, hK⟩ := h
    unfold G_X9_readWay at hG
    split at hG
    · exact Nat.le_of_ble_eq_true rfl
    · cases hG
  · intro as w K h
    obtain ⟨n, i0, l0, r⟩ := w
    obtain ⟨hf, y, m1, hG, hK⟩ := h
    unfold G_X9_readWay at hG
    split at hG
    · next t z1 =>
      obtain ⟨ht, hG1⟩ := gd_u hG
      obtain ⟨hx2, hG2⟩ := gd_u hG1
      obtain rfl := Nat.eq_of_beq_eq_true hx2
      obtain ⟨q, hq, he⟩ := fn_mu hG2
      obtain ⟨rfl, rfl⟩ := Prod.mk.inj he
      exact t_X9_readWay t hf ht  (m := (i0, l0)) hq hK
    · cases hG

/-! == X9_readZone == -/
abbrev S_X9_readZone : Type := (Int32 × fm_)
noncomputable def st_X9_readZone (t : Nat) (s : S_X9_readZone) : Option (S_X9_readZone ⊕ (Int32 × fm_)) := match s with
  | (x2, m) =>
    (if 12 < x2 then
((some (Sum.inr (0, m))))
else
(if (gi_ m t 4) = 0 then
(Option.bind (f_X8_takePoint (gi_ m t 4) m) fun q5 =>
(if q5.1 = (-1) then
((some (Sum.inr (0, q5.2))))
else
((some (Sum.inl (((x2 + 1), (si_ q5.2 t 4 ((gi_ q5.2 t 4) ||| (1 <<< (q5.1 &&& 31)))))))))))
else
(Option.bind (f_X8_kind m) fun q10 =>
(if q10.1 = 59 then
(Option.bind (f_X8_step q10.2) fun q20 =>
((some (Sum.inr (1, q20.2)))))
else
(Option.bind (f_X8_takePoint (gi_ q10.2 t 4) q10.2) fun q15 =>
(if q15.1 = (-1) then
((some (Sum.inr (0, q15.2))))
else
((some (Sum.inl (((x2 + 1), (si_ q15.2 t 4 ((gi_ q15.2 t 4) ||| (1 <<< (q15.1 &&& 31)))))))))))))))
noncomputable def f_X9_readZone_19 (t : Nat) (x2 : Int32) (m : fm_) : Option (Int32 × fm_) := am_lp (st_X9_readZone t) ((x2, m))
theorem e_X9_readZone_19 (t : Nat) (x2 : Int32) (m : fm_) : f_X9_readZone_19 t x2 m =
(if 12 < x2 then
((some (0, m)))
else
(if (gi_ m t 4) = 0 then
(Option.bind (f_X8_takePoint (gi_ m t 4) m) fun q5 =>
(if q5.1 = (-1) then
((some (0, q5.2)))
else
((f_X9_readZone_19 t (x2 + 1) (si_ q5.2 t 4 ((gi_ q5.2 t 4) ||| (1 <<< (q5.1 &&& 31))))))))
else
(Option.bind (f_X8_kind m) fun q10 =>
(if q10.1 = 59 then
(Option.bind (f_X8_step q10.2) fun q20 =>
((some (1, q20.2))))
else
(Option.bind (f_X8_takePoint (gi_ q10.2 t 4) q10.2) fun q15 =>
(if q15.1 = (-1) then
((some (0, q15.2)))
else
((f_X9_readZone_19 t (x2 + 1) (si_ q15.2 t 4 ((gi_ q15.2 t 4) ||| (1 <<< (q15.1 &&& 31)))))))))))) :=
  (am_lp_eq _ _).trans (fe_if (rfl) (fe_if (fe_bd fun q5 => (fe_if (rfl) (rfl))) (fe_bd fun q10 => (fe_if (fe_bd fun q20 => (rfl)) (fe_bd fun q15 => (fe_if (rfl) (rfl)))))))
noncomputable def f_X9_readZone (t : Nat)  (m : fm_) : Option (Int32 × fm_) :=
  (if (gi_ m t 4) = 0 then
(Option.bind (f_X8_step m) fun q3 =>
((f_X9_readZone_19 t 0 q3.2)))
else
(Option.bind (f_X8_fail 2 m) fun q6 =>
(gd_ (bl_ q6.1)
((some (q6.1, q6.2))))))
def sp_X9_readZone : am_S := fn_sp [(96, fn_F, G_X8_fail), (95, fn_F, G_X8_step), (93, fn_F, G_X8_kind), (99, fn_F, G_X8_takePoint)]
theorem sm_X9_readZone : am_Smono (sp_X9_readZone) := fn_sp_mono _
def P_X9_readZone (t : Nat) (n : Nat) (r : Nat → Nat → Option Nat) (s : S_X9_readZone) (q : Int32 × fm_) : Prop := match s with
  | (x2, m) => ∀ (Q : Option Value → am_W → Prop) (y3 : Option Value), Q (en_i q).1 (mk_ n r q.2) → am_T m_X9_readZone sp_X9_readZone n Q 19 [some (.ref t), some (.ref 1), some (.int x2), y3] [] (mk_ n r m)
set_option maxRecDepth 100000 in
theorem t_X9_readZone_19 (t : Nat) {n : Nat} {r : Nat → Nat → Option Nat} (hf : fn_F n r) (ht : is_T t = true) {K : S_X9_readZone → Option (Int32 × fm_)} {q : Int32 × fm_} (hK : ∀ s, K s = some q → P_X9_readZone t n r s q) (x2 : Int32) (m : fm_)
  (h : am_k K (st_X9_readZone t ((x2, m))) = some q) : P_X9_readZone t n r ((x2, m)) q := fun Q y3 hQ =>
  am_T.wp sm_X9_readZone (K := am_T m_X9_readZone sp_X9_readZone n Q) (cuts := [19]) (fun _ _ _ _ h => h) 30
    (fj_if h (fun c1 h2 => ⟨rfl, Or.inl rfl, fj_rt h2 hQ⟩) (fun c1 h2 => ⟨fn_at0 hf ht rfl, fj_if h2 (fun c3 h4 => ⟨fn_at0 hf ht rfl, fj_bd h4 fun q5 e6 h7 => ⟨Nat.le_of_ble_eq_true rfl, fn_aF hf rfl rfl, ⟨hf, some (.int q5.1), q5.2, gp_X8_takePoint (n := n) (r := r)  e6, fun _ => fj_in h7 (fun c8 h9 => ⟨fn_at0 hf ht rfl, ⟨fn_at0 hf ht rfl, hK _ h9 _ _ hQ⟩⟩) (fun c8 h9 => ⟨rfl, Or.inl rfl, fj_rt h9 hQ⟩)⟩⟩⟩) (fun c3 h4 => fj_bd h4 fun q10 e11 h12 => ⟨Nat.le_of_ble_eq_true rfl, fn_aF hf rfl rfl, ⟨hf, some (.int q10.1), q10.2, gp_X8_kind (n := n) (r := r)  e11, fun _ => fj_in h12 (fun c13 h14 => ⟨fn_at0 hf ht rfl, fj_bd h14 fun q15 e16 h17 => ⟨Nat.le_of_ble_eq_true rfl, fn_aF hf rfl rfl, ⟨hf, some (.int q15.1), q15.2, gp_X8_takePoint (n := n) (r := r)  e16, fun _ => fj_in h17 (fun c18 h19 => ⟨fn_at0 hf ht rfl, ⟨fn_at0 hf ht rfl, hK _ h19 _ _ hQ⟩⟩) (fun c18 h19 => ⟨rfl, Or.inl rfl, fj_rt h19 hQ⟩)⟩⟩⟩) (fun c13 h14 => fj_bd h14 fun q20 e21 h22 => ⟨Nat.le_of_ble_eq_true rfl, fn_aF hf rfl rfl, ⟨hf, none, q20.2, gp_X8_step (n := n) (r := r)  e21, fun _ => ⟨rfl, ⟨rfl, Or.inr rfl, fj_rt h22 hQ⟩⟩⟩⟩)⟩⟩)⟩))
theorem l_X9_readZone (t : Nat) {n : Nat} {r : Nat → Nat → Option Nat} (hf : fn_F n r) (ht : is_T t = true) (s : S_X9_readZone) (q : Int32 × fm_) (h : am_lp (st_X9_readZone t) s = some q) : P_X9_readZone t n r s q :=
  am_lp_snd (P := P_X9_readZone t n r) (fun K hK s q h => match s, h with
    | (x2, m), h => t_X9_readZone_19 t hf ht (fun s => hK s q) x2 m h) s q h
set_option maxRecDepth 100000 in
theorem t_X9_readZone (t : Nat) {n : Nat} {r : Nat → Nat → Option Nat} (hf : fn_F n r) (ht : is_T t = true) {q : Int32 × fm_}  {m : fm_}
  (h : f_X9_readZone t  m = some q) {Q : Option Value → am_W → Prop} (hQ : Q (en_i q).1 (mk_ n r q.2)) : am_T m_X9_readZone sp_X9_readZone n Q 0 [some (.ref t), some (.ref 1), none, none] [] (mk_ n r m) :=
  am_T.wp sm_X9_readZone (K := am_T m_X9_readZone sp_X9_readZone n Q) (cuts := [19]) (fun _ _ _ _ h => h) 9
    (⟨fn_at0 hf ht rfl, fh_if h (fun c1 h2 => fh_bd h2 fun q3 e4 h5 => ⟨Nat.le_of_ble_eq_true rfl, fn_aF hf rfl rfl, ⟨hf, none, q3.2, gp_X8_step (n := n) (r := r)  e4, fun _ => ⟨rfl, l_X9_readZone t hf ht _ _ h5 _ _ hQ⟩⟩⟩) (fun c1 h2 => fh_bd h2 fun q6 e7 h8 => ⟨Nat.le_of_ble_eq_true rfl, fn_aF hf rfl rfl, ⟨hf, some (.int q6.1), q6.2, gp_X8_fail (n := n) (r := r)  e7, fun _ => fh_gd h8 fun g10 h9 => ⟨rfl, bl_t g10, fh_rt h9 hQ⟩⟩⟩)⟩)
noncomputable def G_X9_readZone (n : Nat) (r : Nat → Nat → Option Nat) (as : List Value) (m : fm_) : Option (Option Value × fm_) := match as with
  | [.ref t, .ref z1] => gd_ (is_T t) (gd_ (Nat.beq z1 1) ((f_X9_readZone t m).map en_i))
  | _ => none
set_option maxRecDepth 100000 in
theorem gp_X9_readZone {n : Nat} {r : Nat → Nat → Option Nat} {t : Nat}  {m : fm_} {q : Int32 × fm_} (ht : is_T t = true) (e : f_X9_readZone t m = some q) : G_X9_readZone n r [.ref t, .ref 1] m = some (en_i q) := by
  show (gd_ (is_T t) (gd_ (Nat.beq 1 1) ((f_X9_readZone t m).map en_i))) = _
  exact fn_gd ht (fn_gd rfl (fn_mp e))
set_option maxRecDepth 100000 in
theorem ok_X9_readZone : am_mok 9 129 m_X9_readZone = true := by decide +kernel
set_option maxRecDepth 100000 in
theorem c_X9_readZone (l : Launch) {g : am_G} (hg : fx_ l g) : am_Met l g 2 129 (fn_s fn_F G_X9_readZone) := by
  refine am_sound (own := 9) (M := m_X9_readZone) (SP := sp_X9_readZone) hg.1 (by decide +kernel) ok_X9_readZone (by decide +kernel) ?_ (fun q hq hk => absurd hk (am_no61 (M := m_X9_readZone) (by decide +kernel) q hq)) (fn_ext l _ rfl g 9) (Or.inl (by decide +kernel)) ?_ ?_
  · intro q hq hk
    have hm : q.2.2.2.1 ∈ am_cs m_X9_readZone := am_cs_in hq hk
    rw [show am_cs m_X9_readZone = [96, 95, 93, 95, 99] by decide +kernel] at hm
    have hm : q.2.2.2.1 ∈ [93, 95, 96, 99] := (List.all_eq_true.mp (show ([96, 95, 93, 95, 99] : List Nat).all (fun a => decide (a ∈ ([93, 95, 96, 99] : List Nat))) = true by decide +kernel) _ hm |> of_decide_eq_true)
    simp only [List.mem_cons, List.not_mem_nil, or_false] at hm
    rcases hm with hm | hm | hm | hm
    · rw [hm]; exact ⟨0, by omega, c_X8_kind l hg⟩
    · rw [hm]; exact ⟨0, by omega, c_X8_step l hg⟩
    · rw [hm]; exact ⟨0, by omega, c_X8_fail l hg⟩
    · rw [hm]; exact ⟨1, by omega, c_X8_takePoint l hg⟩
  · intro as w K h
    obtain ⟨hf, y, m1, hG, hK⟩ := h
    unfold G_X9_readZone at hG
    split at hG
    · exact Nat.le_of_ble_eq_true rfl
    · cases hG
  · intro as w K h
    obtain ⟨n, i0, l0, r⟩ := w
    obtain ⟨hf, y, m1, hG, hK⟩ := h
    unfold G_X9_readZone at hG
    split at hG
    · next t z1 =>
      obtain ⟨ht, hG1⟩ := gd_u hG
      obtain ⟨hx2, hG2⟩ := gd_u hG1
      obtain rfl := Nat.eq_of_beq_eq_true hx2
      obtain ⟨q, hq, he⟩ := fn_mu hG2
      obtain ⟨rfl, rfl⟩ := Prod.mk.inj he
      exact t_X9_readZone t hf ht  (m := (i0, l0)) hq hK
    · cases hG

/-! == X9_readCamera == -/
noncomputable def f_X9_readCamera (t : Nat)  (m : fm_) : Option (Int32 × fm_) :=
  (if (gi_ m t 8) < 8 then
(Option.bind (f_X8_step m) fun q3 =>
(Option.bind (f_X8_takePoint (gi_ q3.2 t 9) q3.2) fun q6 =>
(if q6.1 = (-1) then
((some (0, q6.2)))
else
(Option.bind (f_X8_take 103 q6.2) fun q11 =>
(if q11.1 = 0 then
((some (0, q11.2)))
else
(Option.bind (f_X8_takeNumber 0 1440 q11.2) fun q16 =>
(if q16.1 = (-1) then
((some (0, q16.2)))
else
(Option.bind (f_X8_take 104 q16.2) fun q21 =>
(if q21.1 = 0 then
((some (0, q21.2)))
else
(Option.bind (f_X8_takeNumber (q16.1 + 1) 1440 q21.2) fun q26 =>
(if q26.1 = (-1) then
((some (0, q26.2)))
else
(Option.bind (f_X8_take 59 q26.2) fun q31 =>
(if q31.1 = 0 then
((some (0, q31.2)))
else
(gd_ (ix_ (gi_ q31.2 t 8) 8)
(gd_ (ix_ (gi_ (si_ q31.2 (t + 4) (Int32.toNatClampNeg (gi_ q31.2 t 8)) q6.1) t 8) 8)
(gd_ (ix_ (gi_ (si_ (si_ q31.2 (t + 4) (Int32.toNatClampNeg (gi_ q31.2 t 8)) q6.1) (t + 5) (Int32.toNatClampNeg (gi_ (si_ q31.2 (t + 4) (Int32.toNatClampNeg (gi_ q31.2 t 8)) q6.1) t 8)) q16.1) t 8) 8)
((some (1, (si_ (si_ (si_ (si_ (si_ q31.2 (t + 4) (Int32.toNatClampNeg (gi_ q31.2 t 8)) q6.1) (t + 5) (Int32.toNatClampNeg (gi_ (si_ q31.2 (t + 4) (Int32.toNatClampNeg (gi_ q31.2 t 8)) q6.1) t 8)) q16.1) (t + 6) (Int32.toNatClampNeg (gi_ (si_ (si_ q31.2 (t + 4) (Int32.toNatClampNeg (gi_ q31.2 t 8)) q6.1) (t + 5) (Int32.toNatClampNeg (gi_ (si_ q31.2 (t + 4) (Int32.toNatClampNeg (gi_ q31.2 t 8)) q6.1) t 8)) q16.1) t 8)) q26.1) t 9 ((gi_ (si_ (si_ (si_ q31.2 (t + 4) (Int32.toNatClampNeg (gi_ q31.2 t 8)) q6.1) (t + 5) (Int32.toNatClampNeg (gi_ (si_ q31.2 (t + 4) (Int32.toNatClampNeg (gi_ q31.2 t 8)) q6.1) t 8)) q16.1) (t + 6) (Int32.toNatClampNeg (gi_ (si_ (si_ q31.2 (t + 4) (Int32.toNatClampNeg (gi_ q31.2 t 8)) q6.1) (t + 5) (Int32.toNatClampNeg (gi_ (si_ q31.2 (t + 4) (Int32.toNatClampNeg (gi_ q31.2 t 8)) q6.1) t 8)) q16.1) t 8)) q26.1) t 9) ||| (1 <<< (q6.1 &&& 31)))) t 8 ((gi_ (si_ (si_ (si_ (si_ q31.2 (t + 4) (Int32.toNatClampNeg (gi_ q31.2 t 8)) q6.1) (t + 5) (Int32.toNatClampNeg (gi_ (si_ q31.2 (t + 4) (Int32.toNatClampNeg (gi_ q31.2 t 8)) q6.1) t 8)) q16.1) (t + 6) (Int32.toNatClampNeg (gi_ (si_ (si_ q31.2 (t + 4) (Int32.toNatClampNeg (gi_ q31.2 t 8)) q6.1) (t + 5) (Int32.toNatClampNeg (gi_ (si_ q31.2 (t + 4) (Int32.toNatClampNeg (gi_ q31.2 t 8)) q6.1) t 8)) q16.1) t 8)) q26.1) t 9 ((gi_ (si_ (si_ (si_ q31.2 (t + 4) (Int32.toNatClampNeg (gi_ q31.2 t 8)) q6.1) (t + 5) (Int32.toNatClampNeg (gi_ (si_ q31.2 (t + 4) (Int32.toNatClampNeg (gi_ q31.2 t 8)) q6.1) t 8)) q16.1) (t + 6) (Int32.toNatClampNeg (gi_ (si_ (si_ q31.2 (t + 4) (Int32.toNatClampNeg (gi_ q31.2 t 8)) q6.1) (t + 5) (Int32.toNatClampNeg (gi_ (si_ q31.2 (t + 4) (Int32.toNatClampNeg (gi_ q31.2 t 8)) q6.1) t 8)) q16.1) t 8)) q26.1) t 9) ||| (1 <<< (q6.1 &&& 31)))) t 8) + 1)))))))))))))))))))))
else
(Option.bind (f_X8_fail 2 m) fun q42 =>
(gd_ (bl_ q42.1)
((some (q42.1, q42.2))))))
def sp_X9_readCamera : am_S := fn_sp [(96, fn_F, G_X8_fail), (95, fn_F, G_X8_step), (99, fn_F, G_X8_takePoint), (97, fn_F, G_X8_take), (98, fn_F, G_X8_takeNumber)]
theorem sm_X9_readCamera : am_Smono (sp_X9_readCamera) := fn_sp_mono _
set_option maxRecDepth 100000 in
theorem t_X9_readCamera (t : Nat) {n : Nat} {r : Nat → Nat → Option Nat} (hf : fn_F n r) (ht : is_T t = true) {q : Int32 × fm_}  {m : fm_}
  (h : f_X9_readCamera t  m = some q) {Q : Option Value → am_W → Prop} (hQ : Q (en_i q).1 (mk_ n r q.2)) : am_T m_X9_readCamera sp_X9_readCamera n Q 0 [some (.ref t), some (.ref 1), none, none, none] [] (mk_ n r m) :=
  am_T.wp sm_X9_readCamera (K := am_T m_X9_readCamera sp_X9_readCamera n Q) (cuts := []) (fun _ _ _ _ h => h) 79
    (⟨fn_at0 hf ht rfl, fh_if h (fun c1 h2 => fh_bd h2 fun q3 e4 h5 => ⟨Nat.le_of_ble_eq_true rfl, fn_aF hf rfl rfl, ⟨hf, none, q3.2, gp_X8_step (n := n) (r := r)  e4, fun _ => ⟨rfl, ⟨fn_at0 hf ht rfl, fh_bd h5 fun q6 e7 h8 => ⟨Nat.le_of_ble_eq_true rfl, fn_aF hf rfl rfl, ⟨hf, some (.int q6.1), q6.2, gp_X8_takePoint (n := n) (r := r)  e7, fun _ => fh_if h8 (fun c9 h10 => ⟨rfl, Or.inl rfl, fh_rt h10 hQ⟩) (fun c9 h10 => fh_bd h10 fun q11 e12 h13 => ⟨Nat.le_of_ble_eq_true rfl, fn_aF hf rfl rfl, ⟨hf, some (.int q11.1), q11.2, gp_X8_take (n := n) (r := r)  e12, fun _ => fh_in h13 (fun c14 h15 => fh_bd h15 fun q16 e17 h18 => ⟨Nat.le_of_ble_eq_true rfl, fn_aF hf rfl rfl, ⟨hf, some (.int q16.1), q16.2, gp_X8_takeNumber (n := n) (r := r)  e17, fun _ => fh_if h18 (fun c19 h20 => ⟨rfl, Or.inl rfl, fh_rt h20 hQ⟩) (fun c19 h20 => fh_bd h20 fun q21 e22 h23 => ⟨Nat.le_of_ble_eq_true rfl, fn_aF hf rfl rfl, ⟨hf, some (.int q21.1), q21.2, gp_X8_take (n := n) (r := r)  e22, fun _ => fh_in h23 (fun c24 h25 => fh_bd h25 fun q26 e27 h28 => ⟨Nat.le_of_ble_eq_true rfl, fn_aF hf rfl rfl, ⟨hf, some (.int q26.1), q26.2, gp_X8_takeNumber (n := n) (r := r)  e27, fun _ => fh_if h28 (fun c29 h30 => ⟨rfl, Or.inl rfl, fh_rt h30 hQ⟩) (fun c29 h30 => fh_bd h30 fun q31 e32 h33 => ⟨Nat.le_of_ble_eq_true rfl, fn_aF hf rfl rfl, ⟨hf, some (.int q31.1), q31.2, gp_X8_take (n := n) (r := r)  e32, fun _ => fh_in h33 (fun c34 h35 => ⟨fn_at0 hf ht rfl, Or.inl ⟨_, fn_rt5 hf ht, ⟨fn_at0 hf ht rfl, fh_gd h35 fun g37 h36 => ⟨8, fn_at4 hf ht rfl, ix_t g37, ⟨fn_at0 hf ht rfl, Or.inl ⟨_, fn_rt6 hf ht, ⟨fn_at0 hf ht rfl, fh_gd h36 fun g39 h38 => ⟨8, fn_at5 hf ht rfl, ix_t g39, ⟨fn_at0 hf ht rfl, Or.inl ⟨_, fn_rt7 hf ht, ⟨fn_at0 hf ht rfl, fh_gd h38 fun g41 h40 => ⟨8, fn_at6 hf ht rfl, ix_t g41, ⟨fn_at0 hf ht rfl, ⟨fn_at0 hf ht rfl, ⟨fn_at0 hf ht rfl, ⟨fn_at0 hf ht rfl, ⟨rfl, Or.inr rfl, fh_rt h40 hQ⟩⟩⟩⟩⟩⟩⟩⟩⟩⟩⟩⟩⟩⟩⟩⟩⟩) (fun c34 h35 => ⟨rfl, Or.inl rfl, fh_rt h35 hQ⟩)⟩⟩)⟩⟩) (fun c24 h25 => ⟨rfl, Or.inl rfl, fh_rt h25 hQ⟩)⟩⟩)⟩⟩) (fun c14 h15 => ⟨rfl, Or.inl rfl, fh_rt h15 hQ⟩)⟩⟩)⟩⟩⟩⟩⟩⟩) (fun c1 h2 => fh_bd h2 fun q42 e43 h44 => ⟨Nat.le_of_ble_eq_true rfl, fn_aF hf rfl rfl, ⟨hf, some (.int q42.1), q42.2, gp_X8_fail (n := n) (r := r)  e43, fun _ => fh_gd h44 fun g46 h45 => ⟨rfl, bl_t g46, fh_rt h45 hQ⟩⟩⟩)⟩)
noncomputable def G_X9_readCamera (n : Nat) (r : Nat → Nat → Option Nat) (as : List Value) (m : fm_) : Option (Option Value × fm_) := match as with
  | [.ref t, .ref z1] => gd_ (is_T t) (gd_ (Nat.beq z1 1) ((f_X9_readCamera t m).map en_i))
  | _ => none
set_option maxRecDepth 100000 in
theorem gp_X9_readCamera {n : Nat} {r : Nat → Nat → Option Nat} {t : Nat}  {m : fm_} {q : Int32 × fm_} (ht : is_T t = true) (e : f_X9_readCamera t m = some q) : G_X9_readCamera n r [.ref t, .ref 1] m = some (en_i q) := by
  show (gd_ (is_T t) (gd_ (Nat.beq 1 1) ((f_X9_readCamera t m).map en_i))) = _
  exact fn_gd ht (fn_gd rfl (fn_mp e))
set_option maxRecDepth 100000 in
theorem ok_X9_readCamera : am_mok 9 130 m_X9_readCamera = true := by decide +kernel
set_option maxRecDepth 100000 in
theorem c_X9_readCamera (l : Launch) {g : am_G} (hg : fx_ l g) : am_Met l g 2 130 (fn_s fn_F G_X9_readCamera) := by
  refine am_sound (own := 9) (M := m_X9_readCamera) (SP := sp_X9_readCamera) hg.1 (by decide +kernel) ok_X9_readCamera (by decide +kernel) ?_ (fun q hq hk => absurd hk (am_no61 (M := m_X9_readCamera) (by decide +kernel) q hq)) (fn_ext l _ rfl g 9) (Or.inl (by decide +kernel)) ?_ ?_
  · intro q hq hk
    have hm : q.2.2.2.1 ∈ am_cs m_X9_readCamera := am_cs_in hq hk
    rw [show am_cs m_X9_readCamera = [96, 95, 99, 97, 98, 97, 98, 97] by decide +kernel] at hm
    have hm : q.2.2.2.1 ∈ [95, 96, 97, 98, 99] := (List.all_eq_true.mp (show ([96, 95, 99, 97, 98, 97, 98, 97] : List Nat).all (fun a => decide (a ∈ ([95, 96, 97, 98, 99] : List Nat))) = true by decide +kernel) _ hm |> of_decide_eq_true)
    simp only [List.mem_cons, List.not_mem_nil, or_false] at hm
    rcases hm with hm | hm | hm | hm | hm
    · rw [hm]; exact ⟨0, by omega, c_X8_step l hg⟩
    · rw [hm]; exact ⟨0, by omega, c_X8_fail l hg⟩
    · rw [hm]; exact ⟨1, by omega, c_X8_take l hg⟩
    · rw [hm]; exact ⟨1, by omega, c_X8_takeNumber l hg⟩
    · rw [hm]; exact ⟨1, by omega, c_X8_takePoint l hg⟩
  · intro as w K h
    obtain ⟨hf, y, m1, hG, hK⟩ := h
    unfold G_X9_readCamera at hG
    split at hG
    · exact Nat.le_of_ble_eq_true rfl
    · cases hG
  · intro as w K h
    obtain ⟨n, i0, l0, r⟩ := w
    obtain ⟨hf, y, m1, hG, hK⟩ := h
    unfold G_X9_readCamera at hG
    split at hG
    · next t z1 =>
      obtain ⟨ht, hG1⟩ := gd_u hG
      obtain ⟨hx2, hG2⟩ := gd_u hG1
      obtain rfl := Nat.eq_of_beq_eq_true hx2
      obtain ⟨q, hq, he⟩ := fn_mu hG2
      obtain ⟨rfl, rfl⟩ := Prod.mk.inj he
      exact t_X9_readCamera t hf ht  (m := (i0, l0)) hq hK
    · cases hG

/-! == X9_readLine == -/
noncomputable def f_X9_readLine (t : Nat)  (m : fm_) : Option (Int32 × fm_) :=
  (Option.bind (f_X8_kind m) fun q1 =>
(if q1.1 = 100 then
(Option.bind (f_X9_readWay t q1.2) fun q6 =>
(gd_ (bl_ q6.1)
((some (q6.1, q6.2)))))
else
(if q1.1 = 101 then
(Option.bind (f_X9_readZone t q1.2) fun q13 =>
(gd_ (bl_ q13.1)
((some (q13.1, q13.2)))))
else
(if q1.1 = 102 then
(Option.bind (f_X9_readCamera t q1.2) fun q20 =>
(gd_ (bl_ q20.1)
((some (q20.1, q20.2)))))
else
(Option.bind (f_X8_fail 2 q1.2) fun q25 =>
(gd_ (bl_ q25.1)
((some (q25.1, q25.2)))))))))
def sp_X9_readLine : am_S := fn_sp [(93, fn_F, G_X8_kind), (128, fn_F, G_X9_readWay), (129, fn_F, G_X9_readZone), (130, fn_F, G_X9_readCamera), (96, fn_F, G_X8_fail)]
theorem sm_X9_readLine : am_Smono (sp_X9_readLine) := fn_sp_mono _
set_option maxRecDepth 100000 in
theorem t_X9_readLine (t : Nat) {n : Nat} {r : Nat → Nat → Option Nat} (hf : fn_F n r) (ht : is_T t = true) {q : Int32 × fm_}  {m : fm_}
  (h : f_X9_readLine t  m = some q) {Q : Option Value → am_W → Prop} (hQ : Q (en_i q).1 (mk_ n r q.2)) : am_T m_X9_readLine sp_X9_readLine n Q 0 [some (.ref t), some (.ref 1)] [] (mk_ n r m) :=
  am_T.wp sm_X9_readLine (K := am_T m_X9_readLine sp_X9_readLine n Q) (cuts := []) (fun _ _ _ _ h => h) 8
    (fh_bd h fun q1 e2 h3 => ⟨Nat.le_of_ble_eq_true rfl, fn_aF hf rfl rfl, ⟨hf, some (.int q1.1), q1.2, gp_X8_kind (n := n) (r := r)  e2, fun _ => ⟨fun c4 => have h5 := fh_t h3 c4; fh_bd h5 fun q6 e7 h8 => ⟨Nat.le_of_ble_eq_true rfl, fn_at0 hf ht rfl, ⟨hf, some (.int q6.1), q6.2, gp_X9_readWay (n := n) (r := r) ht e7, fun _ => fh_gd h8 fun g10 h9 => ⟨rfl, bl_t g10, fh_rt h9 hQ⟩⟩⟩, fun c4 => have h5 := fh_f h3 c4; am_swc (fh_if h5 (fun c11 h12 => fh_bd h12 fun q13 e14 h15 => ⟨Nat.le_of_ble_eq_true rfl, fn_at0 hf ht rfl, ⟨hf, some (.int q13.1), q13.2, gp_X9_readZone (n := n) (r := r) ht e14, fun _ => fh_gd h15 fun g17 h16 => ⟨rfl, bl_t g17, fh_rt h16 hQ⟩⟩⟩) (fun c11 h12 => am_swc (fh_if h12 (fun c18 h19 => fh_bd h19 fun q20 e21 h22 => ⟨Nat.le_of_ble_eq_true rfl, fn_at0 hf ht rfl, ⟨hf, some (.int q20.1), q20.2, gp_X9_readCamera (n := n) (r := r) ht e21, fun _ => fh_gd h22 fun g24 h23 => ⟨rfl, bl_t g24, fh_rt h23 hQ⟩⟩⟩) (fun c18 h19 => am_swn (fh_bd h19 fun q25 e26 h27 => ⟨Nat.le_of_ble_eq_true rfl, fn_aF hf rfl rfl, ⟨hf, some (.int q25.1), q25.2, gp_X8_fail (n := n) (r := r)  e26, fun _ => fh_gd h27 fun g29 h28 => ⟨rfl, bl_t g29, fh_rt h28 hQ⟩⟩⟩)))))⟩⟩⟩)
noncomputable def G_X9_readLine (n : Nat) (r : Nat → Nat → Option Nat) (as : List Value) (m : fm_) : Option (Option Value × fm_) := match as with
  | [.ref t, .ref z1] => gd_ (is_T t) (gd_ (Nat.beq z1 1) ((f_X9_readLine t m).map en_i))
  | _ => none
set_option maxRecDepth 100000 in
theorem gp_X9_readLine {n : Nat} {r : Nat → Nat → Option Nat} {t : Nat}  {m : fm_} {q : Int32 × fm_} (ht : is_T t = true) (e : f_X9_readLine t m = some q) : G_X9_readLine n r [.ref t, .ref 1] m = some (en_i q) := by
  show (gd_ (is_T t) (gd_ (Nat.beq 1 1) ((f_X9_readLine t m).map en_i))) = _
  exact fn_gd ht (fn_gd rfl (fn_mp e))
set_option maxRecDepth 100000 in
theorem ok_X9_readLine : am_mok 9 127 m_X9_readLine = true := by decide +kernel
set_option maxRecDepth 100000 in
theorem c_X9_readLine (l : Launch) {g : am_G} (hg : fx_ l g) : am_Met l g 3 127 (fn_s fn_F G_X9_readLine) := by
  refine am_sound (own := 9) (M := m_X9_readLine) (SP := sp_X9_readLine) hg.1 (by decide +kernel) ok_X9_readLine (by decide +kernel) ?_ (fun q hq hk => absurd hk (am_no61 (M := m_X9_readLine) (by decide +kernel) q hq)) (fn_ext l _ rfl g 9) (Or.inl (by decide +kernel)) ?_ ?_
  · intro q hq hk
    have hm : q.2.2.2.1 ∈ am_cs m_X9_readLine := am_cs_in hq hk
    rw [show am_cs m_X9_readLine = [93, 128, 129, 130, 96] by decide +kernel] at hm
    have hm : q.2.2.2.1 ∈ [93, 96, 128, 129, 130] := (List.all_eq_true.mp (show ([93, 128, 129, 130, 96] : List Nat).all (fun a => decide (a ∈ ([93, 96, 128, 129, 130] : List Nat))) = true by decide +kernel) _ hm |> of_decide_eq_true)
    simp only [List.mem_cons, List.not_mem_nil, or_false] at hm
    rcases hm with hm | hm | hm | hm | hm
    · rw [hm]; exact ⟨0, by omega, c_X8_kind l hg⟩
    · rw [hm]; exact ⟨0, by omega, c_X8_fail l hg⟩
    · rw [hm]; exact ⟨2, by omega, c_X9_readWay l hg⟩
    · rw [hm]; exact ⟨2, by omega, c_X9_readZone l hg⟩
    · rw [hm]; exact ⟨2, by omega, c_X9_readCamera l hg⟩
  · intro as w K h
    obtain ⟨hf, y, m1, hG, hK⟩ := h
    unfold G_X9_readLine at hG
    split at hG
    · exact Nat.le_of_ble_eq_true rfl
    · cases hG
  · intro as w K h
    obtain ⟨n, i0, l0, r⟩ := w
    obtain ⟨hf, y, m1, hG, hK⟩ := h
    unfold G_X9_readLine at hG
    split at hG
    · next t z1 =>
      obtain ⟨ht, hG1⟩ := gd_u hG
      obtain ⟨hx2, hG2⟩ := gd_u hG1
      obtain rfl := Nat.eq_of_beq_eq_true hx2
      obtain ⟨q, hq, he⟩ := fn_mu hG2
      obtain ⟨rfl, rfl⟩ := Prod.mk.inj he
      exact t_X9_readLine t hf ht  (m := (i0, l0)) hq hK
    · cases hG

/-! == X9_readLines == -/
abbrev S_X9_readLines : Type := (Int32 × fm_)
noncomputable def st_X9_readLines (t : Nat) (s : S_X9_readLines) : Option (S_X9_readLines ⊕ (Int32 × fm_)) := match s with
  | (x2, m) =>
    (if 900 ≤ x2 then
((some (Sum.inr (x2, m))))
else
(Option.bind (f_X8_kind m) fun q3 =>
(if q3.1 = 0 then
((some (Sum.inr (x2, q3.2))))
else
(Option.bind (f_X9_readLine t q3.2) fun q8 =>
(if q8.1 = 0 then
((some (Sum.inr ((-1), q8.2))))
else
((some (Sum.inl (((x2 + 1), q8.2))))))))))
noncomputable def f_X9_readLines_22 (t : Nat) (x2 : Int32) (m : fm_) : Option (Int32 × fm_) := am_lp (st_X9_readLines t) ((x2, m))
theorem e_X9_readLines_22 (t : Nat) (x2 : Int32) (m : fm_) : f_X9_readLines_22 t x2 m =
(if 900 ≤ x2 then
((some (x2, m)))
else
(Option.bind (f_X8_kind m) fun q3 =>
(if q3.1 = 0 then
((some (x2, q3.2)))
else
(Option.bind (f_X9_readLine t q3.2) fun q8 =>
(if q8.1 = 0 then
((some ((-1), q8.2)))
else
((f_X9_readLines_22 t (x2 + 1) q8.2))))))) :=
  (am_lp_eq _ _).trans (fe_if (rfl) (fe_bd fun q3 => (fe_if (rfl) (fe_bd fun q8 => (fe_if (rfl) (rfl))))))
noncomputable def f_X9_readLines (t : Nat)  (m : fm_) : Option (Int32 × fm_) :=
  ((f_X9_readLines_22 t 0 (si_ (si_ (si_ (si_ m t 3 0) t 4 0) t 8 0) t 9 0)))
def sp_X9_readLines : am_S := fn_sp [(93, fn_F, G_X8_kind), (127, fn_F, G_X9_readLine)]
theorem sm_X9_readLines : am_Smono (sp_X9_readLines) := fn_sp_mono _
def P_X9_readLines (t : Nat) (n : Nat) (r : Nat → Nat → Option Nat) (s : S_X9_readLines) (q : Int32 × fm_) : Prop := match s with
  | (x2, m) => ∀ (Q : Option Value → am_W → Prop), Q (en_i q).1 (mk_ n r q.2) → am_T m_X9_readLines sp_X9_readLines n Q 22 [some (.ref t), some (.ref 1), some (.int x2)] [] (mk_ n r m)
set_option maxRecDepth 100000 in
theorem t_X9_readLines_22 (t : Nat) {n : Nat} {r : Nat → Nat → Option Nat} (hf : fn_F n r) (ht : is_T t = true) {K : S_X9_readLines → Option (Int32 × fm_)} {q : Int32 × fm_} (hK : ∀ s, K s = some q → P_X9_readLines t n r s q) (x2 : Int32) (m : fm_)
  (h : am_k K (st_X9_readLines t ((x2, m))) = some q) : P_X9_readLines t n r ((x2, m)) q := fun Q hQ =>
  am_T.wp sm_X9_readLines (K := am_T m_X9_readLines sp_X9_readLines n Q) (cuts := [22]) (fun _ _ _ _ h => h) 14
    (fj_if h (fun c1 h2 => ⟨rfl, fj_rt h2 hQ⟩) (fun c1 h2 => fj_bd h2 fun q3 e4 h5 => ⟨Nat.le_of_ble_eq_true rfl, fn_aF hf rfl rfl, ⟨hf, some (.int q3.1), q3.2, gp_X8_kind (n := n) (r := r)  e4, fun _ => fj_if h5 (fun c6 h7 => ⟨rfl, fj_rt h7 hQ⟩) (fun c6 h7 => fj_bd h7 fun q8 e9 h10 => ⟨Nat.le_of_ble_eq_true rfl, fn_at0 hf ht rfl, ⟨hf, some (.int q8.1), q8.2, gp_X9_readLine (n := n) (r := r) ht e9, fun _ => fj_in h10 (fun c11 h12 => hK _ h12 _ hQ) (fun c11 h12 => ⟨rfl, fj_rt h12 hQ⟩)⟩⟩)⟩⟩))
theorem l_X9_readLines (t : Nat) {n : Nat} {r : Nat → Nat → Option Nat} (hf : fn_F n r) (ht : is_T t = true) (s : S_X9_readLines) (q : Int32 × fm_) (h : am_lp (st_X9_readLines t) s = some q) : P_X9_readLines t n r s q :=
  am_lp_snd (P := P_X9_readLines t n r) (fun K hK s q h => match s, h with
    | (x2, m), h => t_X9_readLines_22 t hf ht (fun s => hK s q) x2 m h) s q h
set_option maxRecDepth 100000 in
theorem t_X9_readLines (t : Nat) {n : Nat} {r : Nat → Nat → Option Nat} (hf : fn_F n r) (ht : is_T t = true) {q : Int32 × fm_}  {m : fm_}
  (h : f_X9_readLines t  m = some q) {Q : Option Value → am_W → Prop} (hQ : Q (en_i q).1 (mk_ n r q.2)) : am_T m_X9_readLines sp_X9_readLines n Q 0 [some (.ref t), some (.ref 1), none] [] (mk_ n r m) :=
  am_T.wp sm_X9_readLines (K := am_T m_X9_readLines sp_X9_readLines n Q) (cuts := [22]) (fun _ _ _ _ h => h) 16
    (⟨fn_at0 hf ht rfl, ⟨fn_at0 hf ht rfl, ⟨fn_at0 hf ht rfl, ⟨fn_at0 hf ht rfl, l_X9_readLines t hf ht _ _ h _ hQ⟩⟩⟩⟩)
noncomputable def G_X9_readLines (n : Nat) (r : Nat → Nat → Option Nat) (as : List Value) (m : fm_) : Option (Option Value × fm_) := match as with
  | [.ref t, .ref z1] => gd_ (is_T t) (gd_ (Nat.beq z1 1) ((f_X9_readLines t m).map en_i))
  | _ => none
set_option maxRecDepth 100000 in
theorem gp_X9_readLines {n : Nat} {r : Nat → Nat → Option Nat} {t : Nat}  {m : fm_} {q : Int32 × fm_} (ht : is_T t = true) (e : f_X9_readLines t m = some q) : G_X9_readLines n r [.ref t, .ref 1] m = some (en_i q) := by
  show (gd_ (is_T t) (gd_ (Nat.beq 1 1) ((f_X9_readLines t m).map en_i))) = _
  exact fn_gd ht (fn_gd rfl (fn_mp e))
set_option maxRecDepth 100000 in
theorem ok_X9_readLines : am_mok 9 116 m_X9_readLines = true := by decide +kernel
set_option maxRecDepth 100000 in
theorem c_X9_readLines (l : Launch) {g : am_G} (hg : fx_ l g) : am_Met l g 4 116 (fn_s fn_F G_X9_readLines) := by
  refine am_sound (own := 9) (M := m_X9_readLines) (SP := sp_X9_readLines) hg.1 (by decide +kernel) ok_X9_readLines (by decide +kernel) ?_ (fun q hq hk => absurd hk (am_no61 (M := m_X9_readLines) (by decide +kernel) q hq)) (fn_ext l _ rfl g 9) (Or.inl (by decide +kernel)) ?_ ?_
  · intro q hq hk
    have hm : q.2.2.2.1 ∈ am_cs m_X9_readLines := am_cs_in hq hk
    rw [show am_cs m_X9_readLines = [93, 127] by decide +kernel] at hm
    have hm : q.2.2.2.1 ∈ [93, 127] := (List.all_eq_true.mp (show ([93, 127] : List Nat).all (fun a => decide (a ∈ ([93, 127] : List Nat))) = true by decide +kernel) _ hm |> of_decide_eq_true)
    simp only [List.mem_cons, List.not_mem_nil, or_false] at hm
    rcases hm with hm | hm
    · rw [hm]; exact ⟨0, by omega, c_X8_kind l hg⟩
    · rw [hm]; exact ⟨3, by omega, c_X9_readLine l hg⟩
  · intro as w K h
    obtain ⟨hf, y, m1, hG, hK⟩ := h
    unfold G_X9_readLines at hG
    split at hG
    · exact Nat.le_of_ble_eq_true rfl
    · cases hG
  · intro as w K h
    obtain ⟨n, i0, l0, r⟩ := w
    obtain ⟨hf, y, m1, hG, hK⟩ := h
    unfold G_X9_readLines at hG
    split at hG
    · next t z1 =>
      obtain ⟨ht, hG1⟩ := gd_u hG
      obtain ⟨hx2, hG2⟩ := gd_u hG1
      obtain rfl := Nat.eq_of_beq_eq_true hx2
      obtain ⟨q, hq, he⟩ := fn_mu hG2
      obtain ⟨rfl, rfl⟩ := Prod.mk.inj he
      exact t_X9_readLines t hf ht  (m := (i0, l0)) hq hK
    · cases hG

