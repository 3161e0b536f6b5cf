/-! == X5_readAppeal == -/
noncomputable def f_X5_readAppeal (o : Nat)  (m : fm_) : Option (Int32 × fm_) :=
  (if (gi_ m o 11) = (-1) then
(Option.bind (f_X8_step m) fun q3 =>
((some (1, (si_ q3.2 o 11 (gi_ q3.2 o 2))))))
else
(Option.bind (f_X8_fail 2 m) fun q6 =>
(gd_ (bl_ q6.1)
((some (q6.1, q6.2))))))
def sp_X5_readAppeal : am_S := fn_sp [(96, fn_F, G_X8_fail), (95, fn_F, G_X8_step)]
theorem sm_X5_readAppeal : am_Smono (sp_X5_readAppeal) := fn_sp_mono _
set_option maxRecDepth 100000 in
theorem t_X5_readAppeal (o : Nat) {n : Nat} {r : Nat → Nat → Option Nat} (hf : fn_F n r) (ho : is_O o = true) (hr : r 68 1 = some o) {q : Int32 × fm_}  {m : fm_}
  (h : f_X5_readAppeal o  m = some q) {Q : Option Value → am_W → Prop} (hQ : Q (en_i q).1 (mk_ n r q.2)) : am_T m_X5_readAppeal sp_X5_readAppeal n Q 0 [some (.ref 68)] [] (mk_ n r m) :=
  am_T.wp sm_X5_readAppeal (K := am_T m_X5_readAppeal sp_X5_readAppeal n Q) (cuts := []) (fun _ _ _ _ h => h) 17
    (⟨fn_aF hf rfl rfl, Or.inl ⟨_, hr, ⟨fn_aO0 hf ho rfl, fh_if h (fun c1 h2 => ⟨fn_aF hf rfl rfl, Or.inl ⟨_, hf.2 68 0 1 rfl, fh_bd h2 fun q3 e4 h5 => ⟨Nat.le_of_ble_eq_true rfl, fn_aF hf rfl rfl, ⟨hf, none, q3.2, gp_X8_step (n := n) (r := r)  e4, fun _ => ⟨rfl, ⟨fn_aF hf rfl rfl, Or.inl ⟨_, hr, ⟨fn_aF hf rfl rfl, Or.inl ⟨_, hr, ⟨fn_aO0 hf ho rfl, ⟨fn_aO0 hf ho rfl, ⟨rfl, Or.inr rfl, fh_rt h5 hQ⟩⟩⟩⟩⟩⟩⟩⟩⟩⟩⟩⟩) (fun c1 h2 => ⟨fn_aF hf rfl rfl, Or.inl ⟨_, hf.2 68 0 1 rfl, fh_bd h2 fun q6 e7 h8 => ⟨Nat.le_of_ble_eq_true rfl, fn_aF hf rfl rfl, ⟨hf, some (.int q6.1), q6.2, gp_X8_fail (n := n) (r := r)  e7, fun _ => fh_gd h8 fun g10 h9 => ⟨rfl, bl_t g10, fh_rt h9 hQ⟩⟩⟩⟩⟩)⟩⟩⟩)
noncomputable def G_X5_readAppeal (n : Nat) (r : Nat → Nat → Option Nat) (as : List Value) (m : fm_) : Option (Option Value × fm_) := match as with
  | [.ref x0] => gd_ (Nat.beq x0 68) (fn_or (r 68 1) fun o => gd_ (is_O o) ((f_X5_readAppeal o m).map en_i))
  | _ => none
set_option maxRecDepth 100000 in
theorem gp_X5_readAppeal {n : Nat} {r : Nat → Nat → Option Nat} {o : Nat}  {m : fm_} {q : Int32 × fm_} (hr : r 68 1 = some o) (ho : is_O o = true) (e : f_X5_readAppeal o m = some q) : G_X5_readAppeal n r [.ref 68] m = some (en_i q) := by
  show (gd_ (Nat.beq 68 68) (fn_or (r 68 1) fun o => gd_ (is_O o) ((f_X5_readAppeal o m).map en_i))) = _
  exact fn_gd rfl (fn_68 hr (fn_gd ho (fn_mp e)))
set_option maxRecDepth 100000 in
theorem ok_X5_readAppeal : am_mok 5 54 m_X5_readAppeal = true := by decide +kernel
set_option maxRecDepth 100000 in
theorem c_X5_readAppeal (l : Launch) {g : am_G} (hg : fx_ l g) : am_Met l g 1 54 (fn_s fn_F G_X5_readAppeal) := by
  refine am_sound (own := 5) (M := m_X5_readAppeal) (SP := sp_X5_readAppeal) hg.1 (by decide +kernel) ok_X5_readAppeal (by decide +kernel) ?_ (fun q hq hk => absurd hk (am_no61 (M := m_X5_readAppeal) (by decide +kernel) q hq)) (fn_ext l _ rfl g 5) (Or.inl (by decide +kernel)) ?_ ?_
  · intro q hq hk
    have hm : q.2.2.2.1 ∈ am_cs m_X5_readAppeal := am_cs_in hq hk
    rw [show am_cs m_X5_readAppeal = [96, 95] by decide +kernel] at hm
    have hm : q.2.2.2.1 ∈ [95, 96] := (List.all_eq_true.mp (show ([96, 95] : List Nat).all (fun a => decide (a ∈ ([95, 96] : List Nat))) = true by decide +kernel) _ hm |> of_decide_eq_true)
    simp only [List.mem_cons, List.not_mem_nil, or_false] at hm
    rcases hm with hm | hm
    · rw [hm]; exact ⟨0, by omega, c_X8_step l hg⟩
    · rw [hm]; exact ⟨0, by omega, c_X8_fail l hg⟩
  · intro as w K h
    obtain ⟨hf, y, m1, hG, hK⟩ := h
    unfold G_X5_readAppeal at hG
    split at hG
    · exact Nat.le_of_ble_eq_true rfl
    · cases hG
  · intro as w K h
    obtain ⟨n, i0, l0, r⟩ := w
    obtain ⟨hf, y, m1, hG, hK⟩ := h
    unfold G_X5_readAppeal at hG
    split at hG
    · next x0 =>
      obtain ⟨hx1, hG1⟩ := gd_u hG
      obtain ⟨o, hr, hG8⟩ := fn_or_u hG1
      obtain ⟨ho, hG9⟩ := gd_u hG8
      obtain rfl := Nat.eq_of_beq_eq_true hx1
      obtain ⟨q, hq, he⟩ := fn_mu hG9
      obtain ⟨rfl, rfl⟩ := Prod.mk.inj he
      exact t_X5_readAppeal o hf ho hr  (m := (i0, l0)) hq hK
    · cases hG

/-! == X5_readHead == -/
noncomputable def f_X5_readHead (o : Nat)  (m : fm_) : Option (Int32 × fm_) :=
  (if (gi_ m 68 2) = 105 then
(Option.bind (f_X5_readCharge o m) fun q3 =>
(gd_ (bl_ q3.1)
((some (q3.1, q3.2)))))
else
(if (gi_ m 68 2) = 107 then
(Option.bind (f_X5_readHours o m) fun q10 =>
(gd_ (bl_ q10.1)
((some (q10.1, q10.2)))))
else
(if (gi_ m 68 2) = 108 then
(Option.bind (f_X5_readFree o m) fun q17 =>
(gd_ (bl_ q17.1)
((some (q17.1, q17.2)))))
else
(if (gi_ m 68 2) = 109 then
(Option.bind (f_X5_readGrace o m) fun q24 =>
(gd_ (bl_ q24.1)
((some (q24.1, q24.2)))))
else
(if (gi_ m 68 2) = 110 then
(Option.bind (f_X5_readAppeal o m) fun q31 =>
(gd_ (bl_ q31.1)
((some (q31.1, q31.2)))))
else
(if (gi_ m 68 2) = 127 then
(Option.bind (f_X5_readClass o m) fun q38 =>
(gd_ (bl_ q38.1)
((some (q38.1, q38.2)))))
else
(Option.bind (f_X8_fail 2 m) fun q43 =>
(gd_ (bl_ q43.1)
((some (q43.1, q43.2)))))))))))
def sp_X5_readHead : am_S := fn_sp [(49, fn_F, G_X5_readClass), (50, fn_F, G_X5_readCharge), (51, fn_F, G_X5_readHours), (52, fn_F, G_X5_readFree), (53, fn_F, G_X5_readGrace), (54, fn_F, G_X5_readAppeal), (96, fn_F, G_X8_fail)]
theorem sm_X5_readHead : am_Smono (sp_X5_readHead) := fn_sp_mono _
set_option maxRecDepth 100000 in
theorem t_X5_readHead (o : Nat) {n : Nat} {r : Nat → Nat → Option Nat} (hf : fn_F n r) (ho : is_O o = true) (hr : r 68 1 = some o) {q : Int32 × fm_}  {m : fm_}
  (h : f_X5_readHead o  m = some q) {Q : Option Value → am_W → Prop} (hQ : Q (en_i q).1 (mk_ n r q.2)) : am_T m_X5_readHead sp_X5_readHead n Q 0 [some (.ref 68)] [] (mk_ n r m) :=
  am_T.wp sm_X5_readHead (K := am_T m_X5_readHead sp_X5_readHead n Q) (cuts := []) (fun _ _ _ _ h => h) 9
    (⟨fn_aF hf rfl rfl, ⟨fun c1 => have h2 := fh_t h c1; fh_bd h2 fun q3 e4 h5 => ⟨Nat.le_of_ble_eq_true rfl, fn_aF hf rfl rfl, ⟨hf, some (.int q3.1), q3.2, gp_X5_readCharge (n := n) (r := r) hr ho e4, fun _ => fh_gd h5 fun g7 h6 => ⟨rfl, bl_t g7, fh_rt h6 hQ⟩⟩⟩, fun c1 => have h2 := fh_f h c1; am_swc (fh_if h2 (fun c8 h9 => fh_bd h9 fun q10 e11 h12 => ⟨Nat.le_of_ble_eq_true rfl, fn_aF hf rfl rfl, ⟨hf, some (.int q10.1), q10.2, gp_X5_readHours (n := n) (r := r) hr ho e11, fun _ => fh_gd h12 fun g14 h13 => ⟨rfl, bl_t g14, fh_rt h13 hQ⟩⟩⟩) (fun c8 h9 => am_swc (fh_if h9 (fun c15 h16 => fh_bd h16 fun q17 e18 h19 => ⟨Nat.le_of_ble_eq_true rfl, fn_aF hf rfl rfl, ⟨hf, some (.int q17.1), q17.2, gp_X5_readFree (n := n) (r := r) hr ho e18, fun _ => fh_gd h19 fun g21 h20 => ⟨rfl, bl_t g21, fh_rt h20 hQ⟩⟩⟩) (fun c15 h16 => am_swc (fh_if h16 (fun c22 h23 => fh_bd h23 fun q24 e25 h26 => ⟨Nat.le_of_ble_eq_true rfl, fn_aF hf rfl rfl, ⟨hf, some (.int q24.1), q24.2, gp_X5_readGrace (n := n) (r := r) hr ho e25, fun _ => fh_gd h26 fun g28 h27 => ⟨rfl, bl_t g28, fh_rt h27 hQ⟩⟩⟩) (fun c22 h23 => am_swc (fh_if h23 (fun c29 h30 => fh_bd h30 fun q31 e32 h33 => ⟨Nat.le_of_ble_eq_true rfl, fn_aF hf rfl rfl, ⟨hf, some (.int q31.1), q31.2, gp_X5_readAppeal (n := n) (r := r) hr ho e32, fun _ => fh_gd h33 fun g35 h34 => ⟨rfl, bl_t g35, fh_rt h34 hQ⟩⟩⟩) (fun c29 h30 => am_swc (fh_if h30 (fun c36 h37 => fh_bd h37 fun q38 e39 h40 => ⟨Nat.le_of_ble_eq_true rfl, fn_aF hf rfl rfl, ⟨hf, some (.int q38.1), q38.2, gp_X5_readClass (n := n) (r := r) hr ho e39, fun _ => fh_gd h40 fun g42 h41 => ⟨rfl, bl_t g42, fh_rt h41 hQ⟩⟩⟩) (fun c36 h37 => am_swn (⟨fn_aF hf rfl rfl, Or.inl ⟨_, hf.2 68 0 1 rfl, fh_bd h37 fun q43 e44 h45 => ⟨Nat.le_of_ble_eq_true rfl, fn_aF hf rfl rfl, ⟨hf, some (.int q43.1), q43.2, gp_X8_fail (n := n) (r := r)  e44, fun _ => fh_gd h45 fun g47 h46 => ⟨rfl, bl_t g47, fh_rt h46 hQ⟩⟩⟩⟩⟩)))))))))))⟩⟩)
noncomputable def G_X5_readHead (n : Nat) (r : Nat → Nat → Option Nat) (as : List Value) (m : fm_) : Option (Option Value × fm_) := match as with
  | [.ref x0] => gd_ (Nat.beq x0 68) (fn_or (r 68 1) fun o => gd_ (is_O o) ((f_X5_readHead o m).map en_i))
  | _ => none
set_option maxRecDepth 100000 in
theorem gp_X5_readHead {n : Nat} {r : Nat → Nat → Option Nat} {o : Nat}  {m : fm_} {q : Int32 × fm_} (hr : r 68 1 = some o) (ho : is_O o = true) (e : f_X5_readHead o m = some q) : G_X5_readHead n r [.ref 68] m = some (en_i q) := by
  show (gd_ (Nat.beq 68 68) (fn_or (r 68 1) fun o => gd_ (is_O o) ((f_X5_readHead o m).map en_i))) = _
  exact fn_gd rfl (fn_68 hr (fn_gd ho (fn_mp e)))
set_option maxRecDepth 100000 in
theorem ok_X5_readHead : am_mok 5 48 m_X5_readHead = true := by decide +kernel
set_option maxRecDepth 100000 in
theorem c_X5_readHead (l : Launch) {g : am_G} (hg : fx_ l g) : am_Met l g 3 48 (fn_s fn_F G_X5_readHead) := by
  refine am_sound (own := 5) (M := m_X5_readHead) (SP := sp_X5_readHead) hg.1 (by decide +kernel) ok_X5_readHead (by decide +kernel) ?_ (fun q hq hk => absurd hk (am_no61 (M := m_X5_readHead) (by decide +kernel) q hq)) (fn_ext l _ rfl g 5) (Or.inl (by decide +kernel)) ?_ ?_
  · intro q hq hk
    have hm : q.2.2.2.1 ∈ am_cs m_X5_readHead := am_cs_in hq hk
    rw [show am_cs m_X5_readHead = [49, 50, 51, 52, 53, 54, 96] by decide +kernel] at hm
    have hm : q.2.2.2.1 ∈ [49, 50, 51, 52, 53, 54, 96] := (List.all_eq_true.mp (show ([49, 50, 51, 52, 53, 54, 96] : List Nat).all (fun a => decide (a ∈ ([49, 50, 51, 52, 53, 54, 96] : List Nat))) = true by decide +kernel) _ hm |> of_decide_eq_true)
    simp only [List.mem_cons, List.not_mem_nil, or_false] at hm
    rcases hm with hm | hm | hm | hm | hm | hm | hm
    · rw [hm]; exact ⟨2, by omega, c_X5_readClass l hg⟩
    · rw [hm]; exact ⟨2, by omega, c_X5_readCharge l hg⟩
    · rw [hm]; exact ⟨2, by omega, c_X5_readHours l hg⟩
    · rw [hm]; exact ⟨1, by omega, c_X5_readFree l hg⟩
    · rw [hm]; exact ⟨2, by omega, c_X5_readGrace l hg⟩
    · rw [hm]; exact ⟨1, by omega, c_X5_readAppeal l hg⟩
    · rw [hm]; exact ⟨0, by omega, c_X8_fail l hg⟩
  · intro as w K h
    obtain ⟨hf, y, m1, hG, hK⟩ := h
    unfold G_X5_readHead at hG
    split at hG
    · exact Nat.le_of_ble_eq_true rfl
    · cases hG
  · intro as w K h
    obtain ⟨n, i0, l0, r⟩ := w
    obtain ⟨hf, y, m1, hG, hK⟩ := h
    unfold G_X5_readHead at hG
    split at hG
    · next x0 =>
      obtain ⟨hx1, hG1⟩ := gd_u hG
      obtain ⟨o, hr, hG8⟩ := fn_or_u hG1
      obtain ⟨ho, hG9⟩ := gd_u hG8
      obtain rfl := Nat.eq_of_beq_eq_true hx1
      obtain ⟨q, hq, he⟩ := fn_mu hG9
      obtain ⟨rfl, rfl⟩ := Prod.mk.inj he
      exact t_X5_readHead o hf ho hr  (m := (i0, l0)) hq hK
    · cases hG

/-! == X5_mayAsk == -/
noncomputable def f_X5_mayAsk (p1 : Int32) (m : fm_) : Option (Int32 × fm_) :=
  (if p1 = 125 then
(if (gi_ m 68 2) = 110 then
((some (1, m)))
else
((some (0, m))))
else
(if p1 = 126 then
(if (gi_ m 68 2) = 110 then
((some (1, m)))
else
((some (0, m))))
else
(if p1 = 127 then
(if (gi_ m 68 2) = 127 then
((some (0, m)))
else
((some (1, m))))
else
((some (1, m))))))
def sp_X5_mayAsk : am_S := fn_sp []
theorem sm_X5_mayAsk : am_Smono (sp_X5_mayAsk) := fn_sp_mono _
set_option maxRecDepth 100000 in
theorem t_X5_mayAsk {n : Nat} {r : Nat → Nat → Option Nat} (hf : fn_F n r) {q : Int32 × fm_} (p1 : Int32) {m : fm_}
  (h : f_X5_mayAsk p1 m = some q) {Q : Option Value → am_W → Prop} (hQ : Q (en_i q).1 (mk_ n r q.2)) : am_T m_X5_mayAsk sp_X5_mayAsk n Q 0 [some (.ref 68), some (.int p1)] [] (mk_ n r m) :=
  am_T.wp sm_X5_mayAsk (K := am_T m_X5_mayAsk sp_X5_mayAsk n Q) (cuts := []) (fun _ _ _ _ h => h) 17
    (fh_if h (fun c1 h2 => ⟨fn_aF hf rfl rfl, fh_in h2 (fun c3 h4 => ⟨rfl, Or.inl rfl, fh_rt h4 hQ⟩) (fun c3 h4 => ⟨rfl, Or.inr rfl, fh_rt h4 hQ⟩)⟩) (fun c1 h2 => fh_in h2 (fun c5 h6 => fh_in h6 (fun c7 h8 => ⟨rfl, Or.inr rfl, fh_rt h8 hQ⟩) (fun c7 h8 => ⟨fn_aF hf rfl rfl, fh_if h8 (fun c9 h10 => ⟨rfl, Or.inl rfl, fh_rt h10 hQ⟩) (fun c9 h10 => ⟨rfl, Or.inr rfl, fh_rt h10 hQ⟩)⟩)) (fun c5 h6 => ⟨fn_aF hf rfl rfl, fh_in h6 (fun c11 h12 => ⟨rfl, Or.inl rfl, fh_rt h12 hQ⟩) (fun c11 h12 => ⟨rfl, Or.inr rfl, fh_rt h12 hQ⟩)⟩)))
noncomputable def G_X5_mayAsk (n : Nat) (r : Nat → Nat → Option Nat) (as : List Value) (m : fm_) : Option (Option Value × fm_) := match as with
  | [.ref x0, .int p1] => gd_ (Nat.beq x0 68) ((f_X5_mayAsk p1 m).map en_i)
  | _ => none
set_option maxRecDepth 100000 in
theorem gp_X5_mayAsk {n : Nat} {r : Nat → Nat → Option Nat}  {p1 : Int32} {m : fm_} {q : Int32 × fm_}  (e : f_X5_mayAsk p1 m = some q) : G_X5_mayAsk n r [.ref 68, .int p1] m = some (en_i q) := by
  show (gd_ (Nat.beq 68 68) ((f_X5_mayAsk p1 m).map en_i)) = _
  exact fn_gd rfl (fn_mp e)
set_option maxRecDepth 100000 in
theorem ok_X5_mayAsk : am_mok 5 60 m_X5_mayAsk = true := by decide +kernel
set_option maxRecDepth 100000 in
theorem c_X5_mayAsk (l : Launch) {g : am_G} (hg : fx_ l g) : am_Met l g 0 60 (fn_s fn_F G_X5_mayAsk) := by
  refine am_sound (own := 5) (M := m_X5_mayAsk) (SP := sp_X5_mayAsk) hg.1 (by decide +kernel) ok_X5_mayAsk (by decide +kernel) ?_ (fun q hq hk => absurd hk (am_no61 (M := m_X5_mayAsk) (by decide +kernel) q hq)) (fn_ext l _ rfl g 5) (Or.inl (by decide +kernel)) ?_ ?_
  · intro q hq hk
    have hm : q.2.2.2.1 ∈ am_cs m_X5_mayAsk := am_cs_in hq hk
    rw [show am_cs m_X5_mayAsk = [] by decide +kernel] at hm
    cases hm
  · intro as w K h
    obtain ⟨hf, y, m1, hG, hK⟩ := h
    unfold G_X5_mayAsk at hG
    split at hG
    · exact Nat.le_of_ble_eq_true rfl
    · cases hG
  · intro as w K h
    obtain ⟨n, i0, l0, r⟩ := w
    obtain ⟨hf, y, m1, hG, hK⟩ := h
    unfold G_X5_mayAsk at hG
    split at hG
    · next x0 p1 =>
      obtain ⟨hx1, hG1⟩ := gd_u hG
      obtain rfl := Nat.eq_of_beq_eq_true hx1
      obtain ⟨q, hq, he⟩ := fn_mu hG1
      obtain ⟨rfl, rfl⟩ := Prod.mk.inj he
      exact t_X5_mayAsk  hf  p1 (m := (i0, l0)) hq hK
    · cases hG

/-! == X5_readUnit == -/
noncomputable def f_X5_readUnit (o : Nat)  (m : fm_) : Option (Int32 × fm_) :=
  (Option.bind (f_X8_kind m) fun q1 =>
(if q1.1 < 120 then
(if q1.1 = 2 then
(if (gi_ q1.2 68 3) < 50 then
(Option.bind (f_X8_value (si_ q1.2 68 3 ((gi_ q1.2 68 3) + 1))) fun q18 =>
(Option.bind (f_X4_addStep o q18.1 q18.2) fun q21 =>
(Option.bind (f_X8_step q21.2) fun q24 =>
((some (1, q24.2))))))
else
(Option.bind (f_X8_fail 2 q1.2) fun q27 =>
(gd_ (bl_ q27.1)
((some (q27.1, q27.2))))))
else
(Option.bind (f_X8_fail 2 q1.2) fun q9 =>
(gd_ (bl_ q9.1)
((some (q9.1, q9.2))))))
else
(if 127 < q1.1 then
(if q1.1 = 2 then
(if (gi_ q1.2 68 3) < 50 then
(Option.bind (f_X8_value (si_ q1.2 68 3 ((gi_ q1.2 68 3) + 1))) fun q46 =>
(Option.bind (f_X4_addStep o q46.1 q46.2) fun q49 =>
(Option.bind (f_X8_step q49.2) fun q52 =>
((some (1, q52.2))))))
else
(Option.bind (f_X8_fail 2 q1.2) fun q55 =>
(gd_ (bl_ q55.1)
((some (q55.1, q55.2))))))
else
(Option.bind (f_X8_fail 2 q1.2) fun q37 =>
(gd_ (bl_ q37.1)
((some (q37.1, q37.2))))))
else
(if (gi_ q1.2 68 3) < 50 then
(Option.bind (f_X5_mayAsk q1.1 q1.2) fun q64 =>
(if q64.1 = 0 then
(Option.bind (f_X8_fail 6 q64.2) fun q76 =>
(gd_ (bl_ q76.1)
((some (q76.1, q76.2)))))
else
(Option.bind (f_X4_addStep o ((-1) - (q1.1 - 120)) (si_ q64.2 68 3 ((gi_ q64.2 68 3) + 1))) fun q70 =>
(Option.bind (f_X8_step q70.2) fun q73 =>
((some (1, q73.2)))))))
else
(Option.bind (f_X8_fail 2 q1.2) fun q81 =>
(gd_ (bl_ q81.1)
((some (q81.1, q81.2)))))))))
def sp_X5_readUnit : am_S := fn_sp [(93, fn_F, G_X8_kind), (96, fn_F, G_X8_fail), (60, fn_F, G_X5_mayAsk), (94, fn_F, G_X8_value), (36, fn_F, G_X4_addStep), (95, fn_F, G_X8_step)]
theorem sm_X5_readUnit : am_Smono (sp_X5_readUnit) := fn_sp_mono _
set_option maxRecDepth 100000 in
theorem t_X5_readUnit (o : Nat) {n : Nat} {r : Nat → Nat → Option Nat} (hf : fn_F n r) (ho : is_O o = true) (hr : r 68 1 = some o) {q : Int32 × fm_}  {m : fm_}
  (h : f_X5_readUnit o  m = some q) {Q : Option Value → am_W → Prop} (hQ : Q (en_i q).1 (mk_ n r q.2)) : am_T m_X5_readUnit sp_X5_readUnit n Q 0 [some (.ref 68), none, none] [] (mk_ n r m) :=
  am_T.wp sm_X5_readUnit (K := am_T m_X5_readUnit sp_X5_readUnit n Q) (cuts := []) (fun _ _ _ _ h => h) 48
    (⟨fn_aF hf rfl rfl, Or.inl ⟨_, hf.2 68 0 1 rfl, fh_bd h fun q1 e2 h3 => ⟨Nat.le_of_ble_eq_true rfl, fn_aF hf rfl rfl, ⟨hf, some (.int q1.1), q1.2, gp_X8_kind (n := n) (r := r)  e2, fun _ => fh_if h3 (fun c4 h5 => ⟨fun c6 => absurd c6 (by decide), fun c6 => fh_in h5 (fun c7 h8 => ⟨fn_aF hf rfl rfl, Or.inl ⟨_, hf.2 68 0 1 rfl, fh_bd h8 fun q9 e10 h11 => ⟨Nat.le_of_ble_eq_true rfl, fn_aF hf rfl rfl, ⟨hf, some (.int q9.1), q9.2, gp_X8_fail (n := n) (r := r)  e10, fun _ => fh_gd h11 fun g13 h12 => ⟨rfl, bl_t g13, fh_rt h12 hQ⟩⟩⟩⟩⟩) (fun c7 h8 => ⟨fn_aF hf rfl rfl, fh_if h8 (fun c14 h15 => ⟨fun c16 => ⟨fn_aF hf rfl rfl, ⟨fn_aF hf rfl rfl, ⟨fn_aF hf rfl rfl, Or.inl ⟨_, hr, ⟨fun c17 => ⟨fn_aF hf rfl rfl, Or.inl ⟨_, hf.2 68 0 1 rfl, fh_bd h15 fun q18 e19 h20 => ⟨Nat.le_of_ble_eq_true rfl, fn_aF hf rfl rfl, ⟨hf, some (.int q18.1), q18.2, gp_X8_value (n := n) (r := r)  e19, fun _ => fh_bd h20 fun q21 e22 h23 => ⟨Nat.le_of_ble_eq_true rfl, fn_aO0 hf ho rfl, ⟨hf, none, q21.2, gp_X4_addStep (n := n) (r := r) ho e22, fun _ => ⟨rfl, ⟨fn_aF hf rfl rfl, Or.inl ⟨_, hf.2 68 0 1 rfl, fh_bd h23 fun q24 e25 h26 => ⟨Nat.le_of_ble_eq_true rfl, fn_aF hf rfl rfl, ⟨hf, none, q24.2, gp_X8_step (n := n) (r := r)  e25, fun _ => ⟨rfl, ⟨rfl, Or.inr rfl, fh_rt h26 hQ⟩⟩⟩⟩⟩⟩⟩⟩⟩⟩⟩⟩⟩, fun c17 => absurd c17 (by decide)⟩⟩⟩⟩⟩, fun c16 => absurd c16 (by decide)⟩) (fun c14 h15 => ⟨fn_aF hf rfl rfl, Or.inl ⟨_, hf.2 68 0 1 rfl, fh_bd h15 fun q27 e28 h29 => ⟨Nat.le_of_ble_eq_true rfl, fn_aF hf rfl rfl, ⟨hf, some (.int q27.1), q27.2, gp_X8_fail (n := n) (r := r)  e28, fun _ => fh_gd h29 fun g31 h30 => ⟨rfl, bl_t g31, fh_rt h30 hQ⟩⟩⟩⟩⟩)⟩)⟩) (fun c4 h5 => fh_if h5 (fun c32 h33 => ⟨fun c34 => absurd c34 (by decide), fun c34 => fh_in h33 (fun c35 h36 => ⟨fn_aF hf rfl rfl, Or.inl ⟨_, hf.2 68 0 1 rfl, fh_bd h36 fun q37 e38 h39 => ⟨Nat.le_of_ble_eq_true rfl, fn_aF hf rfl rfl, ⟨hf, some (.int q37.1), q37.2, gp_X8_fail (n := n) (r := r)  e38, fun _ => fh_gd h39 fun g41 h40 => ⟨rfl, bl_t g41, fh_rt h40 hQ⟩⟩⟩⟩⟩) (fun c35 h36 => ⟨fn_aF hf rfl rfl, fh_if h36 (fun c42 h43 => ⟨fun c44 => ⟨fn_aF hf rfl rfl, ⟨fn_aF hf rfl rfl, ⟨fn_aF hf rfl rfl, Or.inl ⟨_, hr, ⟨fun c45 => ⟨fn_aF hf rfl rfl, Or.inl ⟨_, hf.2 68 0 1 rfl, fh_bd h43 fun q46 e47 h48 => ⟨Nat.le_of_ble_eq_true rfl, fn_aF hf rfl rfl, ⟨hf, some (.int q46.1), q46.2, gp_X8_value (n := n) (r := r)  e47, fun _ => fh_bd h48 fun q49 e50 h51 => ⟨Nat.le_of_ble_eq_true rfl, fn_aO0 hf ho rfl, ⟨hf, none, q49.2, gp_X4_addStep (n := n) (r := r) ho e50, fun _ => ⟨rfl, ⟨fn_aF hf rfl rfl, Or.inl ⟨_, hf.2 68 0 1 rfl, fh_bd h51 fun q52 e53 h54 => ⟨Nat.le_of_ble_eq_true rfl, fn_aF hf rfl rfl, ⟨hf, none, q52.2, gp_X8_step (n := n) (r := r)  e53, fun _ => ⟨rfl, ⟨rfl, Or.inr rfl, fh_rt h54 hQ⟩⟩⟩⟩⟩⟩⟩⟩⟩⟩⟩⟩⟩, fun c45 => absurd c45 (by decide)⟩⟩⟩⟩⟩, fun c44 => absurd c44 (by decide)⟩) (fun c42 h43 => ⟨fn_aF hf rfl rfl, Or.inl ⟨_, hf.2 68 0 1 rfl, fh_bd h43 fun q55 e56 h57 => ⟨Nat.le_of_ble_eq_true rfl, fn_aF hf rfl rfl, ⟨hf, some (.int q55.1), q55.2, gp_X8_fail (n := n) (r := r)  e56, fun _ => fh_gd h57 fun g59 h58 => ⟨rfl, bl_t g59, fh_rt h58 hQ⟩⟩⟩⟩⟩)⟩)⟩) (fun c32 h33 => ⟨fun c60 => ⟨fn_aF hf rfl rfl, fh_if h33 (fun c61 h62 => ⟨fun c63 => absurd c63 (by decide), fun c63 => fh_bd h62 fun q64 e65 h66 => ⟨Nat.le_of_ble_eq_true rfl, fn_aF hf rfl rfl, ⟨hf, some (.int q64.1), q64.2, gp_X5_mayAsk (n := n) (r := r)  e65, fun _ => fh_in h66 (fun c67 h68 => ⟨fn_aF hf rfl rfl, ⟨fn_aF hf rfl rfl, ⟨fn_aF hf rfl rfl, Or.inl ⟨_, hr, ⟨fun c69 => absurd c69 (by decide), fun c69 => fh_bd h68 fun q70 e71 h72 => ⟨Nat.le_of_ble_eq_true rfl, fn_aO0 hf ho rfl, ⟨hf, none, q70.2, gp_X4_addStep (n := n) (r := r) ho e71, fun _ => ⟨rfl, ⟨fn_aF hf rfl rfl, Or.inl ⟨_, hf.2 68 0 1 rfl, fh_bd h72 fun q73 e74 h75 => ⟨Nat.le_of_ble_eq_true rfl, fn_aF hf rfl rfl, ⟨hf, none, q73.2, gp_X8_step (n := n) (r := r)  e74, fun _ => ⟨rfl, ⟨rfl, Or.inr rfl, fh_rt h75 hQ⟩⟩⟩⟩⟩⟩⟩⟩⟩⟩⟩⟩⟩⟩) (fun c67 h68 => ⟨fn_aF hf rfl rfl, Or.inl ⟨_, hf.2 68 0 1 rfl, fh_bd h68 fun q76 e77 h78 => ⟨Nat.le_of_ble_eq_true rfl, fn_aF hf rfl rfl, ⟨hf, some (.int q76.1), q76.2, gp_X8_fail (n := n) (r := r)  e77, fun _ => fh_gd h78 fun g80 h79 => ⟨rfl, bl_t g80, fh_rt h79 hQ⟩⟩⟩⟩⟩)⟩⟩⟩) (fun c61 h62 => ⟨fn_aF hf rfl rfl, Or.inl ⟨_, hf.2 68 0 1 rfl, fh_bd h62 fun q81 e82 h83 => ⟨Nat.le_of_ble_eq_true rfl, fn_aF hf rfl rfl, ⟨hf, some (.int q81.1), q81.2, gp_X8_fail (n := n) (r := r)  e82, fun _ => fh_gd h83 fun g85 h84 => ⟨rfl, bl_t g85, fh_rt h84 hQ⟩⟩⟩⟩⟩)⟩, fun c60 => absurd c60 (by decide)⟩))⟩⟩⟩⟩)
noncomputable def G_X5_readUnit (n : Nat) (r : Nat → Nat → Option Nat) (as : List Value) (m : fm_) : Option (Option Value × fm_) := match as with
  | [.ref x0] => gd_ (Nat.beq x0 68) (fn_or (r 68 1) fun o => gd_ (is_O o) ((f_X5_readUnit o m).map en_i))
  | _ => none
set_option maxRecDepth 100000 in
theorem gp_X5_readUnit {n : Nat} {r : Nat → Nat → Option Nat} {o : Nat}  {m : fm_} {q : Int32 × fm_} (hr : r 68 1 = some o) (ho : is_O o = true) (e : f_X5_readUnit o m = some q) : G_X5_readUnit n r [.ref 68] m = some (en_i q) := by
  show (gd_ (Nat.beq 68 68) (fn_or (r 68 1) fun o => gd_ (is_O o) ((f_X5_readUnit o m).map en_i))) = _
  exact fn_gd rfl (fn_68 hr (fn_gd ho (fn_mp e)))
set_option maxRecDepth 100000 in
theorem ok_X5_readUnit : am_mok 5 59 m_X5_readUnit = true := by decide +kernel
set_option maxRecDepth 100000 in
theorem c_X5_readUnit (l : Launch) {g : am_G} (hg : fx_ l g) : am_Met l g 1 59 (fn_s fn_F G_X5_readUnit) := by
  refine am_sound (own := 5) (M := m_X5_readUnit) (SP := sp_X5_readUnit) hg.1 (by decide +kernel) ok_X5_readUnit (by decide +kernel) ?_ (fun q hq hk => absurd hk (am_no61 (M := m_X5_readUnit) (by decide +kernel) q hq)) (fn_ext l _ rfl g 5) (Or.inl (by decide +kernel)) ?_ ?_
  · intro q hq hk
    have hm : q.2.2.2.1 ∈ am_cs m_X5_readUnit := am_cs_in hq hk
    rw [show am_cs m_X5_readUnit = [93, 96, 60, 96, 94, 36, 95] by decide +kernel] at hm
    have hm : q.2.2.2.1 ∈ [36, 60, 93, 94, 95, 96] := (List.all_eq_true.mp (show ([93, 96, 60, 96, 94, 36, 95] : List Nat).all (fun a => decide (a ∈ ([36, 60, 93, 94, 95, 96] : List Nat))) = true by decide +kernel) _ hm |> of_decide_eq_true)
    simp only [List.mem_cons, List.not_mem_nil, or_false] at hm
    rcases hm with hm | hm | hm | hm | hm | hm
    · rw [hm]; exact ⟨0, by omega, c_X4_addStep l hg⟩
    · rw [hm]; exact ⟨0, by omega, c_X5_mayAsk l hg⟩
    · rw [hm]; exact ⟨0, by omega, c_X8_kind l hg⟩
    · rw [hm]; exact ⟨0, by omega, c_X8_value l hg⟩
    · rw [hm]; exact ⟨0, by omega, c_X8_step l hg⟩
    · rw [hm]; exact ⟨0, by omega, c_X8_fail l hg⟩
  · intro as w K h
    obtain ⟨hf, y, m1, hG, hK⟩ := h
    unfold G_X5_readUnit at hG
    split at hG
    · exact Nat.le_of_ble_eq_true rfl
    · cases hG
  · intro as w K h
    obtain ⟨n, i0, l0, r⟩ := w
    obtain ⟨hf, y, m1, hG, hK⟩ := h
    unfold G_X5_readUnit at hG
    split at hG
    · next x0 =>
      obtain ⟨hx1, hG1⟩ := gd_u hG
      obtain ⟨o, hr, hG8⟩ := fn_or_u hG1
      obtain ⟨ho, hG9⟩ := gd_u hG8
      obtain rfl := Nat.eq_of_beq_eq_true hx1
      obtain ⟨q, hq, he⟩ := fn_mu hG9
      obtain ⟨rfl, rfl⟩ := Prod.mk.inj he
      exact t_X5_readUnit o hf ho hr  (m := (i0, l0)) hq hK
    · cases hG

/-! == X5_readComparison == -/
abbrev S_X5_readComparison : Type := (Int32 × Int32 × Int32 × fm_) ⊕ (Int32 × Int32 × Int32 × fm_) ⊕ (Int32 × Int32 × Int32 × Int32 × fm_) ⊕ (Int32 × Int32 × Int32 × Int32 × fm_) ⊕ (Int32 × Int32 × Int32 × Int32 × fm_) ⊕ (Int32 × Int32 × Int32 × Int32 × fm_)
noncomputable def st_X5_readComparison (o : Nat) (s : S_X5_readComparison) : Option (S_X5_readComparison ⊕ (Int32 × fm_)) := match s with
  | Sum.inl ((x1, x2, x3, m)) =>
    (if 50 < x3 then
((some (Sum.inr (0, m))))
else
(Option.bind (f_X5_readUnit o m) fun q3 =>
(if q3.1 = 0 then
((some (Sum.inr (0, q3.2))))
else
(if x2 = 0 then
((some (Sum.inl (Sum.inr (Sum.inl ((x1, x2, x3, q3.2)))))))
else
(Option.bind (f_X4_addStep o (-x2) q3.2) fun q10 =>
((some (Sum.inl (Sum.inr (Sum.inl ((x1, x2, x3, q10.2))))))))))))
  | Sum.inr (Sum.inl ((x1, x2, x3, m))) =>
    (Option.bind (f_X8_kind m) fun q1 =>
(if q1.1 = 43 then
((some (Sum.inl (Sum.inr (Sum.inr (Sum.inl ((x1, x2, x3, q1.1, q1.2))))))))
else
(if q1.1 = 45 then
((some (Sum.inl (Sum.inr (Sum.inr (Sum.inl ((x1, x2, x3, q1.1, q1.2))))))))
else
(if x1 = 0 then
((some (Sum.inl (Sum.inr (Sum.inr (Sum.inr (Sum.inl ((x1, 0, x3, q1.1, q1.2)))))))))
else
(Option.bind (f_X4_addStep o (-x1) q1.2) fun q11 =>
((some (Sum.inr (1, q11.2)))))))))
  | Sum.inr (Sum.inr (Sum.inl ((x1, x2, x3, x4, m)))) =>
    (if x4 = 0 then
(if x1 = 0 then
((some (Sum.inl (Sum.inr (Sum.inr (Sum.inr (Sum.inl ((x1, x4, x3, x4, m)))))))))
else
(Option.bind (f_X4_addStep o (-x1) m) fun q5 =>
((some (Sum.inr (1, q5.2))))))
else
((some (Sum.inl (Sum.inr (Sum.inr (Sum.inr (Sum.inl ((x1, x4, x3, x4, m))))))))))
  | Sum.inr (Sum.inr (Sum.inr (Sum.inl ((x1, x2, x3, x4, m))))) =>
    (if x2 = 0 then
(if x4 = 60 then
((some (Sum.inl (Sum.inr (Sum.inr (Sum.inr (Sum.inr (Sum.inl ((x1, x2, x3, x4, m))))))))))
else
(if x4 = 62 then
((some (Sum.inl (Sum.inr (Sum.inr (Sum.inr (Sum.inr (Sum.inl ((x1, x2, x3, x4, m))))))))))
else
(if x4 = 61 then
((some (Sum.inl (Sum.inr (Sum.inr (Sum.inr (Sum.inr (Sum.inl ((x1, x2, x3, x4, m))))))))))
else
(Option.bind (f_X8_fail 2 m) fun q9 =>
(gd_ (bl_ q9.1)
((some (Sum.inr (q9.1, q9.2)))))))))
else
((some (Sum.inl (Sum.inr (Sum.inr (Sum.inr (Sum.inr (Sum.inr ((x1, x2, x3, x4, m)))))))))))
  | Sum.inr (Sum.inr (Sum.inr (Sum.inr (Sum.inl ((x1, x2, x3, x4, m)))))) =>
    ((some (Sum.inl (Sum.inr (Sum.inr (Sum.inr (Sum.inr (Sum.inr ((x4, x2, x3, x4, m))))))))))
  | Sum.inr (Sum.inr (Sum.inr (Sum.inr (Sum.inr ((x1, x2, x3, x4, m)))))) =>
    (Option.bind (f_X8_step m) fun q1 =>
((some (Sum.inl (Sum.inl ((x1, x2, (x3 + 1), q1.2)))))))
noncomputable def f_X5_readComparison_6 (o : Nat) (x1 : Int32) (x2 : Int32) (x3 : Int32) (m : fm_) : Option (Int32 × fm_) := am_lp (st_X5_readComparison o) (Sum.inl ((x1, x2, x3, m)))
noncomputable def f_X5_readComparison_34 (o : Nat) (x1 : Int32) (x2 : Int32) (x3 : Int32) (m : fm_) : Option (Int32 × fm_) := am_lp (st_X5_readComparison o) (Sum.inr (Sum.inl ((x1, x2, x3, m))))
noncomputable def f_X5_readComparison_57 (o : Nat) (x1 : Int32) (x2 : Int32) (x3 : Int32) (x4 : Int32) (m : fm_) : Option (Int32 × fm_) := am_lp (st_X5_readComparison o) (Sum.inr (Sum.inr (Sum.inl ((x1, x2, x3, x4, m)))))
noncomputable def f_X5_readComparison_83 (o : Nat) (x1 : Int32) (x2 : Int32) (x3 : Int32) (x4 : Int32) (m : fm_) : Option (Int32 × fm_) := am_lp (st_X5_readComparison o) (Sum.inr (Sum.inr (Sum.inr (Sum.inl ((x1, x2, x3, x4, m))))))
noncomputable def f_X5_readComparison_117 (o : Nat) (x1 : Int32) (x2 : Int32) (x3 : Int32) (x4 : Int32) (m : fm_) : Option (Int32 × fm_) := am_lp (st_X5_readComparison o) (Sum.inr (Sum.inr (Sum.inr (Sum.inr (Sum.inl ((x1, x2, x3, x4, m)))))))
noncomputable def f_X5_readComparison_120 (o : Nat) (x1 : Int32) (x2 : Int32) (x3 : Int32) (x4 : Int32) (m : fm_) : Option (Int32 × fm_) := am_lp (st_X5_readComparison o) (Sum.inr (Sum.inr (Sum.inr (Sum.inr (Sum.inr ((x1, x2, x3, x4, m)))))))
theorem e_X5_readComparison_6 (o : Nat) (x1 : Int32) (x2 : Int32) (x3 : Int32) (m : fm_) : f_X5_readComparison_6 o x1 x2 x3 m =
(if 50 < x3 then
((some (0, m)))
else
(Option.bind (f_X5_readUnit o m) fun q3 =>
(if q3.1 = 0 then
((some (0, q3.2)))
else
(if x2 = 0 then
((f_X5_readComparison_34 o x1 x2 x3 q3.2))
else
(Option.bind (f_X4_addStep o (-x2) q3.2) fun q10 =>
((f_X5_readComparison_34 o x1 x2 x3 q10.2))))))) :=
  (am_lp_eq _ _).trans (fe_if (rfl) (fe_bd fun q3 => (fe_if (rfl) (fe_if (rfl) (fe_bd fun q10 => (rfl))))))
theorem e_X5_readComparison_34 (o : Nat) (x1 : Int32) (x2 : Int32) (x3 : Int32) (m : fm_) : f_X5_readComparison_34 o x1 x2 x3 m =
(Option.bind (f_X8_kind m) fun q1 =>
(if q1.1 = 43 then
((f_X5_readComparison_57 o x1 x2 x3 q1.1 q1.2))
else
(if q1.1 = 45 then
((f_X5_readComparison_57 o x1 x2 x3 q1.1 q1.2))
else
(if x1 = 0 then
((f_X5_readComparison_83 o x1 0 x3 q1.1 q1.2))
else
(Option.bind (f_X4_addStep o (-x1) q1.2) fun q11 =>
((some (1, q11.2)))))))) :=
  (am_lp_eq _ _).trans (fe_bd fun q1 => (fe_if (rfl) (fe_if (rfl) (fe_if (rfl) (fe_bd fun q11 => (rfl))))))
theorem e_X5_readComparison_57 (o : Nat) (x1 : Int32) (x2 : Int32) (x3 : Int32) (x4 : Int32) (m : fm_) : f_X5_readComparison_57 o x1 x2 x3 x4 m =
(if x4 = 0 then
(if x1 = 0 then
((f_X5_readComparison_83 o x1 x4 x3 x4 m))
else
(Option.bind (f_X4_addStep o (-x1) m) fun q5 =>
((some (1, q5.2)))))
else
((f_X5_readComparison_83 o x1 x4 x3 x4 m))) :=
  (am_lp_eq _ _).trans (fe_if (fe_if (rfl) (fe_bd fun q5 => (rfl))) (rfl))
theorem e_X5_readComparison_83 (o : Nat) (x1 : Int32) (x2 : Int32) (x3 : Int32) (x4 : Int32) (m : fm_) : f_X5_readComparison_83 o x1 x2 x3 x4 m =
(if x2 = 0 then
(if x4 = 60 then
((f_X5_readComparison_117 o x1 x2 x3 x4 m))
else
(if x4 = 62 then
((f_X5_readComparison_117 o x1 x2 x3 x4 m))
else
(if x4 = 61 then
((f_X5_readComparison_117 o x1 x2 x3 x4 m))
else
(Option.bind (f_X8_fail 2 m) fun q9 =>
(gd_ (bl_ q9.1)
((some (q9.1, q9.2))))))))
else
((f_X5_readComparison_120 o x1 x2 x3 x4 m))) :=
  (am_lp_eq _ _).trans (fe_if (fe_if (rfl) (fe_if (rfl) (fe_if (rfl) (fe_bd fun q9 => (fe_gd rfl))))) (rfl))
theorem e_X5_readComparison_117 (o : Nat) (x1 : Int32) (x2 : Int32) (x3 : Int32) (x4 : Int32) (m : fm_) : f_X5_readComparison_117 o x1 x2 x3 x4 m =
((f_X5_readComparison_120 o x4 x2 x3 x4 m)) :=
  (am_lp_eq _ _).trans (rfl)
theorem e_X5_readComparison_120 (o : Nat) (x1 : Int32) (x2 : Int32) (x3 : Int32) (x4 : Int32) (m : fm_) : f_X5_readComparison_120 o x1 x2 x3 x4 m =
(Option.bind (f_X8_step m) fun q1 =>
((f_X5_readComparison_6 o x1 x2 (x3 + 1) q1.2))) :=
  (am_lp_eq _ _).trans (fe_bd fun q1 => (rfl))
noncomputable def f_X5_readComparison (o : Nat)  (m : fm_) : Option (Int32 × fm_) :=
  ((f_X5_readComparison_6 o 0 0 0 m))
def sp_X5_readComparison : am_S := fn_sp [(59, fn_F, G_X5_readUnit), (36, fn_F, G_X4_addStep), (93, fn_F, G_X8_kind), (96, fn_F, G_X8_fail), (95, fn_F, G_X8_step)]
theorem sm_X5_readComparison : am_Smono (sp_X5_readComparison) := fn_sp_mono _
def P_X5_readComparison (o : Nat) (n : Nat) (r : Nat → Nat → Option Nat) (s : S_X5_readComparison) (q : Int32 × fm_) : Prop := match s with
  | Sum.inl ((x1, x2, x3, m)) => ∀ (Q : Option Value → am_W → Prop) (y4 : Option Value), Q (en_i q).1 (mk_ n r q.2) → am_T m_X5_readComparison sp_X5_readComparison n Q 6 [some (.ref 68), some (.int x1), some (.int x2), some (.int x3), y4] [] (mk_ n r m)
  | Sum.inr (Sum.inl ((x1, x2, x3, m))) => ∀ (Q : Option Value → am_W → Prop) (y4 : Option Value), Q (en_i q).1 (mk_ n r q.2) → am_T m_X5_readComparison sp_X5_readComparison n Q 34 [some (.ref 68), some (.int x1), some (.int x2), some (.int x3), y4] [] (mk_ n r m)
  | Sum.inr (Sum.inr (Sum.inl ((x1, x2, x3, x4, m)))) => ∀ (Q : Option Value → am_W → Prop), Q (en_i q).1 (mk_ n r q.2) → am_T m_X5_readComparison sp_X5_readComparison n Q 57 [some (.ref 68), some (.int x1), some (.int x2), some (.int x3), some (.int x4)] [] (mk_ n r m)
  | Sum.inr (Sum.inr (Sum.inr (Sum.inl ((x1, x2, x3, x4, m))))) => ∀ (Q : Option Value → am_W → Prop), Q (en_i q).1 (mk_ n r q.2) → am_T m_X5_readComparison sp_X5_readComparison n Q 83 [some (.ref 68), some (.int x1), some (.int x2), some (.int x3), some (.int x4)] [] (mk_ n r m)
  | Sum.inr (Sum.inr (Sum.inr (Sum.inr (Sum.inl ((x1, x2, x3, x4, m)))))) => ∀ (Q : Option Value → am_W → Prop), Q (en_i q).1 (mk_ n r q.2) → am_T m_X5_readComparison sp_X5_readComparison n Q 117 [some (.ref 68), some (.int x1), some (.int x2), some (.int x3), some (.int x4)] [] (mk_ n r m)
  | Sum.inr (Sum.inr (Sum.inr (Sum.inr (Sum.inr ((x1, x2, x3, x4, m)))))) => ∀ (Q : Option Value → am_W → Prop), Q (en_i q).1 (mk_ n r q.2) → am_T m_X5_readComparison sp_X5_readComparison n Q 120 [some (.ref 68), some (.int x1), some (.int x2), some (.int x3), some (.int x4)] [] (mk_ n r m)
set_option maxRecDepth 100000 in
theorem t_X5_readComparison_6 (o : Nat) {n : Nat} {r : Nat → Nat → Option Nat} (hf : fn_F n r) (ho : is_O o = true) (hr : r 68 1 = some o) {K : S_X5_readComparison → Option (Int32 × fm_)} {q : Int32 × fm_} (hK : ∀ s, K s = some q → P_X5_readComparison o n r s q) (x1 : Int32) (x2 : Int32) (x3 : Int32) (m : fm_)
  (h : am_k K (st_X5_readComparison o (Sum.inl ((x1, x2, x3, m)))) = some q) : P_X5_readComparison o n r (Sum.inl ((x1, x2, x3, m))) q := fun Q y4 hQ =>
  am_T.wp sm_X5_readComparison (K := am_T m_X5_readComparison sp_X5_readComparison n Q) (cuts := [6, 34, 57, 83, 117, 120]) (fun _ _ _ _ h => h) 15
    (fj_if h (fun c1 h2 => ⟨rfl, Or.inl rfl, fj_rt h2 hQ⟩) (fun c1 h2 => fj_bd h2 fun q3 e4 h5 => ⟨Nat.le_of_ble_eq_true rfl, fn_aF hf rfl rfl, ⟨hf, some (.int q3.1), q3.2, gp_X5_readUnit (n := n) (r := r) hr ho e4, fun _ => fj_in h5 (fun c6 h7 => fj_if h7 (fun c8 h9 => hK _ h9 _ _ hQ) (fun c8 h9 => ⟨fn_aF hf rfl rfl, Or.inl ⟨_, hr, fj_bd h9 fun q10 e11 h12 => ⟨Nat.le_of_ble_eq_true rfl, fn_aO0 hf ho rfl, ⟨hf, none, q10.2, gp_X4_addStep (n := n) (r := r) ho e11, fun _ => ⟨rfl, hK _ h12 _ _ hQ⟩⟩⟩⟩⟩)) (fun c6 h7 => ⟨rfl, Or.inl rfl, fj_rt h7 hQ⟩)⟩⟩))
set_option maxRecDepth 100000 in
theorem t_X5_readComparison_34 (o : Nat) {n : Nat} {r : Nat → Nat → Option Nat} (hf : fn_F n r) (ho : is_O o = true) (hr : r 68 1 = some o) {K : S_X5_readComparison → Option (Int32 × fm_)} {q : Int32 × fm_} (hK : ∀ s, K s = some q → P_X5_readComparison o n r s q) (x1 : Int32) (x2 : Int32) (x3 : Int32) (m : fm_)
  (h : am_k K (st_X5_readComparison o (Sum.inr (Sum.inl ((x1, x2, x3, m))))) = some q) : P_X5_readComparison o n r (Sum.inr (Sum.inl ((x1, x2, x3, m)))) q := fun Q y4 hQ =>
  am_T.wp sm_X5_readComparison (K := am_T m_X5_readComparison sp_X5_readComparison n Q) (cuts := [6, 34, 57, 83, 117, 120]) (fun _ _ _ _ h => h) 24
    (⟨fn_aF hf rfl rfl, Or.inl ⟨_, hf.2 68 0 1 rfl, fj_bd h fun q1 e2 h3 => ⟨Nat.le_of_ble_eq_true rfl, fn_aF hf rfl rfl, ⟨hf, some (.int q1.1), q1.2, gp_X8_kind (n := n) (r := r)  e2, fun _ => fj_if h3 (fun c4 h5 => hK _ h5 _ hQ) (fun c4 h5 => fj_in h5 (fun c6 h7 => ⟨fun c8 => absurd c8 (by decide), fun c8 => fj_if h7 (fun c9 h10 => hK _ h10 _ hQ) (fun c9 h10 => ⟨fn_aF hf rfl rfl, Or.inl ⟨_, hr, fj_bd h10 fun q11 e12 h13 => ⟨Nat.le_of_ble_eq_true rfl, fn_aO0 hf ho rfl, ⟨hf, none, q11.2, gp_X4_addStep (n := n) (r := r) ho e12, fun _ => ⟨rfl, ⟨rfl, Or.inr rfl, fj_rt h13 hQ⟩⟩⟩⟩⟩⟩)⟩) (fun c6 h7 => hK _ h7 _ hQ))⟩⟩⟩⟩)
set_option maxRecDepth 100000 in
theorem t_X5_readComparison_57 (o : Nat) {n : Nat} {r : Nat → Nat → Option Nat} (hf : fn_F n r) (ho : is_O o = true) (hr : r 68 1 = some o) {K : S_X5_readComparison → Option (Int32 × fm_)} {q : Int32 × fm_} (hK : ∀ s, K s = some q → P_X5_readComparison o n r s q) (x1 : Int32) (x2 : Int32) (x3 : Int32) (x4 : Int32) (m : fm_)
  (h : am_k K (st_X5_readComparison o (Sum.inr (Sum.inr (Sum.inl ((x1, x2, x3, x4, m)))))) = some q) : P_X5_readComparison o n r (Sum.inr (Sum.inr (Sum.inl ((x1, x2, x3, x4, m))))) q := fun Q hQ =>
  am_T.wp sm_X5_readComparison (K := am_T m_X5_readComparison sp_X5_readComparison n Q) (cuts := [6, 34, 57, 83, 117, 120]) (fun _ _ _ _ h => h) 15
    (fj_in h (fun c1 h2 => hK _ h2 _ hQ) (fun c1 h2 => fj_if h2 (fun c3 h4 => hK _ h4 _ hQ) (fun c3 h4 => ⟨fn_aF hf rfl rfl, Or.inl ⟨_, hr, fj_bd h4 fun q5 e6 h7 => ⟨Nat.le_of_ble_eq_true rfl, fn_aO0 hf ho rfl, ⟨hf, none, q5.2, gp_X4_addStep (n := n) (r := r) ho e6, fun _ => ⟨rfl, ⟨rfl, Or.inr rfl, fj_rt h7 hQ⟩⟩⟩⟩⟩⟩)))
set_option maxRecDepth 100000 in
theorem t_X5_readComparison_83 (o : Nat) {n : Nat} {r : Nat → Nat → Option Nat} (hf : fn_F n r) (ho : is_O o = true) (hr : r 68 1 = some o) {K : S_X5_readComparison → Option (Int32 × fm_)} {q : Int32 × fm_} (hK : ∀ s, K s = some q → P_X5_readComparison o n r s q) (x1 : Int32) (x2 : Int32) (x3 : Int32) (x4 : Int32) (m : fm_)
  (h : am_k K (st_X5_readComparison o (Sum.inr (Sum.inr (Sum.inr (Sum.inl ((x1, x2, x3, x4, m))))))) = some q) : P_X5_readComparison o n r (Sum.inr (Sum.inr (Sum.inr (Sum.inl ((x1, x2, x3, x4, m)))))) q := fun Q hQ =>
  am_T.wp sm_X5_readComparison (K := am_T m_X5_readComparison sp_X5_readComparison n Q) (cuts := [6, 34, 57, 83, 117, 120]) (fun _ _ _ _ h => h) 17
    (fj_in h (fun c1 h2 => hK _ h2 _ hQ) (fun c1 h2 => fj_if h2 (fun c3 h4 => hK _ h4 _ hQ) (fun c3 h4 => fj_if h4 (fun c5 h6 => hK _ h6 _ hQ) (fun c5 h6 => fj_if h6 (fun c7 h8 => hK _ h8 _ hQ) (fun c7 h8 => ⟨fn_aF hf rfl rfl, Or.inl ⟨_, hf.2 68 0 1 rfl, fj_bd h8 fun q9 e10 h11 => ⟨Nat.le_of_ble_eq_true rfl, fn_aF hf rfl rfl, ⟨hf, some (.int q9.1), q9.2, gp_X8_fail (n := n) (r := r)  e10, fun _ => fj_gd h11 fun g13 h12 => ⟨rfl, bl_t g13, fj_rt h12 hQ⟩⟩⟩⟩⟩)))))
set_option maxRecDepth 100000 in
theorem t_X5_readComparison_117 (o : Nat) {n : Nat} {r : Nat → Nat → Option Nat} (hf : fn_F n r) (ho : is_O o = true) (hr : r 68 1 = some o) {K : S_X5_readComparison → Option (Int32 × fm_)} {q : Int32 × fm_} (hK : ∀ s, K s = some q → P_X5_readComparison o n r s q) (x1 : Int32) (x2 : Int32) (x3 : Int32) (x4 : Int32) (m : fm_)
  (h : am_k K (st_X5_readComparison o (Sum.inr (Sum.inr (Sum.inr (Sum.inr (Sum.inl ((x1, x2, x3, x4, m)))))))) = some q) : P_X5_readComparison o n r (Sum.inr (Sum.inr (Sum.inr (Sum.inr (Sum.inl ((x1, x2, x3, x4, m))))))) q := fun Q hQ =>
  am_T.wp sm_X5_readComparison (K := am_T m_X5_readComparison sp_X5_readComparison n Q) (cuts := [6, 34, 57, 83, 117, 120]) (fun _ _ _ _ h => h) 4
    (hK _ h _ hQ)
set_option maxRecDepth 100000 in
theorem t_X5_readComparison_120 (o : Nat) {n : Nat} {r : Nat → Nat → Option Nat} (hf : fn_F n r) (ho : is_O o = true) (hr : r 68 1 = some o) {K : S_X5_readComparison → Option (Int32 × fm_)} {q : Int32 × fm_} (hK : ∀ s, K s = some q → P_X5_readComparison o n r s q) (x1 : Int32) (x2 : Int32) (x3 : Int32) (x4 : Int32) (m : fm_)
  (h : am_k K (st_X5_readComparison o (Sum.inr (Sum.inr (Sum.inr (Sum.inr (Sum.inr ((x1, x2, x3, x4, m)))))))) = some q) : P_X5_readComparison o n r (Sum.inr (Sum.inr (Sum.inr (Sum.inr (Sum.inr ((x1, x2, x3, x4, m))))))) q := fun Q hQ =>
  am_T.wp sm_X5_readComparison (K := am_T m_X5_readComparison sp_X5_readComparison n Q) (cuts := [6, 34, 57, 83, 117, 120]) (fun _ _ _ _ h => h) 7
    (⟨fn_aF hf rfl rfl, Or.inl ⟨_, hf.2 68 0 1 rfl, fj_bd h fun q1 e2 h3 => ⟨Nat.le_of_ble_eq_true rfl, fn_aF hf rfl rfl, ⟨hf, none, q1.2, gp_X8_step (n := n) (r := r)  e2, fun _ => ⟨rfl, hK _ h3 _ _ hQ⟩⟩⟩⟩⟩)
theorem l_X5_readComparison (o : Nat) {n : Nat} {r : Nat → Nat → Option Nat} (hf : fn_F n r) (ho : is_O o = true) (hr : r 68 1 = some o) (s : S_X5_readComparison) (q : Int32 × fm_) (h : am_lp (st_X5_readComparison o) s = some q) : P_X5_readComparison o n r s q :=
  am_lp_snd (P := P_X5_readComparison o n r) (fun K hK s q h => match s, h with
    | Sum.inl ((x1, x2, x3, m)), h => t_X5_readComparison_6 o hf ho hr (fun s => hK s q) x1 x2 x3 m h
    | Sum.inr (Sum.inl ((x1, x2, x3, m))), h => t_X5_readComparison_34 o hf ho hr (fun s => hK s q) x1 x2 x3 m h
    | Sum.inr (Sum.inr (Sum.inl ((x1, x2, x3, x4, m)))), h => t_X5_readComparison_57 o hf ho hr (fun s => hK s q) x1 x2 x3 x4 m h
    | Sum.inr (Sum.inr (Sum.inr (Sum.inl ((x1, x2, x3, x4, m))))), h => t_X5_readComparison_83 o hf ho hr (fun s => hK s q) x1 x2 x3 x4 m h
    | Sum.inr (Sum.inr (Sum.inr (Sum.inr (Sum.inl ((x1, x2, x3, x4, m)))))), h => t_X5_readComparison_117 o hf ho hr (fun s => hK s q) x1 x2 x3 x4 m h
    | Sum.inr (Sum.inr (Sum.inr (Sum.inr (Sum.inr ((x1, x2, x3, x4, m)))))), h => t_X5_readComparison_120 o hf ho hr (fun s => hK s q) x1 x2 x3 x4 m h) s q h
set_option maxRecDepth 100000 in
theorem t_X5_readComparison (o : Nat) {n : Nat} {r : Nat → Nat → Option Nat} (hf : fn_F n r) (ho : is_O o = true) (hr : r 68 1 = some o) {q : Int32 × fm_}  {m : fm_}
  (h : f_X5_readComparison o  m = some q) {Q : Option Value → am_W → Prop} (hQ : Q (en_i q).1 (mk_ n r q.2)) : am_T m_X5_readComparison sp_X5_readComparison n Q 0 [some (.ref 68), none, none, none, none] [] (mk_ n r m) :=
  am_T.wp sm_X5_readComparison (K := am_T m_X5_readComparison sp_X5_readComparison n Q) (cuts := [6, 34, 57, 83, 117, 120]) (fun _ _ _ _ h => h) 8
    (l_X5_readComparison o hf ho hr _ _ h _ _ hQ)
noncomputable def G_X5_readComparison (n : Nat) (r : Nat → Nat → Option Nat) (as : List Value) (m : fm_) : Option (Option Value × fm_) := match as with
  | [.ref x0] => gd_ (Nat.beq x0 68) (fn_or (r 68 1) fun o => gd_ (is_O o) ((f_X5_readComparison o m).map en_i))
  | _ => none
set_option maxRecDepth 100000 in
theorem gp_X5_readComparison {n : Nat} {r : Nat → Nat → Option Nat} {o : Nat}  {m : fm_} {q : Int32 × fm_} (hr : r 68 1 = some o) (ho : is_O o = true) (e : f_X5_readComparison o m = some q) : G_X5_readComparison n r [.ref 68] m = some (en_i q) := by
  show (gd_ (Nat.beq 68 68) (fn_or (r 68 1) fun o => gd_ (is_O o) ((f_X5_readComparison o m).map en_i))) = _
  exact fn_gd rfl (fn_68 hr (fn_gd ho (fn_mp e)))
set_option maxRecDepth 100000 in
theorem ok_X5_readComparison : am_mok 5 58 m_X5_readComparison = true := by decide +kernel
set_option maxRecDepth 100000 in
theorem c_X5_readComparison (l : Launch) {g : am_G} (hg : fx_ l g) : am_Met l g 2 58 (fn_s fn_F G_X5_readComparison) := by
  refine am_sound (own := 5) (M := m_X5_readComparison) (SP := sp_X5_readComparison) hg.1 (by decide +kernel) ok_X5_readComparison (by decide +kernel) ?_ (fun q hq hk => absurd hk (am_no61 (M := m_X5_readComparison) (by decide +kernel) q hq)) (fn_ext l _ rfl g 5) (Or.inl (by decide +kernel)) ?_ ?_
  · intro q hq hk
    have hm : q.2.2.2.1 ∈ am_cs m_X5_readComparison := am_cs_in hq hk
    rw [show am_cs m_X5_readComparison = [59, 36, 93, 36, 96, 95] by decide +kernel] at hm
    have hm : q.2.2.2.1 ∈ [36, 59, 93, 95, 96] := (List.all_eq_true.mp (show ([59, 36, 93, 36, 96, 95] : List Nat).all (fun a => decide (a ∈ ([36, 59, 93, 95, 96] : List Nat))) = true by decide +kernel) _ hm |> of_decide_eq_true)
    simp only [List.mem_cons, List.not_mem_nil, or_false] at hm
    rcases hm with hm | hm | hm | hm | hm
    · rw [hm]; exact ⟨0, by omega, c_X4_addStep l hg⟩
    · rw [hm]; exact ⟨1, by omega, c_X5_readUnit l hg⟩
    · rw [hm]; exact ⟨0, by omega, c_X8_kind l hg⟩
    · rw [hm]; exact ⟨0, by omega, c_X8_step l hg⟩
    · rw [hm]; exact ⟨0, by omega, c_X8_fail l hg⟩
  · intro as w K h
    obtain ⟨hf, y, m1, hG, hK⟩ := h
    unfold G_X5_readComparison at hG
    split at hG
    · exact Nat.le_of_ble_eq_true rfl
    · cases hG
  · intro as w K h
    obtain ⟨n, i0, l0, r⟩ := w
    obtain ⟨hf, y, m1, hG, hK⟩ := h
    unfold G_X5_readComparison at hG
    split at hG
    · next x0 =>
      obtain ⟨hx1, hG1⟩ := gd_u hG
      obtain ⟨o, hr, hG8⟩ := fn_or_u hG1
      obtain ⟨ho, hG9⟩ := gd_u hG8
      obtain rfl := Nat.eq_of_beq_eq_true hx1
      obtain ⟨q, hq, he⟩ := fn_mu hG9
      obtain ⟨rfl, rfl⟩ := Prod.mk.inj he
      exact t_X5_readComparison o hf ho hr  (m := (i0, l0)) hq hK
    · cases hG

