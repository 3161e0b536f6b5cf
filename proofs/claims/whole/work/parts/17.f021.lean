/-! == X11_isDouble == -/
noncomputable def f_X11_isDouble (p1 : Int32) (p2 : Int32) (p3 : Int32) (m : fm_) : Option (Int32 × fm_) :=
  (Option.bind (f_X11_isPlateAndDay p1 p2 m) fun q1 =>
(if q1.1 = 0 then
((some ((-1), q1.2)))
else
(Option.bind (f_X6_twoBear p1 p2 p3 q1.2) fun q6 =>
(if q6.1 = 0 then
((some (0, q6.2)))
else
((some (1, q6.2)))))))
def sp_X11_isDouble : am_S := fn_sp [(179, fn_F, G_X11_isPlateAndDay), (66, fn_F, G_X6_twoBear)]
theorem sm_X11_isDouble : am_Smono (sp_X11_isDouble) := fn_sp_mono _
set_option maxRecDepth 100000 in
theorem t_X11_isDouble {n : Nat} {r : Nat → Nat → Option Nat} (hf : fn_F n r) {q : Int32 × fm_} (p1 : Int32) (p2 : Int32) (p3 : Int32) {m : fm_}
  (h : f_X11_isDouble p1 p2 p3 m = some q) {Q : Option Value → am_W → Prop} (hQ : Q (en_i q).1 (mk_ n r q.2)) : am_T m_X11_isDouble sp_X11_isDouble n Q 0 [some (.ref 0), some (.int p1), some (.int p2), some (.int p3)] [] (mk_ n r m) :=
  am_T.wp sm_X11_isDouble (K := am_T m_X11_isDouble sp_X11_isDouble n Q) (cuts := []) (fun _ _ _ _ h => h) 16
    (fh_bd h fun q1 e2 h3 => ⟨Nat.le_of_ble_eq_true rfl, fn_aF hf rfl rfl, ⟨hf, some (.int q1.1), q1.2, gp_X11_isPlateAndDay (n := n) (r := r)  e2, fun _ => fh_in h3 (fun c4 h5 => ⟨fn_aF hf rfl rfl, Or.inl ⟨_, hf.2 0 7 82 rfl, fh_bd h5 fun q6 e7 h8 => ⟨Nat.le_of_ble_eq_true rfl, fn_aF hf rfl rfl, ⟨hf, some (.int q6.1), q6.2, gp_X6_twoBear (n := n) (r := r)  e7, fun _ => fh_if h8 (fun c9 h10 => ⟨rfl, fh_rt h10 hQ⟩) (fun c9 h10 => ⟨rfl, fh_rt h10 hQ⟩)⟩⟩⟩⟩) (fun c4 h5 => ⟨rfl, fh_rt h5 hQ⟩)⟩⟩)
noncomputable def G_X11_isDouble (n : Nat) (r : Nat → Nat → Option Nat) (as : List Value) (m : fm_) : Option (Option Value × fm_) := match as with
  | [.ref x0, .int p1, .int p2, .int p3] => gd_ (Nat.beq x0 0) ((f_X11_isDouble p1 p2 p3 m).map en_i)
  | _ => none
set_option maxRecDepth 100000 in
theorem gp_X11_isDouble {n : Nat} {r : Nat → Nat → Option Nat}  {p1 : Int32} {p2 : Int32} {p3 : Int32} {m : fm_} {q : Int32 × fm_}  (e : f_X11_isDouble p1 p2 p3 m = some q) : G_X11_isDouble n r [.ref 0, .int p1, .int p2, .int p3] m = some (en_i q) := by
  show (gd_ (Nat.beq 0 0) ((f_X11_isDouble p1 p2 p3 m).map en_i)) = _
  exact fn_gd rfl (fn_mp e)
set_option maxRecDepth 100000 in
theorem ok_X11_isDouble : am_mok 11 161 m_X11_isDouble = true := by decide +kernel
set_option maxRecDepth 100000 in
theorem c_X11_isDouble (l : Launch) {g : am_G} (hg : fx_ l g) : am_Met l g 4 161 (fn_s fn_F G_X11_isDouble) := by
  refine am_sound (own := 11) (M := m_X11_isDouble) (SP := sp_X11_isDouble) hg.1 (by decide +kernel) ok_X11_isDouble (by decide +kernel) ?_ (fun q hq hk => absurd hk (am_no61 (M := m_X11_isDouble) (by decide +kernel) q hq)) (fn_ext l _ rfl g 11) (Or.inl (by decide +kernel)) ?_ ?_
  · intro q hq hk
    have hm : q.2.2.2.1 ∈ am_cs m_X11_isDouble := am_cs_in hq hk
    rw [show am_cs m_X11_isDouble = [179, 66] by decide +kernel] at hm
    have hm : q.2.2.2.1 ∈ [66, 179] := (List.all_eq_true.mp (show ([179, 66] : List Nat).all (fun a => decide (a ∈ ([66, 179] : List Nat))) = true by decide +kernel) _ hm |> of_decide_eq_true)
    simp only [List.mem_cons, List.not_mem_nil, or_false] at hm
    rcases hm with hm | hm
    · rw [hm]; exact ⟨3, by omega, c_X6_twoBear l hg⟩
    · rw [hm]; exact ⟨1, by omega, c_X11_isPlateAndDay l hg⟩
  · intro as w K h
    obtain ⟨hf, y, m1, hG, hK⟩ := h
    unfold G_X11_isDouble at hG
    split at hG
    · exact Nat.le_of_ble_eq_true rfl
    · cases hG
  · intro as w K h
    obtain ⟨n, i0, l0, r⟩ := w
    obtain ⟨hf, y, m1, hG, hK⟩ := h
    unfold G_X11_isDouble at hG
    split at hG
    · next x0 p1 p2 p3 =>
      obtain ⟨hx1, hG1⟩ := gd_u hG
      obtain rfl := Nat.eq_of_beq_eq_true hx1
      obtain ⟨q, hq, he⟩ := fn_mu hG1
      obtain ⟨rfl, rfl⟩ := Prod.mk.inj he
      exact t_X11_isDouble  hf  p1 p2 p3 (m := (i0, l0)) hq hK
    · cases hG

/-! == X11_inside == -/
noncomputable def f_X11_inside (p1 : Int32) (p2 : Int32) (p3 : Int32) (p4 : Int32) (m : fm_) : Option (Int32 × fm_) :=
  (Option.bind (f_X11_isPlateAndDay p1 p2 m) fun q1 =>
(if q1.1 = 0 then
((some ((-1), q1.2)))
else
(Option.bind (f_X6_stay p1 p2 p3 p4 q1.2) fun q6 =>
((some (q6.1, q6.2))))))
def sp_X11_inside : am_S := fn_sp [(179, fn_F, G_X11_isPlateAndDay), (67, fn_F, G_X6_stay)]
theorem sm_X11_inside : am_Smono (sp_X11_inside) := fn_sp_mono _
set_option maxRecDepth 100000 in
theorem t_X11_inside {n : Nat} {r : Nat → Nat → Option Nat} (hf : fn_F n r) {q : Int32 × fm_} (p1 : Int32) (p2 : Int32) (p3 : Int32) (p4 : Int32) {m : fm_}
  (h : f_X11_inside p1 p2 p3 p4 m = some q) {Q : Option Value → am_W → Prop} (hQ : Q (en_i q).1 (mk_ n r q.2)) : am_T m_X11_inside sp_X11_inside n Q 0 [some (.ref 0), some (.int p1), some (.int p2), some (.int p3), some (.int p4)] [] (mk_ n r m) :=
  am_T.wp sm_X11_inside (K := am_T m_X11_inside sp_X11_inside n Q) (cuts := []) (fun _ _ _ _ h => h) 15
    (fh_bd h fun q1 e2 h3 => ⟨Nat.le_of_ble_eq_true rfl, fn_aF hf rfl rfl, ⟨hf, some (.int q1.1), q1.2, gp_X11_isPlateAndDay (n := n) (r := r)  e2, fun _ => fh_if h3 (fun c4 h5 => ⟨rfl, fh_rt h5 hQ⟩) (fun c4 h5 => ⟨fn_aF hf rfl rfl, Or.inl ⟨_, hf.2 0 7 82 rfl, fh_bd h5 fun q6 e7 h8 => ⟨Nat.le_of_ble_eq_true rfl, fn_aF hf rfl rfl, ⟨hf, some (.int q6.1), q6.2, gp_X6_stay (n := n) (r := r)  e7, fun _ => ⟨rfl, fh_rt h8 hQ⟩⟩⟩⟩⟩)⟩⟩)
noncomputable def G_X11_inside (n : Nat) (r : Nat → Nat → Option Nat) (as : List Value) (m : fm_) : Option (Option Value × fm_) := match as with
  | [.ref x0, .int p1, .int p2, .int p3, .int p4] => gd_ (Nat.beq x0 0) ((f_X11_inside p1 p2 p3 p4 m).map en_i)
  | _ => none
set_option maxRecDepth 100000 in
theorem gp_X11_inside {n : Nat} {r : Nat → Nat → Option Nat}  {p1 : Int32} {p2 : Int32} {p3 : Int32} {p4 : Int32} {m : fm_} {q : Int32 × fm_}  (e : f_X11_inside p1 p2 p3 p4 m = some q) : G_X11_inside n r [.ref 0, .int p1, .int p2, .int p3, .int p4] m = some (en_i q) := by
  show (gd_ (Nat.beq 0 0) ((f_X11_inside p1 p2 p3 p4 m).map en_i)) = _
  exact fn_gd rfl (fn_mp e)
set_option maxRecDepth 100000 in
theorem ok_X11_inside : am_mok 11 162 m_X11_inside = true := by decide +kernel
set_option maxRecDepth 100000 in
theorem c_X11_inside (l : Launch) {g : am_G} (hg : fx_ l g) : am_Met l g 6 162 (fn_s fn_F G_X11_inside) := by
  refine am_sound (own := 11) (M := m_X11_inside) (SP := sp_X11_inside) hg.1 (by decide +kernel) ok_X11_inside (by decide +kernel) ?_ (fun q hq hk => absurd hk (am_no61 (M := m_X11_inside) (by decide +kernel) q hq)) (fn_ext l _ rfl g 11) (Or.inl (by decide +kernel)) ?_ ?_
  · intro q hq hk
    have hm : q.2.2.2.1 ∈ am_cs m_X11_inside := am_cs_in hq hk
    rw [show am_cs m_X11_inside = [179, 67] by decide +kernel] at hm
    have hm : q.2.2.2.1 ∈ [67, 179] := (List.all_eq_true.mp (show ([179, 67] : List Nat).all (fun a => decide (a ∈ ([67, 179] : List Nat))) = true by decide +kernel) _ hm |> of_decide_eq_true)
    simp only [List.mem_cons, List.not_mem_nil, or_false] at hm
    rcases hm with hm | hm
    · rw [hm]; exact ⟨5, by omega, c_X6_stay l hg⟩
    · rw [hm]; exact ⟨1, by omega, c_X11_isPlateAndDay l hg⟩
  · intro as w K h
    obtain ⟨hf, y, m1, hG, hK⟩ := h
    unfold G_X11_inside at hG
    split at hG
    · exact Nat.le_of_ble_eq_true rfl
    · cases hG
  · intro as w K h
    obtain ⟨n, i0, l0, r⟩ := w
    obtain ⟨hf, y, m1, hG, hK⟩ := h
    unfold G_X11_inside at hG
    split at hG
    · next x0 p1 p2 p3 p4 =>
      obtain ⟨hx1, hG1⟩ := gd_u hG
      obtain rfl := Nat.eq_of_beq_eq_true hx1
      obtain ⟨q, hq, he⟩ := fn_mu hG1
      obtain ⟨rfl, rfl⟩ := Prod.mk.inj he
      exact t_X11_inside  hf  p1 p2 p3 p4 (m := (i0, l0)) hq hK
    · cases hG

/-! == X11_classOf == -/
noncomputable def f_X11_classOf (p1 : Int32) (p2 : Int32) (p3 : Int32) (m : fm_) : Option (Int32 × fm_) :=
  (Option.bind (f_X11_isPlateAndDay p1 p2 m) fun q1 =>
(if q1.1 = 0 then
((some ((-1), q1.2)))
else
(Option.bind (f_X2_classOn p1 p2 p3 q1.2) fun q6 =>
((some (q6.1, q6.2))))))
def sp_X11_classOf : am_S := fn_sp [(179, fn_F, G_X11_isPlateAndDay), (24, fn_F, G_X2_classOn)]
theorem sm_X11_classOf : am_Smono (sp_X11_classOf) := fn_sp_mono _
set_option maxRecDepth 100000 in
theorem t_X11_classOf {n : Nat} {r : Nat → Nat → Option Nat} (hf : fn_F n r) {q : Int32 × fm_} (p1 : Int32) (p2 : Int32) (p3 : Int32) {m : fm_}
  (h : f_X11_classOf p1 p2 p3 m = some q) {Q : Option Value → am_W → Prop} (hQ : Q (en_i q).1 (mk_ n r q.2)) : am_T m_X11_classOf sp_X11_classOf n Q 0 [some (.ref 0), some (.int p1), some (.int p2), some (.int p3)] [] (mk_ n r m) :=
  am_T.wp sm_X11_classOf (K := am_T m_X11_classOf sp_X11_classOf n Q) (cuts := []) (fun _ _ _ _ h => h) 14
    (fh_bd h fun q1 e2 h3 => ⟨Nat.le_of_ble_eq_true rfl, fn_aF hf rfl rfl, ⟨hf, some (.int q1.1), q1.2, gp_X11_isPlateAndDay (n := n) (r := r)  e2, fun _ => fh_if h3 (fun c4 h5 => ⟨rfl, fh_rt h5 hQ⟩) (fun c4 h5 => ⟨fn_aF hf rfl rfl, Or.inl ⟨_, hf.2 0 8 92 rfl, fh_bd h5 fun q6 e7 h8 => ⟨Nat.le_of_ble_eq_true rfl, fn_aF hf rfl rfl, ⟨hf, some (.int q6.1), q6.2, gp_X2_classOn (n := n) (r := r)  e7, fun _ => ⟨rfl, fh_rt h8 hQ⟩⟩⟩⟩⟩)⟩⟩)
noncomputable def G_X11_classOf (n : Nat) (r : Nat → Nat → Option Nat) (as : List Value) (m : fm_) : Option (Option Value × fm_) := match as with
  | [.ref x0, .int p1, .int p2, .int p3] => gd_ (Nat.beq x0 0) ((f_X11_classOf p1 p2 p3 m).map en_i)
  | _ => none
set_option maxRecDepth 100000 in
theorem gp_X11_classOf {n : Nat} {r : Nat → Nat → Option Nat}  {p1 : Int32} {p2 : Int32} {p3 : Int32} {m : fm_} {q : Int32 × fm_}  (e : f_X11_classOf p1 p2 p3 m = some q) : G_X11_classOf n r [.ref 0, .int p1, .int p2, .int p3] m = some (en_i q) := by
  show (gd_ (Nat.beq 0 0) ((f_X11_classOf p1 p2 p3 m).map en_i)) = _
  exact fn_gd rfl (fn_mp e)
set_option maxRecDepth 100000 in
theorem ok_X11_classOf : am_mok 11 163 m_X11_classOf = true := by decide +kernel
set_option maxRecDepth 100000 in
theorem c_X11_classOf (l : Launch) {g : am_G} (hg : fx_ l g) : am_Met l g 5 163 (fn_s fn_F G_X11_classOf) := by
  refine am_sound (own := 11) (M := m_X11_classOf) (SP := sp_X11_classOf) hg.1 (by decide +kernel) ok_X11_classOf (by decide +kernel) ?_ (fun q hq hk => absurd hk (am_no61 (M := m_X11_classOf) (by decide +kernel) q hq)) (fn_ext l _ rfl g 11) (Or.inl (by decide +kernel)) ?_ ?_
  · intro q hq hk
    have hm : q.2.2.2.1 ∈ am_cs m_X11_classOf := am_cs_in hq hk
    rw [show am_cs m_X11_classOf = [179, 24] by decide +kernel] at hm
    have hm : q.2.2.2.1 ∈ [24, 179] := (List.all_eq_true.mp (show ([179, 24] : List Nat).all (fun a => decide (a ∈ ([24, 179] : List Nat))) = true by decide +kernel) _ hm |> of_decide_eq_true)
    simp only [List.mem_cons, List.not_mem_nil, or_false] at hm
    rcases hm with hm | hm
    · rw [hm]; exact ⟨4, by omega, c_X2_classOn l hg⟩
    · rw [hm]; exact ⟨1, by omega, c_X11_isPlateAndDay l hg⟩
  · intro as w K h
    obtain ⟨hf, y, m1, hG, hK⟩ := h
    unfold G_X11_classOf at hG
    split at hG
    · exact Nat.le_of_ble_eq_true rfl
    · cases hG
  · intro as w K h
    obtain ⟨n, i0, l0, r⟩ := w
    obtain ⟨hf, y, m1, hG, hK⟩ := h
    unfold G_X11_classOf at hG
    split at hG
    · next x0 p1 p2 p3 =>
      obtain ⟨hx1, hG1⟩ := gd_u hG
      obtain rfl := Nat.eq_of_beq_eq_true hx1
      obtain ⟨q, hq, he⟩ := fn_mu hG1
      obtain ⟨rfl, rfl⟩ := Prod.mk.inj he
      exact t_X11_classOf  hf  p1 p2 p3 (m := (i0, l0)) hq hK
    · cases hG

/-! == X11_entries == -/
noncomputable def f_X11_entries (p1 : Int32) (p2 : Int32) (p3 : Int32) (m : fm_) : Option (Int32 × fm_) :=
  (Option.bind (f_X11_isPlateAndDay p1 p2 m) fun q1 =>
(if q1.1 = 0 then
((some ((-1), q1.2)))
else
(Option.bind (f_X6_chooseUpTo p2 p3 q1.2) fun q6 =>
(Option.bind (f_X2_entriesAhead p1 p2 q6.2) fun q9 =>
((some (q9.1, q9.2)))))))
def sp_X11_entries : am_S := fn_sp [(179, fn_F, G_X11_isPlateAndDay), (63, fn_F, G_X6_chooseUpTo), (25, fn_F, G_X2_entriesAhead)]
theorem sm_X11_entries : am_Smono (sp_X11_entries) := fn_sp_mono _
set_option maxRecDepth 100000 in
theorem t_X11_entries {n : Nat} {r : Nat → Nat → Option Nat} (hf : fn_F n r) {q : Int32 × fm_} (p1 : Int32) (p2 : Int32) (p3 : Int32) {m : fm_}
  (h : f_X11_entries p1 p2 p3 m = some q) {Q : Option Value → am_W → Prop} (hQ : Q (en_i q).1 (mk_ n r q.2)) : am_T m_X11_entries sp_X11_entries n Q 0 [some (.ref 0), some (.int p1), some (.int p2), some (.int p3)] [] (mk_ n r m) :=
  am_T.wp sm_X11_entries (K := am_T m_X11_entries sp_X11_entries n Q) (cuts := []) (fun _ _ _ _ h => h) 17
    (fh_bd h fun q1 e2 h3 => ⟨Nat.le_of_ble_eq_true rfl, fn_aF hf rfl rfl, ⟨hf, some (.int q1.1), q1.2, gp_X11_isPlateAndDay (n := n) (r := r)  e2, fun _ => fh_in h3 (fun c4 h5 => ⟨fn_aF hf rfl rfl, Or.inl ⟨_, hf.2 0 7 82 rfl, fh_bd h5 fun q6 e7 h8 => ⟨Nat.le_of_ble_eq_true rfl, fn_aF hf rfl rfl, ⟨hf, none, q6.2, gp_X6_chooseUpTo (n := n) (r := r)  e7, fun _ => ⟨rfl, ⟨fn_aF hf rfl rfl, Or.inl ⟨_, hf.2 0 8 92 rfl, fh_bd h8 fun q9 e10 h11 => ⟨Nat.le_of_ble_eq_true rfl, fn_aF hf rfl rfl, ⟨hf, some (.int q9.1), q9.2, gp_X2_entriesAhead (n := n) (r := r)  e10, fun _ => ⟨rfl, fh_rt h11 hQ⟩⟩⟩⟩⟩⟩⟩⟩⟩⟩) (fun c4 h5 => ⟨rfl, fh_rt h5 hQ⟩)⟩⟩)
noncomputable def G_X11_entries (n : Nat) (r : Nat → Nat → Option Nat) (as : List Value) (m : fm_) : Option (Option Value × fm_) := match as with
  | [.ref x0, .int p1, .int p2, .int p3] => gd_ (Nat.beq x0 0) ((f_X11_entries p1 p2 p3 m).map en_i)
  | _ => none
set_option maxRecDepth 100000 in
theorem gp_X11_entries {n : Nat} {r : Nat → Nat → Option Nat}  {p1 : Int32} {p2 : Int32} {p3 : Int32} {m : fm_} {q : Int32 × fm_}  (e : f_X11_entries p1 p2 p3 m = some q) : G_X11_entries n r [.ref 0, .int p1, .int p2, .int p3] m = some (en_i q) := by
  show (gd_ (Nat.beq 0 0) ((f_X11_entries p1 p2 p3 m).map en_i)) = _
  exact fn_gd rfl (fn_mp e)
set_option maxRecDepth 100000 in
theorem ok_X11_entries : am_mok 11 164 m_X11_entries = true := by decide +kernel
set_option maxRecDepth 100000 in
theorem c_X11_entries (l : Launch) {g : am_G} (hg : fx_ l g) : am_Met l g 6 164 (fn_s fn_F G_X11_entries) := by
  refine am_sound (own := 11) (M := m_X11_entries) (SP := sp_X11_entries) hg.1 (by decide +kernel) ok_X11_entries (by decide +kernel) ?_ (fun q hq hk => absurd hk (am_no61 (M := m_X11_entries) (by decide +kernel) q hq)) (fn_ext l _ rfl g 11) (Or.inl (by decide +kernel)) ?_ ?_
  · intro q hq hk
    have hm : q.2.2.2.1 ∈ am_cs m_X11_entries := am_cs_in hq hk
    rw [show am_cs m_X11_entries = [179, 63, 25] by decide +kernel] at hm
    have hm : q.2.2.2.1 ∈ [25, 63, 179] := (List.all_eq_true.mp (show ([179, 63, 25] : List Nat).all (fun a => decide (a ∈ ([25, 63, 179] : List Nat))) = true by decide +kernel) _ hm |> of_decide_eq_true)
    simp only [List.mem_cons, List.not_mem_nil, or_false] at hm
    rcases hm with hm | hm | hm
    · rw [hm]; exact ⟨4, by omega, c_X2_entriesAhead l hg⟩
    · rw [hm]; exact ⟨5, by omega, c_X6_chooseUpTo l hg⟩
    · rw [hm]; exact ⟨1, by omega, c_X11_isPlateAndDay l hg⟩
  · intro as w K h
    obtain ⟨hf, y, m1, hG, hK⟩ := h
    unfold G_X11_entries at hG
    split at hG
    · exact Nat.le_of_ble_eq_true rfl
    · cases hG
  · intro as w K h
    obtain ⟨n, i0, l0, r⟩ := w
    obtain ⟨hf, y, m1, hG, hK⟩ := h
    unfold G_X11_entries at hG
    split at hG
    · next x0 p1 p2 p3 =>
      obtain ⟨hx1, hG1⟩ := gd_u hG
      obtain rfl := Nat.eq_of_beq_eq_true hx1
      obtain ⟨q, hq, he⟩ := fn_mu hG1
      obtain ⟨rfl, rfl⟩ := Prod.mk.inj he
      exact t_X11_entries  hf  p1 p2 p3 (m := (i0, l0)) hq hK
    · cases hG

/-! == X11_charge == -/
noncomputable def f_X11_charge (p1 : Int32) (p2 : Int32) (p3 : Int32) (m : fm_) : Option (Int32 × fm_) :=
  (Option.bind (f_X11_isPlateAndDay p1 p2 m) fun q1 =>
(if q1.1 = 0 then
((some ((-1), q1.2)))
else
(Option.bind (f_X6_chooseUpTo p2 p3 q1.2) fun q6 =>
(Option.bind (f_X2_sumOf p1 p2 p2 p3 q6.2) fun q9 =>
((some (q9.1, q9.2)))))))
def sp_X11_charge : am_S := fn_sp [(179, fn_F, G_X11_isPlateAndDay), (63, fn_F, G_X6_chooseUpTo), (27, fn_F, G_X2_sumOf)]
theorem sm_X11_charge : am_Smono (sp_X11_charge) := fn_sp_mono _
set_option maxRecDepth 100000 in
theorem t_X11_charge {n : Nat} {r : Nat → Nat → Option Nat} (hf : fn_F n r) {q : Int32 × fm_} (p1 : Int32) (p2 : Int32) (p3 : Int32) {m : fm_}
  (h : f_X11_charge p1 p2 p3 m = some q) {Q : Option Value → am_W → Prop} (hQ : Q (en_i q).1 (mk_ n r q.2)) : am_T m_X11_charge sp_X11_charge n Q 0 [some (.ref 0), some (.int p1), some (.int p2), some (.int p3)] [] (mk_ n r m) :=
  am_T.wp sm_X11_charge (K := am_T m_X11_charge sp_X11_charge n Q) (cuts := []) (fun _ _ _ _ h => h) 19
    (fh_bd h fun q1 e2 h3 => ⟨Nat.le_of_ble_eq_true rfl, fn_aF hf rfl rfl, ⟨hf, some (.int q1.1), q1.2, gp_X11_isPlateAndDay (n := n) (r := r)  e2, fun _ => fh_in h3 (fun c4 h5 => ⟨fn_aF hf rfl rfl, Or.inl ⟨_, hf.2 0 7 82 rfl, fh_bd h5 fun q6 e7 h8 => ⟨Nat.le_of_ble_eq_true rfl, fn_aF hf rfl rfl, ⟨hf, none, q6.2, gp_X6_chooseUpTo (n := n) (r := r)  e7, fun _ => ⟨rfl, ⟨fn_aF hf rfl rfl, Or.inl ⟨_, hf.2 0 8 92 rfl, fh_bd h8 fun q9 e10 h11 => ⟨Nat.le_of_ble_eq_true rfl, fn_aF hf rfl rfl, ⟨hf, some (.int q9.1), q9.2, gp_X2_sumOf (n := n) (r := r)  e10, fun _ => ⟨rfl, fh_rt h11 hQ⟩⟩⟩⟩⟩⟩⟩⟩⟩⟩) (fun c4 h5 => ⟨rfl, fh_rt h5 hQ⟩)⟩⟩)
noncomputable def G_X11_charge (n : Nat) (r : Nat → Nat → Option Nat) (as : List Value) (m : fm_) : Option (Option Value × fm_) := match as with
  | [.ref x0, .int p1, .int p2, .int p3] => gd_ (Nat.beq x0 0) ((f_X11_charge p1 p2 p3 m).map en_i)
  | _ => none
set_option maxRecDepth 100000 in
theorem gp_X11_charge {n : Nat} {r : Nat → Nat → Option Nat}  {p1 : Int32} {p2 : Int32} {p3 : Int32} {m : fm_} {q : Int32 × fm_}  (e : f_X11_charge p1 p2 p3 m = some q) : G_X11_charge n r [.ref 0, .int p1, .int p2, .int p3] m = some (en_i q) := by
  show (gd_ (Nat.beq 0 0) ((f_X11_charge p1 p2 p3 m).map en_i)) = _
  exact fn_gd rfl (fn_mp e)
set_option maxRecDepth 100000 in
theorem ok_X11_charge : am_mok 11 165 m_X11_charge = true := by decide +kernel
set_option maxRecDepth 100000 in
theorem c_X11_charge (l : Launch) {g : am_G} (hg : fx_ l g) : am_Met l g 6 165 (fn_s fn_F G_X11_charge) := by
  refine am_sound (own := 11) (M := m_X11_charge) (SP := sp_X11_charge) hg.1 (by decide +kernel) ok_X11_charge (by decide +kernel) ?_ (fun q hq hk => absurd hk (am_no61 (M := m_X11_charge) (by decide +kernel) q hq)) (fn_ext l _ rfl g 11) (Or.inl (by decide +kernel)) ?_ ?_
  · intro q hq hk
    have hm : q.2.2.2.1 ∈ am_cs m_X11_charge := am_cs_in hq hk
    rw [show am_cs m_X11_charge = [179, 63, 27] by decide +kernel] at hm
    have hm : q.2.2.2.1 ∈ [27, 63, 179] := (List.all_eq_true.mp (show ([179, 63, 27] : List Nat).all (fun a => decide (a ∈ ([27, 63, 179] : List Nat))) = true by decide +kernel) _ hm |> of_decide_eq_true)
    simp only [List.mem_cons, List.not_mem_nil, or_false] at hm
    rcases hm with hm | hm | hm
    · rw [hm]; exact ⟨4, by omega, c_X2_sumOf l hg⟩
    · rw [hm]; exact ⟨5, by omega, c_X6_chooseUpTo l hg⟩
    · rw [hm]; exact ⟨1, by omega, c_X11_isPlateAndDay l hg⟩
  · intro as w K h
    obtain ⟨hf, y, m1, hG, hK⟩ := h
    unfold G_X11_charge at hG
    split at hG
    · exact Nat.le_of_ble_eq_true rfl
    · cases hG
  · intro as w K h
    obtain ⟨n, i0, l0, r⟩ := w
    obtain ⟨hf, y, m1, hG, hK⟩ := h
    unfold G_X11_charge at hG
    split at hG
    · next x0 p1 p2 p3 =>
      obtain ⟨hx1, hG1⟩ := gd_u hG
      obtain rfl := Nat.eq_of_beq_eq_true hx1
      obtain ⟨q, hq, he⟩ := fn_mu hG1
      obtain ⟨rfl, rfl⟩ := Prod.mk.inj he
      exact t_X11_charge  hf  p1 p2 p3 (m := (i0, l0)) hq hK
    · cases hG

/-! == X11_isFleetAndDays == -/
noncomputable def f_X11_isFleetAndDays (p1 : Int32) (p2 : Int32) (p3 : Int32) (m : fm_) : Option (Int32 × fm_) :=
  (Option.bind (f_X11_isUnder p1 10 m) fun q1 =>
(if q1.1 = 0 then
((some (0, q1.2)))
else
(Option.bind (f_X11_isDay p2 q1.2) fun q6 =>
(if q6.1 = 0 then
((some (0, q6.2)))
else
(Option.bind (f_X11_isDay p3 q6.2) fun q11 =>
(if q11.1 = 0 then
((some (0, q11.2)))
else
(if p3 < p2 then
((some (0, q11.2)))
else
((some (1, q11.2))))))))))
def sp_X11_isFleetAndDays : am_S := fn_sp [(182, fn_0, G_X11_isUnder), (181, fn_0, G_X11_isDay)]
theorem sm_X11_isFleetAndDays : am_Smono (sp_X11_isFleetAndDays) := fn_sp_mono _
set_option maxRecDepth 100000 in
theorem t_X11_isFleetAndDays {n : Nat} {r : Nat → Nat → Option Nat} (hf : fn_0 n r) {q : Int32 × fm_} (p1 : Int32) (p2 : Int32) (p3 : Int32) {m : fm_}
  (h : f_X11_isFleetAndDays p1 p2 p3 m = some q) {Q : Option Value → am_W → Prop} (hQ : Q (en_i q).1 (mk_ n r q.2)) : am_T m_X11_isFleetAndDays sp_X11_isFleetAndDays n Q 0 [some (.int p1), some (.int p2), some (.int p3)] [] (mk_ n r m) :=
  am_T.wp sm_X11_isFleetAndDays (K := am_T m_X11_isFleetAndDays sp_X11_isFleetAndDays n Q) (cuts := []) (fun _ _ _ _ h => h) 17
    (fh_bd h fun q1 e2 h3 => ⟨Nat.le_of_ble_eq_true rfl, trivial, ⟨trivial, some (.int q1.1), q1.2, gp_X11_isUnder (n := n) (r := r)  e2, fun _ => fh_if h3 (fun c4 h5 => ⟨rfl, Or.inl rfl, fh_rt h5 hQ⟩) (fun c4 h5 => fh_bd h5 fun q6 e7 h8 => ⟨Nat.le_of_ble_eq_true rfl, trivial, ⟨trivial, some (.int q6.1), q6.2, gp_X11_isDay (n := n) (r := r)  e7, fun _ => fh_if h8 (fun c9 h10 => ⟨rfl, Or.inl rfl, fh_rt h10 hQ⟩) (fun c9 h10 => fh_bd h10 fun q11 e12 h13 => ⟨Nat.le_of_ble_eq_true rfl, trivial, ⟨trivial, some (.int q11.1), q11.2, gp_X11_isDay (n := n) (r := r)  e12, fun _ => fh_if h13 (fun c14 h15 => ⟨rfl, Or.inl rfl, fh_rt h15 hQ⟩) (fun c14 h15 => fh_if h15 (fun c16 h17 => ⟨rfl, Or.inl rfl, fh_rt h17 hQ⟩) (fun c16 h17 => ⟨rfl, Or.inr rfl, fh_rt h17 hQ⟩))⟩⟩)⟩⟩)⟩⟩)
noncomputable def G_X11_isFleetAndDays (n : Nat) (r : Nat → Nat → Option Nat) (as : List Value) (m : fm_) : Option (Option Value × fm_) := match as with
  | [.int p1, .int p2, .int p3] => (f_X11_isFleetAndDays p1 p2 p3 m).map en_i
  | _ => none
set_option maxRecDepth 100000 in
theorem gp_X11_isFleetAndDays {n : Nat} {r : Nat → Nat → Option Nat}  {p1 : Int32} {p2 : Int32} {p3 : Int32} {m : fm_} {q : Int32 × fm_}  (e : f_X11_isFleetAndDays p1 p2 p3 m = some q) : G_X11_isFleetAndDays n r [.int p1, .int p2, .int p3] m = some (en_i q) := by
  show ((f_X11_isFleetAndDays p1 p2 p3 m).map en_i) = _
  exact fn_mp e
set_option maxRecDepth 100000 in
theorem ok_X11_isFleetAndDays : am_mok 11 180 m_X11_isFleetAndDays = true := by decide +kernel
set_option maxRecDepth 100000 in
theorem c_X11_isFleetAndDays (l : Launch) {g : am_G} (hg : fx_ l g) : am_Met l g 1 180 (fn_s fn_0 G_X11_isFleetAndDays) := by
  refine am_sound (own := 11) (M := m_X11_isFleetAndDays) (SP := sp_X11_isFleetAndDays) hg.1 (by decide +kernel) ok_X11_isFleetAndDays (by decide +kernel) ?_ (fun q hq hk => absurd hk (am_no61 (M := m_X11_isFleetAndDays) (by decide +kernel) q hq)) (fn_ext l _ rfl g 11) (Or.inl (by decide +kernel)) ?_ ?_
  · intro q hq hk
    have hm : q.2.2.2.1 ∈ am_cs m_X11_isFleetAndDays := am_cs_in hq hk
    rw [show am_cs m_X11_isFleetAndDays = [182, 181, 181] by decide +kernel] at hm
    have hm : q.2.2.2.1 ∈ [181, 182] := (List.all_eq_true.mp (show ([182, 181, 181] : List Nat).all (fun a => decide (a ∈ ([181, 182] : List Nat))) = true by decide +kernel) _ hm |> of_decide_eq_true)
    simp only [List.mem_cons, List.not_mem_nil, or_false] at hm
    rcases hm with hm | hm
    · rw [hm]; exact ⟨0, by omega, c_X11_isDay l hg⟩
    · rw [hm]; exact ⟨0, by omega, c_X11_isUnder l hg⟩
  · intro as w K h
    obtain ⟨hf, y, m1, hG, hK⟩ := h
    unfold G_X11_isFleetAndDays at hG
    split at hG
    · exact Nat.le_of_ble_eq_true rfl
    · cases hG
  · intro as w K h
    obtain ⟨n, i0, l0, r⟩ := w
    obtain ⟨hf, y, m1, hG, hK⟩ := h
    unfold G_X11_isFleetAndDays at hG
    split at hG
    · next p1 p2 p3 =>
      obtain ⟨q, hq, he⟩ := fn_mu hG
      obtain ⟨rfl, rfl⟩ := Prod.mk.inj he
      exact t_X11_isFleetAndDays  hf  p1 p2 p3 (m := (i0, l0)) hq hK
    · cases hG

/-! == X11_account == -/
noncomputable def f_X11_account (p1 : Int32) (p2 : Int32) (p3 : Int32) (p4 : Int32) (m : fm_) : Option (Int32 × fm_) :=
  (Option.bind (f_X11_isFleetAndDays p1 p2 p3 m) fun q1 =>
(if q1.1 = 0 then
((some ((-1), q1.2)))
else
(Option.bind (f_X6_chooseUpTo p3 p4 q1.2) fun q6 =>
(Option.bind (f_X2_fleetSum p1 p2 p3 p4 q6.2) fun q9 =>
((some (q9.1, q9.2)))))))
def sp_X11_account : am_S := fn_sp [(180, fn_0, G_X11_isFleetAndDays), (63, fn_F, G_X6_chooseUpTo), (26, fn_F, G_X2_fleetSum)]
theorem sm_X11_account : am_Smono (sp_X11_account) := fn_sp_mono _
set_option maxRecDepth 100000 in
theorem t_X11_account {n : Nat} {r : Nat → Nat → Option Nat} (hf : fn_F n r) {q : Int32 × fm_} (p1 : Int32) (p2 : Int32) (p3 : Int32) (p4 : Int32) {m : fm_}
  (h : f_X11_account p1 p2 p3 p4 m = some q) {Q : Option Value → am_W → Prop} (hQ : Q (en_i q).1 (mk_ n r q.2)) : am_T m_X11_account sp_X11_account n Q 0 [some (.ref 0), some (.int p1), some (.int p2), some (.int p3), some (.int p4)] [] (mk_ n r m) :=
  am_T.wp sm_X11_account (K := am_T m_X11_account sp_X11_account n Q) (cuts := []) (fun _ _ _ _ h => h) 19
    (fh_bd h fun q1 e2 h3 => ⟨Nat.le_of_ble_eq_true rfl, trivial, ⟨trivial, some (.int q1.1), q1.2, gp_X11_isFleetAndDays (n := n) (r := r)  e2, fun _ => fh_in h3 (fun c4 h5 => ⟨fn_aF hf rfl rfl, Or.inl ⟨_, hf.2 0 7 82 rfl, fh_bd h5 fun q6 e7 h8 => ⟨Nat.le_of_ble_eq_true rfl, fn_aF hf rfl rfl, ⟨hf, none, q6.2, gp_X6_chooseUpTo (n := n) (r := r)  e7, fun _ => ⟨rfl, ⟨fn_aF hf rfl rfl, Or.inl ⟨_, hf.2 0 8 92 rfl, fh_bd h8 fun q9 e10 h11 => ⟨Nat.le_of_ble_eq_true rfl, fn_aF hf rfl rfl, ⟨hf, some (.int q9.1), q9.2, gp_X2_fleetSum (n := n) (r := r)  e10, fun _ => ⟨rfl, fh_rt h11 hQ⟩⟩⟩⟩⟩⟩⟩⟩⟩⟩) (fun c4 h5 => ⟨rfl, fh_rt h5 hQ⟩)⟩⟩)
noncomputable def G_X11_account (n : Nat) (r : Nat → Nat → Option Nat) (as : List Value) (m : fm_) : Option (Option Value × fm_) := match as with
  | [.ref x0, .int p1, .int p2, .int p3, .int p4] => gd_ (Nat.beq x0 0) ((f_X11_account p1 p2 p3 p4 m).map en_i)
  | _ => none
set_option maxRecDepth 100000 in
theorem gp_X11_account {n : Nat} {r : Nat → Nat → Option Nat}  {p1 : Int32} {p2 : Int32} {p3 : Int32} {p4 : Int32} {m : fm_} {q : Int32 × fm_}  (e : f_X11_account p1 p2 p3 p4 m = some q) : G_X11_account n r [.ref 0, .int p1, .int p2, .int p3, .int p4] m = some (en_i q) := by
  show (gd_ (Nat.beq 0 0) ((f_X11_account p1 p2 p3 p4 m).map en_i)) = _
  exact fn_gd rfl (fn_mp e)
set_option maxRecDepth 100000 in
theorem ok_X11_account : am_mok 11 166 m_X11_account = true := by decide +kernel
set_option maxRecDepth 100000 in
theorem c_X11_account (l : Launch) {g : am_G} (hg : fx_ l g) : am_Met l g 6 166 (fn_s fn_F G_X11_account) := by
  refine am_sound (own := 11) (M := m_X11_account) (SP := sp_X11_account) hg.1 (by decide +kernel) ok_X11_account (by decide +kernel) ?_ (fun q hq hk => absurd hk (am_no61 (M := m_X11_account) (by decide +kernel) q hq)) (fn_ext l _ rfl g 11) (Or.inl (by decide +kernel)) ?_ ?_
  · intro q hq hk
    have hm : q.2.2.2.1 ∈ am_cs m_X11_account := am_cs_in hq hk
    rw [show am_cs m_X11_account = [180, 63, 26] by decide +kernel] at hm
    have hm : q.2.2.2.1 ∈ [26, 63, 180] := (List.all_eq_true.mp (show ([180, 63, 26] : List Nat).all (fun a => decide (a ∈ ([26, 63, 180] : List Nat))) = true by decide +kernel) _ hm |> of_decide_eq_true)
    simp only [List.mem_cons, List.not_mem_nil, or_false] at hm
    rcases hm with hm | hm | hm
    · rw [hm]; exact ⟨5, by omega, c_X2_fleetSum l hg⟩
    · rw [hm]; exact ⟨5, by omega, c_X6_chooseUpTo l hg⟩
    · rw [hm]; exact ⟨1, by omega, c_X11_isFleetAndDays l hg⟩
  · intro as w K h
    obtain ⟨hf, y, m1, hG, hK⟩ := h
    unfold G_X11_account at hG
    split at hG
    · exact Nat.le_of_ble_eq_true rfl
    · cases hG
  · intro as w K h
    obtain ⟨n, i0, l0, r⟩ := w
    obtain ⟨hf, y, m1, hG, hK⟩ := h
    unfold G_X11_account at hG
    split at hG
    · next x0 p1 p2 p3 p4 =>
      obtain ⟨hx1, hG1⟩ := gd_u hG
      obtain rfl := Nat.eq_of_beq_eq_true hx1
      obtain ⟨q, hq, he⟩ := fn_mu hG1
      obtain ⟨rfl, rfl⟩ := Prod.mk.inj he
      exact t_X11_account  hf  p1 p2 p3 p4 (m := (i0, l0)) hq hK
    · cases hG

/-! == X11_back == -/
noncomputable def f_X11_back (p1 : Int32) (p2 : Int32) (p3 : Int32) (p4 : Int32) (p5 : Int32) (m : fm_) : Option (Int32 × fm_) :=
  (Option.bind (f_X11_isFleetAndDays p1 p2 p3 m) fun q1 =>
(if q1.1 = 0 then
((some ((-1000000), q1.2)))
else
(Option.bind (f_X6_chooseUpTo p3 p4 q1.2) fun q6 =>
(Option.bind (f_X2_fleetSum p1 p2 p3 p4 q6.2) fun q9 =>
(Option.bind (f_X6_chooseUpTo p3 p5 q9.2) fun q12 =>
(Option.bind (f_X2_fleetSum p1 p2 p3 p5 q12.2) fun q15 =>
((some ((q9.1 - q15.1), q15.2)))))))))
def sp_X11_back : am_S := fn_sp [(180, fn_0, G_X11_isFleetAndDays), (63, fn_F, G_X6_chooseUpTo), (26, fn_F, G_X2_fleetSum)]
theorem sm_X11_back : am_Smono (sp_X11_back) := fn_sp_mono _
set_option maxRecDepth 100000 in
theorem t_X11_back {n : Nat} {r : Nat → Nat → Option Nat} (hf : fn_F n r) {q : Int32 × fm_} (p1 : Int32) (p2 : Int32) (p3 : Int32) (p4 : Int32) (p5 : Int32) {m : fm_}
  (h : f_X11_back p1 p2 p3 p4 p5 m = some q) {Q : Option Value → am_W → Prop} (hQ : Q (en_i q).1 (mk_ n r q.2)) : am_T m_X11_back sp_X11_back n Q 0 [some (.ref 0), some (.int p1), some (.int p2), some (.int p3), some (.int p4), some (.int p5), none] [] (mk_ n r m) :=
  am_T.wp sm_X11_back (K := am_T m_X11_back sp_X11_back n Q) (cuts := []) (fun _ _ _ _ h => h) 34
    (fh_bd h fun q1 e2 h3 => ⟨Nat.le_of_ble_eq_true rfl, trivial, ⟨trivial, some (.int q1.1), q1.2, gp_X11_isFleetAndDays (n := n) (r := r)  e2, fun _ => fh_in h3 (fun c4 h5 => ⟨fn_aF hf rfl rfl, Or.inl ⟨_, hf.2 0 7 82 rfl, fh_bd h5 fun q6 e7 h8 => ⟨Nat.le_of_ble_eq_true rfl, fn_aF hf rfl rfl, ⟨hf, none, q6.2, gp_X6_chooseUpTo (n := n) (r := r)  e7, fun _ => ⟨rfl, ⟨fn_aF hf rfl rfl, Or.inl ⟨_, hf.2 0 8 92 rfl, fh_bd h8 fun q9 e10 h11 => ⟨Nat.le_of_ble_eq_true rfl, fn_aF hf rfl rfl, ⟨hf, some (.int q9.1), q9.2, gp_X2_fleetSum (n := n) (r := r)  e10, fun _ => ⟨fn_aF hf rfl rfl, Or.inl ⟨_, hf.2 0 7 82 rfl, fh_bd h11 fun q12 e13 h14 => ⟨Nat.le_of_ble_eq_true rfl, fn_aF hf rfl rfl, ⟨hf, none, q12.2, gp_X6_chooseUpTo (n := n) (r := r)  e13, fun _ => ⟨rfl, ⟨fn_aF hf rfl rfl, Or.inl ⟨_, hf.2 0 8 92 rfl, fh_bd h14 fun q15 e16 h17 => ⟨Nat.le_of_ble_eq_true rfl, fn_aF hf rfl rfl, ⟨hf, some (.int q15.1), q15.2, gp_X2_fleetSum (n := n) (r := r)  e16, fun _ => ⟨rfl, fh_rt h17 hQ⟩⟩⟩⟩⟩⟩⟩⟩⟩⟩⟩⟩⟩⟩⟩⟩⟩⟩⟩) (fun c4 h5 => ⟨rfl, fh_rt h5 hQ⟩)⟩⟩)
noncomputable def G_X11_back (n : Nat) (r : Nat → Nat → Option Nat) (as : List Value) (m : fm_) : Option (Option Value × fm_) := match as with
  | [.ref x0, .int p1, .int p2, .int p3, .int p4, .int p5] => gd_ (Nat.beq x0 0) ((f_X11_back p1 p2 p3 p4 p5 m).map en_i)
  | _ => none
set_option maxRecDepth 100000 in
theorem gp_X11_back {n : Nat} {r : Nat → Nat → Option Nat}  {p1 : Int32} {p2 : Int32} {p3 : Int32} {p4 : Int32} {p5 : Int32} {m : fm_} {q : Int32 × fm_}  (e : f_X11_back p1 p2 p3 p4 p5 m = some q) : G_X11_back n r [.ref 0, .int p1, .int p2, .int p3, .int p4, .int p5] m = some (en_i q) := by
  show (gd_ (Nat.beq 0 0) ((f_X11_back p1 p2 p3 p4 p5 m).map en_i)) = _
  exact fn_gd rfl (fn_mp e)
set_option maxRecDepth 100000 in
theorem ok_X11_back : am_mok 11 167 m_X11_back = true := by decide +kernel
set_option maxRecDepth 100000 in
theorem c_X11_back (l : Launch) {g : am_G} (hg : fx_ l g) : am_Met l g 6 167 (fn_s fn_F G_X11_back) := by
  refine am_sound (own := 11) (M := m_X11_back) (SP := sp_X11_back) hg.1 (by decide +kernel) ok_X11_back (by decide +kernel) ?_ (fun q hq hk => absurd hk (am_no61 (M := m_X11_back) (by decide +kernel) q hq)) (fn_ext l _ rfl g 11) (Or.inl (by decide +kernel)) ?_ ?_
  · intro q hq hk
    have hm : q.2.2.2.1 ∈ am_cs m_X11_back := am_cs_in hq hk
    rw [show am_cs m_X11_back = [180, 63, 26, 63, 26] by decide +kernel] at hm
    have hm : q.2.2.2.1 ∈ [26, 63, 180] := (List.all_eq_true.mp (show ([180, 63, 26, 63, 26] : List Nat).all (fun a => decide (a ∈ ([26, 63, 180] : List Nat))) = true by decide +kernel) _ hm |> of_decide_eq_true)
    simp only [List.mem_cons, List.not_mem_nil, or_false] at hm
    rcases hm with hm | hm | hm
    · rw [hm]; exact ⟨5, by omega, c_X2_fleetSum l hg⟩
    · rw [hm]; exact ⟨5, by omega, c_X6_chooseUpTo l hg⟩
    · rw [hm]; exact ⟨1, by omega, c_X11_isFleetAndDays l hg⟩
  · intro as w K h
    obtain ⟨hf, y, m1, hG, hK⟩ := h
    unfold G_X11_back at hG
    split at hG
    · exact Nat.le_of_ble_eq_true rfl
    · cases hG
  · intro as w K h
    obtain ⟨n, i0, l0, r⟩ := w
    obtain ⟨hf, y, m1, hG, hK⟩ := h
    unfold G_X11_back at hG
    split at hG
    · next x0 p1 p2 p3 p4 p5 =>
      obtain ⟨hx1, hG1⟩ := gd_u hG
      obtain rfl := Nat.eq_of_beq_eq_true hx1
      obtain ⟨q, hq, he⟩ := fn_mu hG1
      obtain ⟨rfl, rfl⟩ := Prod.mk.inj he
      exact t_X11_back  hf  p1 p2 p3 p4 p5 (m := (i0, l0)) hq hK
    · cases hG

/-! == X11_air == -/
noncomputable def f_X11_air (p1 : Int32) (p2 : Int32) (p3 : Int32) (p4 : Int32) (m : fm_) : Option (Int32 × fm_) :=
  (Option.bind (f_X11_isUnder p1 2 m) fun q1 =>
(if q1.1 = 0 then
((some ((-1), q1.2)))
else
(Option.bind (f_X11_isDay p2 q1.2) fun q7 =>
(if q7.1 = 0 then
((some ((-1), q7.2)))
else
(Option.bind (f_X11_isUnder p3 4 q7.2) fun q13 =>
(if q13.1 = 0 then
((some ((-1), q13.2)))
else
(if p4 < 0 then
((some ((-1), q13.2)))
else
(if 999 < p4 then
((some ((-1), q13.2)))
else
(Option.bind (f_X0_add p1 p2 p3 p4 q13.2) fun q26 =>
((some (q26.1, q26.2))))))))))))
def sp_X11_air : am_S := fn_sp [(182, fn_0, G_X11_isUnder), (181, fn_0, G_X11_isDay), (1, fn_F, G_X0_add)]
theorem sm_X11_air : am_Smono (sp_X11_air) := fn_sp_mono _
set_option maxRecDepth 100000 in
theorem t_X11_air {n : Nat} {r : Nat → Nat → Option Nat} (hf : fn_F n r) {q : Int32 × fm_} (p1 : Int32) (p2 : Int32) (p3 : Int32) (p4 : Int32) {m : fm_}
  (h : f_X11_air p1 p2 p3 p4 m = some q) {Q : Option Value → am_W → Prop} (hQ : Q (en_i q).1 (mk_ n r q.2)) : am_T m_X11_air sp_X11_air n Q 0 [some (.ref 0), some (.int p1), some (.int p2), some (.int p3), some (.int p4), none] [] (mk_ n r m) :=
  am_T.wp sm_X11_air (K := am_T m_X11_air sp_X11_air n Q) (cuts := []) (fun _ _ _ _ h => h) 31
    (fh_bd h fun q1 e2 h3 => ⟨Nat.le_of_ble_eq_true rfl, trivial, ⟨trivial, some (.int q1.1), q1.2, gp_X11_isUnder (n := n) (r := r)  e2, fun _ => fh_if h3 (fun c4 h5 => ⟨fun c6 => ⟨rfl, fh_rt h5 hQ⟩, fun c6 => absurd c6 (by decide)⟩) (fun c4 h5 => fh_bd h5 fun q7 e8 h9 => ⟨Nat.le_of_ble_eq_true rfl, trivial, ⟨trivial, some (.int q7.1), q7.2, gp_X11_isDay (n := n) (r := r)  e8, fun _ => fh_if h9 (fun c10 h11 => ⟨fun c12 => ⟨rfl, fh_rt h11 hQ⟩, fun c12 => absurd c12 (by decide)⟩) (fun c10 h11 => fh_bd h11 fun q13 e14 h15 => ⟨Nat.le_of_ble_eq_true rfl, trivial, ⟨trivial, some (.int q13.1), q13.2, gp_X11_isUnder (n := n) (r := r)  e14, fun _ => fh_if h15 (fun c16 h17 => ⟨fun c18 => ⟨rfl, fh_rt h17 hQ⟩, fun c18 => absurd c18 (by decide)⟩) (fun c16 h17 => fh_if h17 (fun c19 h20 => ⟨fun c21 => ⟨rfl, fh_rt h20 hQ⟩, fun c21 => absurd c21 (by decide)⟩) (fun c19 h20 => fh_if h20 (fun c22 h23 => ⟨fun c24 => ⟨rfl, fh_rt h23 hQ⟩, fun c24 => absurd c24 (by decide)⟩) (fun c22 h23 => ⟨fun c25 => absurd c25 (by decide), fun c25 => ⟨fn_aF hf rfl rfl, Or.inl ⟨_, hf.2 0 9 94 rfl, fh_bd h23 fun q26 e27 h28 => ⟨Nat.le_of_ble_eq_true rfl, fn_aF hf rfl rfl, ⟨hf, some (.int q26.1), q26.2, gp_X0_add (n := n) (r := r)  e27, fun _ => ⟨rfl, fh_rt h28 hQ⟩⟩⟩⟩⟩⟩)))⟩⟩)⟩⟩)⟩⟩)
noncomputable def G_X11_air (n : Nat) (r : Nat → Nat → Option Nat) (as : List Value) (m : fm_) : Option (Option Value × fm_) := match as with
  | [.ref x0, .int p1, .int p2, .int p3, .int p4] => gd_ (Nat.beq x0 0) ((f_X11_air p1 p2 p3 p4 m).map en_i)
  | _ => none
set_option maxRecDepth 100000 in
theorem gp_X11_air {n : Nat} {r : Nat → Nat → Option Nat}  {p1 : Int32} {p2 : Int32} {p3 : Int32} {p4 : Int32} {m : fm_} {q : Int32 × fm_}  (e : f_X11_air p1 p2 p3 p4 m = some q) : G_X11_air n r [.ref 0, .int p1, .int p2, .int p3, .int p4] m = some (en_i q) := by
  show (gd_ (Nat.beq 0 0) ((f_X11_air p1 p2 p3 p4 m).map en_i)) = _
  exact fn_gd rfl (fn_mp e)
set_option maxRecDepth 100000 in
theorem ok_X11_air : am_mok 11 168 m_X11_air = true := by decide +kernel
set_option maxRecDepth 100000 in
theorem c_X11_air (l : Launch) {g : am_G} (hg : fx_ l g) : am_Met l g 2 168 (fn_s fn_F G_X11_air) := by
  refine am_sound (own := 11) (M := m_X11_air) (SP := sp_X11_air) hg.1 (by decide +kernel) ok_X11_air (by decide +kernel) ?_ (fun q hq hk => absurd hk (am_no61 (M := m_X11_air) (by decide +kernel) q hq)) (fn_ext l _ rfl g 11) (Or.inl (by decide +kernel)) ?_ ?_
  · intro q hq hk
    have hm : q.2.2.2.1 ∈ am_cs m_X11_air := am_cs_in hq hk
    rw [show am_cs m_X11_air = [182, 181, 182, 1] by decide +kernel] at hm
    have hm : q.2.2.2.1 ∈ [1, 181, 182] := (List.all_eq_true.mp (show ([182, 181, 182, 1] : List Nat).all (fun a => decide (a ∈ ([1, 181, 182] : List Nat))) = true by decide +kernel) _ hm |> of_decide_eq_true)
    simp only [List.mem_cons, List.not_mem_nil, or_false] at hm
    rcases hm with hm | hm | hm
    · rw [hm]; exact ⟨1, by omega, c_X0_add l hg⟩
    · rw [hm]; exact ⟨0, by omega, c_X11_isDay l hg⟩
    · rw [hm]; exact ⟨0, by omega, c_X11_isUnder l hg⟩
  · intro as w K h
    obtain ⟨hf, y, m1, hG, hK⟩ := h
    unfold G_X11_air at hG
    split at hG
    · exact Nat.le_of_ble_eq_true rfl
    · cases hG
  · intro as w K h
    obtain ⟨n, i0, l0, r⟩ := w
    obtain ⟨hf, y, m1, hG, hK⟩ := h
    unfold G_X11_air at hG
    split at hG
    · next x0 p1 p2 p3 p4 =>
      obtain ⟨hx1, hG1⟩ := gd_u hG
      obtain rfl := Nat.eq_of_beq_eq_true hx1
      obtain ⟨q, hq, he⟩ := fn_mu hG1
      obtain ⟨rfl, rfl⟩ := Prod.mk.inj he
      exact t_X11_air  hf  p1 p2 p3 p4 (m := (i0, l0)) hq hK
    · cases hG

/-! == X11_effect == -/
noncomputable def f_X11_effect (p1 : Int32) (m : fm_) : Option (Int32 × fm_) :=
  (Option.bind (f_X11_isDay p1 m) fun q1 =>
(if q1.1 = 0 then
((some ((-1000000), q1.2)))
else
(Option.bind (f_X0_gainFrom p1 q1.2) fun q6 =>
((some (q6.1, q6.2))))))
def sp_X11_effect : am_S := fn_sp [(181, fn_0, G_X11_isDay), (2, fn_F, G_X0_gainFrom)]
theorem sm_X11_effect : am_Smono (sp_X11_effect) := fn_sp_mono _
set_option maxRecDepth 100000 in
theorem t_X11_effect {n : Nat} {r : Nat → Nat → Option Nat} (hf : fn_F n r) {q : Int32 × fm_} (p1 : Int32) {m : fm_}
  (h : f_X11_effect p1 m = some q) {Q : Option Value → am_W → Prop} (hQ : Q (en_i q).1 (mk_ n r q.2)) : am_T m_X11_effect sp_X11_effect n Q 0 [some (.ref 0), some (.int p1)] [] (mk_ n r m) :=
  am_T.wp sm_X11_effect (K := am_T m_X11_effect sp_X11_effect n Q) (cuts := []) (fun _ _ _ _ h => h) 10
    (fh_bd h fun q1 e2 h3 => ⟨Nat.le_of_ble_eq_true rfl, trivial, ⟨trivial, some (.int q1.1), q1.2, gp_X11_isDay (n := n) (r := r)  e2, fun _ => fh_if h3 (fun c4 h5 => ⟨rfl, fh_rt h5 hQ⟩) (fun c4 h5 => ⟨fn_aF hf rfl rfl, Or.inl ⟨_, hf.2 0 9 94 rfl, fh_bd h5 fun q6 e7 h8 => ⟨Nat.le_of_ble_eq_true rfl, fn_aF hf rfl rfl, ⟨hf, some (.int q6.1), q6.2, gp_X0_gainFrom (n := n) (r := r)  e7, fun _ => ⟨rfl, fh_rt h8 hQ⟩⟩⟩⟩⟩)⟩⟩)
noncomputable def G_X11_effect (n : Nat) (r : Nat → Nat → Option Nat) (as : List Value) (m : fm_) : Option (Option Value × fm_) := match as with
  | [.ref x0, .int p1] => gd_ (Nat.beq x0 0) ((f_X11_effect p1 m).map en_i)
  | _ => none
set_option maxRecDepth 100000 in
theorem gp_X11_effect {n : Nat} {r : Nat → Nat → Option Nat}  {p1 : Int32} {m : fm_} {q : Int32 × fm_}  (e : f_X11_effect p1 m = some q) : G_X11_effect n r [.ref 0, .int p1] m = some (en_i q) := by
  show (gd_ (Nat.beq 0 0) ((f_X11_effect p1 m).map en_i)) = _
  exact fn_gd rfl (fn_mp e)
set_option maxRecDepth 100000 in
theorem ok_X11_effect : am_mok 11 169 m_X11_effect = true := by decide +kernel
set_option maxRecDepth 100000 in
theorem c_X11_effect (l : Launch) {g : am_G} (hg : fx_ l g) : am_Met l g 4 169 (fn_s fn_F G_X11_effect) := by
  refine am_sound (own := 11) (M := m_X11_effect) (SP := sp_X11_effect) hg.1 (by decide +kernel) ok_X11_effect (by decide +kernel) ?_ (fun q hq hk => absurd hk (am_no61 (M := m_X11_effect) (by decide +kernel) q hq)) (fn_ext l _ rfl g 11) (Or.inl (by decide +kernel)) ?_ ?_
  · intro q hq hk
    have hm : q.2.2.2.1 ∈ am_cs m_X11_effect := am_cs_in hq hk
    rw [show am_cs m_X11_effect = [181, 2] by decide +kernel] at hm
    have hm : q.2.2.2.1 ∈ [2, 181] := (List.all_eq_true.mp (show ([181, 2] : List Nat).all (fun a => decide (a ∈ ([2, 181] : List Nat))) = true by decide +kernel) _ hm |> of_decide_eq_true)
    simp only [List.mem_cons, List.not_mem_nil, or_false] at hm
    rcases hm with hm | hm
    · rw [hm]; exact ⟨3, by omega, c_X0_gainFrom l hg⟩
    · rw [hm]; exact ⟨0, by omega, c_X11_isDay l hg⟩
  · intro as w K h
    obtain ⟨hf, y, m1, hG, hK⟩ := h
    unfold G_X11_effect at hG
    split at hG
    · exact Nat.le_of_ble_eq_true rfl
    · cases hG
  · intro as w K h
    obtain ⟨n, i0, l0, r⟩ := w
    obtain ⟨hf, y, m1, hG, hK⟩ := h
    unfold G_X11_effect at hG
    split at hG
    · next x0 p1 =>
      obtain ⟨hx1, hG1⟩ := gd_u hG
      obtain rfl := Nat.eq_of_beq_eq_true hx1
      obtain ⟨q, hq, he⟩ := fn_mu hG1
      obtain ⟨rfl, rfl⟩ := Prod.mk.inj he
      exact t_X11_effect  hf  p1 (m := (i0, l0)) hq hK
    · cases hG

