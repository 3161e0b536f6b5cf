/-! == X11_between == -/
noncomputable def f_X11_between (p1 : Int32) (p2 : Int32) (m : fm_) : Option (Int32 × fm_) :=
  (Option.bind (f_X9_near p1 p2 m) fun q1 =>
(if q1.1 < 1000000 then
((some (q1.1, q1.2)))
else
((some ((-1), q1.2)))))
def sp_X11_between : am_S := fn_sp [(118, fn_T, G_X9_near)]
theorem sm_X11_between : am_Smono (sp_X11_between) := fn_sp_mono _
set_option maxRecDepth 100000 in
theorem t_X11_between {n : Nat} {r : Nat → Nat → Option Nat} (hf : fn_F n r) {q : Int32 × fm_} (p1 : Int32) (p2 : Int32) {m : fm_}
  (h : f_X11_between p1 p2 m = some q) {Q : Option Value → am_W → Prop} (hQ : Q (en_i q).1 (mk_ n r q.2)) : am_T m_X11_between sp_X11_between n Q 0 [some (.ref 0), some (.int p1), some (.int p2), none] [] (mk_ n r m) :=
  am_T.wp sm_X11_between (K := am_T m_X11_between sp_X11_between n Q) (cuts := []) (fun _ _ _ _ h => h) 13
    (⟨fn_aF hf rfl rfl, Or.inl ⟨_, hf.2 0 1 6 rfl, fh_bd h fun q1 e2 h3 => ⟨Nat.le_of_ble_eq_true rfl, fn_aF hf rfl rfl, ⟨fn_FT hf, some (.int q1.1), q1.2, gp_X9_near (n := n) (r := r)  e2, fun _ => fh_if h3 (fun c4 h5 => ⟨rfl, fh_rt h5 hQ⟩) (fun c4 h5 => ⟨rfl, fh_rt h5 hQ⟩)⟩⟩⟩⟩)
noncomputable def G_X11_between (n : Nat) (r : Nat → Nat → Option Nat) (as : List Value) (m : fm_) : Option (Option Value × fm_) := match as with
  | [.ref x0, .int p1, .int p2] => gd_ (Nat.beq x0 0) ((f_X11_between p1 p2 m).map en_i)
  | _ => none
set_option maxRecDepth 100000 in
theorem gp_X11_between {n : Nat} {r : Nat → Nat → Option Nat}  {p1 : Int32} {p2 : Int32} {m : fm_} {q : Int32 × fm_}  (e : f_X11_between p1 p2 m = some q) : G_X11_between n r [.ref 0, .int p1, .int p2] m = some (en_i q) := by
  show (gd_ (Nat.beq 0 0) ((f_X11_between p1 p2 m).map en_i)) = _
  exact fn_gd rfl (fn_mp e)
set_option maxRecDepth 100000 in
theorem ok_X11_between : am_mok 11 151 m_X11_between = true := by decide +kernel
set_option maxRecDepth 100000 in
theorem c_X11_between (l : Launch) {g : am_G} (hg : fx_ l g) : am_Met l g 2 151 (fn_s fn_F G_X11_between) := by
  refine am_sound (own := 11) (M := m_X11_between) (SP := sp_X11_between) hg.1 (by decide +kernel) ok_X11_between (by decide +kernel) ?_ (fun q hq hk => absurd hk (am_no61 (M := m_X11_between) (by decide +kernel) q hq)) (fn_ext l _ rfl g 11) (Or.inl (by decide +kernel)) ?_ ?_
  · intro q hq hk
    have hm : q.2.2.2.1 ∈ am_cs m_X11_between := am_cs_in hq hk
    rw [show am_cs m_X11_between = [118] by decide +kernel] at hm
    have hm : q.2.2.2.1 ∈ [118] := (List.all_eq_true.mp (show ([118] : List Nat).all (fun a => decide (a ∈ ([118] : List Nat))) = true by decide +kernel) _ hm |> of_decide_eq_true)
    simp only [List.mem_cons, List.not_mem_nil, or_false] at hm
    rcases hm with hm
    · rw [hm]; exact ⟨1, by omega, c_X9_near l hg⟩
  · intro as w K h
    obtain ⟨hf, y, m1, hG, hK⟩ := h
    unfold G_X11_between at hG
    split at hG
    · exact Nat.le_of_ble_eq_true rfl
    · cases hG
  · intro as w K h
    obtain ⟨n, i0, l0, r⟩ := w
    obtain ⟨hf, y, m1, hG, hK⟩ := h
    unfold G_X11_between at hG
    split at hG
    · next x0 p1 p2 =>
      obtain ⟨hx1, hG1⟩ := gd_u hG
      obtain rfl := Nat.eq_of_beq_eq_true hx1
      obtain ⟨q, hq, he⟩ := fn_mu hG1
      obtain ⟨rfl, rfl⟩ := Prod.mk.inj he
      exact t_X11_between  hf  p1 p2 (m := (i0, l0)) hq hK
    · cases hG

/-! == X11_plate == -/
noncomputable def f_X11_plate (p1 : Int64) (p2 : Int32) (m : fm_) : Option (Int32 × fm_) :=
  (Option.bind (f_X7_add (p1 &&& 281474976710655) p2 m) fun q1 =>
(if q1.1 = (-1) then
((some (q1.1, q1.2)))
else
(Option.bind (f_X6_forget q1.2) fun q6 =>
((some (q1.1, q6.2))))))
def sp_X11_plate : am_S := fn_sp [(84, fn_F, G_X7_add), (62, fn_U, G_X6_forget)]
theorem sm_X11_plate : am_Smono (sp_X11_plate) := fn_sp_mono _
set_option maxRecDepth 100000 in
theorem t_X11_plate {n : Nat} {r : Nat → Nat → Option Nat} (hf : fn_F n r) {q : Int32 × fm_} (p1 : Int64) (p2 : Int32) {m : fm_}
  (h : f_X11_plate p1 p2 m = some q) {Q : Option Value → am_W → Prop} (hQ : Q (en_i q).1 (mk_ n r q.2)) : am_T m_X11_plate sp_X11_plate n Q 0 [some (.ref 0), some (.long p1), none, some (.int p2), none] [] (mk_ n r m) :=
  am_T.wp sm_X11_plate (K := am_T m_X11_plate sp_X11_plate n Q) (cuts := []) (fun _ _ _ _ h => h) 17
    (⟨fn_aF hf rfl rfl, Or.inl ⟨_, hf.2 0 5 69 rfl, fh_bd h fun q1 e2 h3 => ⟨Nat.le_of_ble_eq_true rfl, fn_aF hf rfl rfl, ⟨hf, some (.int q1.1), q1.2, gp_X7_add (n := n) (r := r)  e2, fun _ => fh_if h3 (fun c4 h5 => ⟨rfl, fh_rt h5 hQ⟩) (fun c4 h5 => ⟨fn_aF hf rfl rfl, Or.inl ⟨_, hf.2 0 7 82 rfl, fh_bd h5 fun q6 e7 h8 => ⟨Nat.le_of_ble_eq_true rfl, fn_aF hf rfl rfl, ⟨fn_FU hf, none, q6.2, gp_X6_forget (n := n) (r := r)  e7, fun _ => ⟨rfl, ⟨rfl, fh_rt h8 hQ⟩⟩⟩⟩⟩⟩)⟩⟩⟩⟩)
noncomputable def G_X11_plate (n : Nat) (r : Nat → Nat → Option Nat) (as : List Value) (m : fm_) : Option (Option Value × fm_) := match as with
  | [.ref x0, .long p1, .int p2] => gd_ (Nat.beq x0 0) ((f_X11_plate p1 p2 m).map en_i)
  | _ => none
set_option maxRecDepth 100000 in
theorem gp_X11_plate {n : Nat} {r : Nat → Nat → Option Nat}  {p1 : Int64} {p2 : Int32} {m : fm_} {q : Int32 × fm_}  (e : f_X11_plate p1 p2 m = some q) : G_X11_plate n r [.ref 0, .long p1, .int p2] m = some (en_i q) := by
  show (gd_ (Nat.beq 0 0) ((f_X11_plate p1 p2 m).map en_i)) = _
  exact fn_gd rfl (fn_mp e)
set_option maxRecDepth 100000 in
theorem ok_X11_plate : am_mok 11 152 m_X11_plate = true := by decide +kernel
set_option maxRecDepth 100000 in
theorem c_X11_plate (l : Launch) {g : am_G} (hg : fx_ l g) : am_Met l g 3 152 (fn_s fn_F G_X11_plate) := by
  refine am_sound (own := 11) (M := m_X11_plate) (SP := sp_X11_plate) hg.1 (by decide +kernel) ok_X11_plate (by decide +kernel) ?_ (fun q hq hk => absurd hk (am_no61 (M := m_X11_plate) (by decide +kernel) q hq)) (fn_ext l _ rfl g 11) (Or.inl (by decide +kernel)) ?_ ?_
  · intro q hq hk
    have hm : q.2.2.2.1 ∈ am_cs m_X11_plate := am_cs_in hq hk
    rw [show am_cs m_X11_plate = [84, 62] by decide +kernel] at hm
    have hm : q.2.2.2.1 ∈ [62, 84] := (List.all_eq_true.mp (show ([84, 62] : List Nat).all (fun a => decide (a ∈ ([62, 84] : List Nat))) = true by decide +kernel) _ hm |> of_decide_eq_true)
    simp only [List.mem_cons, List.not_mem_nil, or_false] at hm
    rcases hm with hm | hm
    · rw [hm]; exact ⟨0, by omega, c_X6_forget l hg⟩
    · rw [hm]; exact ⟨2, by omega, c_X7_add l hg⟩
  · intro as w K h
    obtain ⟨hf, y, m1, hG, hK⟩ := h
    unfold G_X11_plate at hG
    split at hG
    · exact Nat.le_of_ble_eq_true rfl
    · cases hG
  · intro as w K h
    obtain ⟨n, i0, l0, r⟩ := w
    obtain ⟨hf, y, m1, hG, hK⟩ := h
    unfold G_X11_plate at hG
    split at hG
    · next x0 p1 p2 =>
      obtain ⟨hx1, hG1⟩ := gd_u hG
      obtain rfl := Nat.eq_of_beq_eq_true hx1
      obtain ⟨q, hq, he⟩ := fn_mu hG1
      obtain ⟨rfl, rfl⟩ := Prod.mk.inj he
      exact t_X11_plate  hf  p1 p2 (m := (i0, l0)) hq hK
    · cases hG

/-! == X11_papers == -/
noncomputable def f_X11_papers (p1 : Int32) (p2 : Int32) (p3 : Int32) (p4 : Int32) (p5 : Int32) (p6 : Int32) (m : fm_) : Option (Int32 × fm_) :=
  (Option.bind (f_X11_isUnder p1 (gi_ m 69 2) m) fun q1 =>
(if q1.1 = 0 then
((some ((-1), q1.2)))
else
(Option.bind (f_X11_isDay p2 q1.2) fun q7 =>
(if q7.1 = 0 then
((some ((-1), q7.2)))
else
(Option.bind (f_X11_isUnder p3 10 q7.2) fun q13 =>
(if q13.1 = 0 then
((some ((-1), q13.2)))
else
(Option.bind (f_X11_isUnder p4 10 q13.2) fun q19 =>
(if q19.1 = 0 then
((some ((-1), q19.2)))
else
(Option.bind (f_X11_isUnder p5 10 q19.2) fun q25 =>
(if q25.1 = 0 then
((some ((-1), q25.2)))
else
(Option.bind (f_X11_isUnder p6 2 q25.2) fun q31 =>
(if q31.1 = 0 then
((some ((-1), q31.2)))
else
(if (gi_ q31.2 72 7) < 200 then
(Option.bind (f_X1_addPapers p1 p2 ((((p3 * 1000) + (p4 * 100)) + (p5 * 10)) + p6) q31.2) fun q40 =>
((some (q40.1, q40.2))))
else
((some ((-1), q31.2))))))))))))))))
def sp_X11_papers : am_S := fn_sp [(182, fn_0, G_X11_isUnder), (181, fn_0, G_X11_isDay), (10, fn_F, G_X1_addPapers)]
theorem sm_X11_papers : am_Smono (sp_X11_papers) := fn_sp_mono _
set_option maxRecDepth 100000 in
theorem t_X11_papers {n : Nat} {r : Nat → Nat → Option Nat} (hf : fn_F n r) {q : Int32 × fm_} (p1 : Int32) (p2 : Int32) (p3 : Int32) (p4 : Int32) (p5 : Int32) (p6 : Int32) {m : fm_}
  (h : f_X11_papers p1 p2 p3 p4 p5 p6 m = some q) {Q : Option Value → am_W → Prop} (hQ : Q (en_i q).1 (mk_ n r q.2)) : am_T m_X11_papers sp_X11_papers n Q 0 [some (.ref 0), some (.int p1), some (.int p2), some (.int p3), some (.int p4), some (.int p5), some (.int p6), none] [] (mk_ n r m) :=
  am_T.wp sm_X11_papers (K := am_T m_X11_papers sp_X11_papers n Q) (cuts := []) (fun _ _ _ _ h => h) 55
    (⟨fn_aF hf rfl rfl, Or.inl ⟨_, hf.2 0 5 69 rfl, ⟨fn_aF hf rfl rfl, fh_bd h fun q1 e2 h3 => ⟨Nat.le_of_ble_eq_true rfl, trivial, ⟨trivial, some (.int q1.1), q1.2, gp_X11_isUnder (n := n) (r := r)  e2, fun _ => fh_if h3 (fun c4 h5 => ⟨fun c6 => ⟨rfl, fh_rt h5 hQ⟩, fun c6 => absurd c6 (by decide)⟩) (fun c4 h5 => fh_bd h5 fun q7 e8 h9 => ⟨Nat.le_of_ble_eq_true rfl, trivial, ⟨trivial, some (.int q7.1), q7.2, gp_X11_isDay (n := n) (r := r)  e8, fun _ => fh_if h9 (fun c10 h11 => ⟨fun c12 => ⟨rfl, fh_rt h11 hQ⟩, fun c12 => absurd c12 (by decide)⟩) (fun c10 h11 => fh_bd h11 fun q13 e14 h15 => ⟨Nat.le_of_ble_eq_true rfl, trivial, ⟨trivial, some (.int q13.1), q13.2, gp_X11_isUnder (n := n) (r := r)  e14, fun _ => fh_if h15 (fun c16 h17 => ⟨fun c18 => ⟨rfl, fh_rt h17 hQ⟩, fun c18 => absurd c18 (by decide)⟩) (fun c16 h17 => fh_bd h17 fun q19 e20 h21 => ⟨Nat.le_of_ble_eq_true rfl, trivial, ⟨trivial, some (.int q19.1), q19.2, gp_X11_isUnder (n := n) (r := r)  e20, fun _ => fh_if h21 (fun c22 h23 => ⟨fun c24 => ⟨rfl, fh_rt h23 hQ⟩, fun c24 => absurd c24 (by decide)⟩) (fun c22 h23 => fh_bd h23 fun q25 e26 h27 => ⟨Nat.le_of_ble_eq_true rfl, trivial, ⟨trivial, some (.int q25.1), q25.2, gp_X11_isUnder (n := n) (r := r)  e26, fun _ => fh_if h27 (fun c28 h29 => ⟨fun c30 => ⟨rfl, fh_rt h29 hQ⟩, fun c30 => absurd c30 (by decide)⟩) (fun c28 h29 => fh_bd h29 fun q31 e32 h33 => ⟨Nat.le_of_ble_eq_true rfl, trivial, ⟨trivial, some (.int q31.1), q31.2, gp_X11_isUnder (n := n) (r := r)  e32, fun _ => fh_if h33 (fun c34 h35 => ⟨fun c36 => ⟨rfl, fh_rt h35 hQ⟩, fun c36 => absurd c36 (by decide)⟩) (fun c34 h35 => ⟨fun c37 => absurd c37 (by decide), fun c37 => ⟨fn_aF hf rfl rfl, Or.inl ⟨_, hf.2 0 6 72 rfl, ⟨fn_aF hf rfl rfl, fh_if h35 (fun c38 h39 => ⟨fn_aF hf rfl rfl, Or.inl ⟨_, hf.2 0 6 72 rfl, fh_bd h39 fun q40 e41 h42 => ⟨Nat.le_of_ble_eq_true rfl, fn_aF hf rfl rfl, ⟨hf, some (.int q40.1), q40.2, gp_X1_addPapers (n := n) (r := r)  e41, fun _ => ⟨rfl, fh_rt h42 hQ⟩⟩⟩⟩⟩) (fun c38 h39 => ⟨rfl, fh_rt h39 hQ⟩)⟩⟩⟩⟩)⟩⟩)⟩⟩)⟩⟩)⟩⟩)⟩⟩)⟩⟩⟩⟩⟩)
noncomputable def G_X11_papers (n : Nat) (r : Nat → Nat → Option Nat) (as : List Value) (m : fm_) : Option (Option Value × fm_) := match as with
  | [.ref x0, .int p1, .int p2, .int p3, .int p4, .int p5, .int p6] => gd_ (Nat.beq x0 0) ((f_X11_papers p1 p2 p3 p4 p5 p6 m).map en_i)
  | _ => none
set_option maxRecDepth 100000 in
theorem gp_X11_papers {n : Nat} {r : Nat → Nat → Option Nat}  {p1 : Int32} {p2 : Int32} {p3 : Int32} {p4 : Int32} {p5 : Int32} {p6 : Int32} {m : fm_} {q : Int32 × fm_}  (e : f_X11_papers p1 p2 p3 p4 p5 p6 m = some q) : G_X11_papers n r [.ref 0, .int p1, .int p2, .int p3, .int p4, .int p5, .int p6] m = some (en_i q) := by
  show (gd_ (Nat.beq 0 0) ((f_X11_papers p1 p2 p3 p4 p5 p6 m).map en_i)) = _
  exact fn_gd rfl (fn_mp e)
set_option maxRecDepth 100000 in
theorem ok_X11_papers : am_mok 11 153 m_X11_papers = true := by decide +kernel
set_option maxRecDepth 100000 in
theorem c_X11_papers (l : Launch) {g : am_G} (hg : fx_ l g) : am_Met l g 2 153 (fn_s fn_F G_X11_papers) := by
  refine am_sound (own := 11) (M := m_X11_papers) (SP := sp_X11_papers) hg.1 (by decide +kernel) ok_X11_papers (by decide +kernel) ?_ (fun q hq hk => absurd hk (am_no61 (M := m_X11_papers) (by decide +kernel) q hq)) (fn_ext l _ rfl g 11) (Or.inl (by decide +kernel)) ?_ ?_
  · intro q hq hk
    have hm : q.2.2.2.1 ∈ am_cs m_X11_papers := am_cs_in hq hk
    rw [show am_cs m_X11_papers = [182, 181, 182, 182, 182, 182, 10] by decide +kernel] at hm
    have hm : q.2.2.2.1 ∈ [10, 181, 182] := (List.all_eq_true.mp (show ([182, 181, 182, 182, 182, 182, 10] : List Nat).all (fun a => decide (a ∈ ([10, 181, 182] : List Nat))) = true by decide +kernel) _ hm |> of_decide_eq_true)
    simp only [List.mem_cons, List.not_mem_nil, or_false] at hm
    rcases hm with hm | hm | hm
    · rw [hm]; exact ⟨1, by omega, c_X1_addPapers l hg⟩
    · rw [hm]; exact ⟨0, by omega, c_X11_isDay l hg⟩
    · rw [hm]; exact ⟨0, by omega, c_X11_isUnder l hg⟩
  · intro as w K h
    obtain ⟨hf, y, m1, hG, hK⟩ := h
    unfold G_X11_papers at hG
    split at hG
    · exact Nat.le_of_ble_eq_true rfl
    · cases hG
  · intro as w K h
    obtain ⟨n, i0, l0, r⟩ := w
    obtain ⟨hf, y, m1, hG, hK⟩ := h
    unfold G_X11_papers at hG
    split at hG
    · next x0 p1 p2 p3 p4 p5 p6 =>
      obtain ⟨hx1, hG1⟩ := gd_u hG
      obtain rfl := Nat.eq_of_beq_eq_true hx1
      obtain ⟨q, hq, he⟩ := fn_mu hG1
      obtain ⟨rfl, rfl⟩ := Prod.mk.inj he
      exact t_X11_papers  hf  p1 p2 p3 p4 p5 p6 (m := (i0, l0)) hq hK
    · cases hG

/-! == X11_read == -/
noncomputable def f_X11_read (p1 : Int32) (p2 : Int32) (p3 : Int32) (p4 : Int64) (m : fm_) : Option (Int32 × fm_) :=
  (Option.bind (f_X9_works p1 p3 m) fun q1 =>
(if q1.1 = 0 then
((some ((-1), q1.2)))
else
(Option.bind (f_X1_hasRoomOn p2 q1.2) fun q7 =>
(if q7.1 = 0 then
((some ((-1), q7.2)))
else
(Option.bind (f_X7_areSigns (p4 &&& 281474976710655) 1 q7.2) fun q13 =>
(if q13.1 = 0 then
((some ((-1), q13.2)))
else
(if (gi_ q13.2 72 7) < 200 then
(Option.bind (f_X6_forget q13.2) fun q22 =>
(Option.bind (f_X1_addReading p1 p2 p3 (p4 &&& 281474976710655) q22.2) fun q25 =>
((some (q25.1, q25.2)))))
else
((some ((-1), q13.2))))))))))
def sp_X11_read : am_S := fn_sp [(126, fn_F, G_X9_works), (13, fn_F, G_X1_hasRoomOn), (85, fn_0, G_X7_areSigns), (62, fn_U, G_X6_forget), (12, fn_F, G_X1_addReading)]
theorem sm_X11_read : am_Smono (sp_X11_read) := fn_sp_mono _
set_option maxRecDepth 100000 in
theorem t_X11_read {n : Nat} {r : Nat → Nat → Option Nat} (hf : fn_F n r) {q : Int32 × fm_} (p1 : Int32) (p2 : Int32) (p3 : Int32) (p4 : Int64) {m : fm_}
  (h : f_X11_read p1 p2 p3 p4 m = some q) {Q : Option Value → am_W → Prop} (hQ : Q (en_i q).1 (mk_ n r q.2)) : am_T m_X11_read sp_X11_read n Q 0 [some (.ref 0), some (.int p1), some (.int p2), some (.int p3), some (.long p4), none, none] [] (mk_ n r m) :=
  am_T.wp sm_X11_read (K := am_T m_X11_read sp_X11_read n Q) (cuts := []) (fun _ _ _ _ h => h) 41
    (⟨fn_aF hf rfl rfl, Or.inl ⟨_, hf.2 0 1 6 rfl, fh_bd h fun q1 e2 h3 => ⟨Nat.le_of_ble_eq_true rfl, fn_aF hf rfl rfl, ⟨hf, some (.int q1.1), q1.2, gp_X9_works (n := n) (r := r)  e2, fun _ => fh_if h3 (fun c4 h5 => ⟨fun c6 => ⟨rfl, fh_rt h5 hQ⟩, fun c6 => absurd c6 (by decide)⟩) (fun c4 h5 => ⟨fn_aF hf rfl rfl, Or.inl ⟨_, hf.2 0 6 72 rfl, fh_bd h5 fun q7 e8 h9 => ⟨Nat.le_of_ble_eq_true rfl, fn_aF hf rfl rfl, ⟨hf, some (.int q7.1), q7.2, gp_X1_hasRoomOn (n := n) (r := r)  e8, fun _ => fh_if h9 (fun c10 h11 => ⟨fun c12 => ⟨rfl, fh_rt h11 hQ⟩, fun c12 => absurd c12 (by decide)⟩) (fun c10 h11 => fh_bd h11 fun q13 e14 h15 => ⟨Nat.le_of_ble_eq_true rfl, trivial, ⟨trivial, some (.int q13.1), q13.2, gp_X7_areSigns (n := n) (r := r)  e14, fun _ => fh_if h15 (fun c16 h17 => ⟨fun c18 => ⟨rfl, fh_rt h17 hQ⟩, fun c18 => absurd c18 (by decide)⟩) (fun c16 h17 => ⟨fun c19 => absurd c19 (by decide), fun c19 => ⟨fn_aF hf rfl rfl, Or.inl ⟨_, hf.2 0 6 72 rfl, ⟨fn_aF hf rfl rfl, fh_if h17 (fun c20 h21 => ⟨fn_aF hf rfl rfl, Or.inl ⟨_, hf.2 0 7 82 rfl, fh_bd h21 fun q22 e23 h24 => ⟨Nat.le_of_ble_eq_true rfl, fn_aF hf rfl rfl, ⟨fn_FU hf, none, q22.2, gp_X6_forget (n := n) (r := r)  e23, fun _ => ⟨rfl, ⟨fn_aF hf rfl rfl, Or.inl ⟨_, hf.2 0 6 72 rfl, fh_bd h24 fun q25 e26 h27 => ⟨Nat.le_of_ble_eq_true rfl, fn_aF hf rfl rfl, ⟨hf, some (.int q25.1), q25.2, gp_X1_addReading (n := n) (r := r)  e26, fun _ => ⟨rfl, fh_rt h27 hQ⟩⟩⟩⟩⟩⟩⟩⟩⟩⟩) (fun c20 h21 => ⟨rfl, fh_rt h21 hQ⟩)⟩⟩⟩⟩)⟩⟩)⟩⟩⟩⟩)⟩⟩⟩⟩)
noncomputable def G_X11_read (n : Nat) (r : Nat → Nat → Option Nat) (as : List Value) (m : fm_) : Option (Option Value × fm_) := match as with
  | [.ref x0, .int p1, .int p2, .int p3, .long p4] => gd_ (Nat.beq x0 0) ((f_X11_read p1 p2 p3 p4 m).map en_i)
  | _ => none
set_option maxRecDepth 100000 in
theorem gp_X11_read {n : Nat} {r : Nat → Nat → Option Nat}  {p1 : Int32} {p2 : Int32} {p3 : Int32} {p4 : Int64} {m : fm_} {q : Int32 × fm_}  (e : f_X11_read p1 p2 p3 p4 m = some q) : G_X11_read n r [.ref 0, .int p1, .int p2, .int p3, .long p4] m = some (en_i q) := by
  show (gd_ (Nat.beq 0 0) ((f_X11_read p1 p2 p3 p4 m).map en_i)) = _
  exact fn_gd rfl (fn_mp e)
set_option maxRecDepth 100000 in
theorem ok_X11_read : am_mok 11 154 m_X11_read = true := by decide +kernel
set_option maxRecDepth 100000 in
theorem c_X11_read (l : Launch) {g : am_G} (hg : fx_ l g) : am_Met l g 3 154 (fn_s fn_F G_X11_read) := by
  refine am_sound (own := 11) (M := m_X11_read) (SP := sp_X11_read) hg.1 (by decide +kernel) ok_X11_read (by decide +kernel) ?_ (fun q hq hk => absurd hk (am_no61 (M := m_X11_read) (by decide +kernel) q hq)) (fn_ext l _ rfl g 11) (Or.inl (by decide +kernel)) ?_ ?_
  · intro q hq hk
    have hm : q.2.2.2.1 ∈ am_cs m_X11_read := am_cs_in hq hk
    rw [show am_cs m_X11_read = [126, 13, 85, 62, 12] by decide +kernel] at hm
    have hm : q.2.2.2.1 ∈ [12, 13, 62, 85, 126] := (List.all_eq_true.mp (show ([126, 13, 85, 62, 12] : List Nat).all (fun a => decide (a ∈ ([12, 13, 62, 85, 126] : List Nat))) = true by decide +kernel) _ hm |> of_decide_eq_true)
    simp only [List.mem_cons, List.not_mem_nil, or_false] at hm
    rcases hm with hm | hm | hm | hm | hm
    · rw [hm]; exact ⟨2, by omega, c_X1_addReading l hg⟩
    · rw [hm]; exact ⟨1, by omega, c_X1_hasRoomOn l hg⟩
    · rw [hm]; exact ⟨0, by omega, c_X6_forget l hg⟩
    · rw [hm]; exact ⟨1, by omega, c_X7_areSigns l hg⟩
    · rw [hm]; exact ⟨1, by omega, c_X9_works l hg⟩
  · intro as w K h
    obtain ⟨hf, y, m1, hG, hK⟩ := h
    unfold G_X11_read at hG
    split at hG
    · exact Nat.le_of_ble_eq_true rfl
    · cases hG
  · intro as w K h
    obtain ⟨n, i0, l0, r⟩ := w
    obtain ⟨hf, y, m1, hG, hK⟩ := h
    unfold G_X11_read at hG
    split at hG
    · next x0 p1 p2 p3 p4 =>
      obtain ⟨hx1, hG1⟩ := gd_u hG
      obtain rfl := Nat.eq_of_beq_eq_true hx1
      obtain ⟨q, hq, he⟩ := fn_mu hG1
      obtain ⟨rfl, rfl⟩ := Prod.mk.inj he
      exact t_X11_read  hf  p1 p2 p3 p4 (m := (i0, l0)) hq hK
    · cases hG

/-! == X11_isPlateAndDay == -/
noncomputable def f_X11_isPlateAndDay (p1 : Int32) (p2 : Int32) (m : fm_) : Option (Int32 × fm_) :=
  (Option.bind (f_X11_isUnder p1 (gi_ m 69 2) m) fun q1 =>
(if q1.1 = 0 then
((some (0, q1.2)))
else
(Option.bind (f_X11_isDay p2 q1.2) fun q6 =>
(if q6.1 = 0 then
((some (0, q6.2)))
else
((some (1, q6.2)))))))
def sp_X11_isPlateAndDay : am_S := fn_sp [(182, fn_0, G_X11_isUnder), (181, fn_0, G_X11_isDay)]
theorem sm_X11_isPlateAndDay : am_Smono (sp_X11_isPlateAndDay) := fn_sp_mono _
set_option maxRecDepth 100000 in
theorem t_X11_isPlateAndDay {n : Nat} {r : Nat → Nat → Option Nat} (hf : fn_F n r) {q : Int32 × fm_} (p1 : Int32) (p2 : Int32) {m : fm_}
  (h : f_X11_isPlateAndDay p1 p2 m = some q) {Q : Option Value → am_W → Prop} (hQ : Q (en_i q).1 (mk_ n r q.2)) : am_T m_X11_isPlateAndDay sp_X11_isPlateAndDay n Q 0 [some (.ref 0), some (.int p1), some (.int p2)] [] (mk_ n r m) :=
  am_T.wp sm_X11_isPlateAndDay (K := am_T m_X11_isPlateAndDay sp_X11_isPlateAndDay n Q) (cuts := []) (fun _ _ _ _ h => h) 13
    (⟨fn_aF hf rfl rfl, Or.inl ⟨_, hf.2 0 5 69 rfl, ⟨fn_aF hf rfl rfl, fh_bd h fun q1 e2 h3 => ⟨Nat.le_of_ble_eq_true rfl, trivial, ⟨trivial, some (.int q1.1), q1.2, gp_X11_isUnder (n := n) (r := r)  e2, fun _ => fh_if h3 (fun c4 h5 => ⟨rfl, Or.inl rfl, fh_rt h5 hQ⟩) (fun c4 h5 => fh_bd h5 fun q6 e7 h8 => ⟨Nat.le_of_ble_eq_true rfl, trivial, ⟨trivial, some (.int q6.1), q6.2, gp_X11_isDay (n := n) (r := r)  e7, fun _ => fh_if h8 (fun c9 h10 => ⟨rfl, Or.inl rfl, fh_rt h10 hQ⟩) (fun c9 h10 => ⟨rfl, Or.inr rfl, fh_rt h10 hQ⟩)⟩⟩)⟩⟩⟩⟩⟩)
noncomputable def G_X11_isPlateAndDay (n : Nat) (r : Nat → Nat → Option Nat) (as : List Value) (m : fm_) : Option (Option Value × fm_) := match as with
  | [.ref x0, .int p1, .int p2] => gd_ (Nat.beq x0 0) ((f_X11_isPlateAndDay p1 p2 m).map en_i)
  | _ => none
set_option maxRecDepth 100000 in
theorem gp_X11_isPlateAndDay {n : Nat} {r : Nat → Nat → Option Nat}  {p1 : Int32} {p2 : Int32} {m : fm_} {q : Int32 × fm_}  (e : f_X11_isPlateAndDay p1 p2 m = some q) : G_X11_isPlateAndDay n r [.ref 0, .int p1, .int p2] m = some (en_i q) := by
  show (gd_ (Nat.beq 0 0) ((f_X11_isPlateAndDay p1 p2 m).map en_i)) = _
  exact fn_gd rfl (fn_mp e)
set_option maxRecDepth 100000 in
theorem ok_X11_isPlateAndDay : am_mok 11 179 m_X11_isPlateAndDay = true := by decide +kernel
set_option maxRecDepth 100000 in
theorem c_X11_isPlateAndDay (l : Launch) {g : am_G} (hg : fx_ l g) : am_Met l g 1 179 (fn_s fn_F G_X11_isPlateAndDay) := by
  refine am_sound (own := 11) (M := m_X11_isPlateAndDay) (SP := sp_X11_isPlateAndDay) hg.1 (by decide +kernel) ok_X11_isPlateAndDay (by decide +kernel) ?_ (fun q hq hk => absurd hk (am_no61 (M := m_X11_isPlateAndDay) (by decide +kernel) q hq)) (fn_ext l _ rfl g 11) (Or.inl (by decide +kernel)) ?_ ?_
  · intro q hq hk
    have hm : q.2.2.2.1 ∈ am_cs m_X11_isPlateAndDay := am_cs_in hq hk
    rw [show am_cs m_X11_isPlateAndDay = [182, 181] by decide +kernel] at hm
    have hm : q.2.2.2.1 ∈ [181, 182] := (List.all_eq_true.mp (show ([182, 181] : List Nat).all (fun a => decide (a ∈ ([181, 182] : List Nat))) = true by decide +kernel) _ hm |> of_decide_eq_true)
    simp only [List.mem_cons, List.not_mem_nil, or_false] at hm
    rcases hm with hm | hm
    · rw [hm]; exact ⟨0, by omega, c_X11_isDay l hg⟩
    · rw [hm]; exact ⟨0, by omega, c_X11_isUnder l hg⟩
  · intro as w K h
    obtain ⟨hf, y, m1, hG, hK⟩ := h
    unfold G_X11_isPlateAndDay at hG
    split at hG
    · exact Nat.le_of_ble_eq_true rfl
    · cases hG
  · intro as w K h
    obtain ⟨n, i0, l0, r⟩ := w
    obtain ⟨hf, y, m1, hG, hK⟩ := h
    unfold G_X11_isPlateAndDay at hG
    split at hG
    · next x0 p1 p2 =>
      obtain ⟨hx1, hG1⟩ := gd_u hG
      obtain rfl := Nat.eq_of_beq_eq_true hx1
      obtain ⟨q, hq, he⟩ := fn_mu hG1
      obtain ⟨rfl, rfl⟩ := Prod.mk.inj he
      exact t_X11_isPlateAndDay  hf  p1 p2 (m := (i0, l0)) hq hK
    · cases hG

/-! == X11_appeal == -/
noncomputable def f_X11_appeal (p1 : Int32) (p2 : Int32) (m : fm_) : Option (Int32 × fm_) :=
  (Option.bind (f_X11_isPlateAndDay p1 p2 m) fun q1 =>
(if q1.1 = 0 then
((some ((-1), q1.2)))
else
(if (gi_ q1.2 72 7) < 200 then
(Option.bind (f_X1_addAppeal p1 p2 q1.2) fun q8 =>
((some (q8.1, q8.2))))
else
((some ((-1), q1.2))))))
def sp_X11_appeal : am_S := fn_sp [(179, fn_F, G_X11_isPlateAndDay), (11, fn_F, G_X1_addAppeal)]
theorem sm_X11_appeal : am_Smono (sp_X11_appeal) := fn_sp_mono _
set_option maxRecDepth 100000 in
theorem t_X11_appeal {n : Nat} {r : Nat → Nat → Option Nat} (hf : fn_F n r) {q : Int32 × fm_} (p1 : Int32) (p2 : Int32) {m : fm_}
  (h : f_X11_appeal p1 p2 m = some q) {Q : Option Value → am_W → Prop} (hQ : Q (en_i q).1 (mk_ n r q.2)) : am_T m_X11_appeal sp_X11_appeal n Q 0 [some (.ref 0), some (.int p1), some (.int p2)] [] (mk_ n r m) :=
  am_T.wp sm_X11_appeal (K := am_T m_X11_appeal sp_X11_appeal n Q) (cuts := []) (fun _ _ _ _ h => h) 17
    (fh_bd h fun q1 e2 h3 => ⟨Nat.le_of_ble_eq_true rfl, fn_aF hf rfl rfl, ⟨hf, some (.int q1.1), q1.2, gp_X11_isPlateAndDay (n := n) (r := r)  e2, fun _ => fh_if h3 (fun c4 h5 => ⟨rfl, fh_rt h5 hQ⟩) (fun c4 h5 => ⟨fn_aF hf rfl rfl, Or.inl ⟨_, hf.2 0 6 72 rfl, ⟨fn_aF hf rfl rfl, fh_if h5 (fun c6 h7 => ⟨fn_aF hf rfl rfl, Or.inl ⟨_, hf.2 0 6 72 rfl, fh_bd h7 fun q8 e9 h10 => ⟨Nat.le_of_ble_eq_true rfl, fn_aF hf rfl rfl, ⟨hf, some (.int q8.1), q8.2, gp_X1_addAppeal (n := n) (r := r)  e9, fun _ => ⟨rfl, fh_rt h10 hQ⟩⟩⟩⟩⟩) (fun c6 h7 => ⟨rfl, fh_rt h7 hQ⟩)⟩⟩⟩)⟩⟩)
noncomputable def G_X11_appeal (n : Nat) (r : Nat → Nat → Option Nat) (as : List Value) (m : fm_) : Option (Option Value × fm_) := match as with
  | [.ref x0, .int p1, .int p2] => gd_ (Nat.beq x0 0) ((f_X11_appeal p1 p2 m).map en_i)
  | _ => none
set_option maxRecDepth 100000 in
theorem gp_X11_appeal {n : Nat} {r : Nat → Nat → Option Nat}  {p1 : Int32} {p2 : Int32} {m : fm_} {q : Int32 × fm_}  (e : f_X11_appeal p1 p2 m = some q) : G_X11_appeal n r [.ref 0, .int p1, .int p2] m = some (en_i q) := by
  show (gd_ (Nat.beq 0 0) ((f_X11_appeal p1 p2 m).map en_i)) = _
  exact fn_gd rfl (fn_mp e)
set_option maxRecDepth 100000 in
theorem ok_X11_appeal : am_mok 11 155 m_X11_appeal = true := by decide +kernel
set_option maxRecDepth 100000 in
theorem c_X11_appeal (l : Launch) {g : am_G} (hg : fx_ l g) : am_Met l g 2 155 (fn_s fn_F G_X11_appeal) := by
  refine am_sound (own := 11) (M := m_X11_appeal) (SP := sp_X11_appeal) hg.1 (by decide +kernel) ok_X11_appeal (by decide +kernel) ?_ (fun q hq hk => absurd hk (am_no61 (M := m_X11_appeal) (by decide +kernel) q hq)) (fn_ext l _ rfl g 11) (Or.inl (by decide +kernel)) ?_ ?_
  · intro q hq hk
    have hm : q.2.2.2.1 ∈ am_cs m_X11_appeal := am_cs_in hq hk
    rw [show am_cs m_X11_appeal = [179, 11] by decide +kernel] at hm
    have hm : q.2.2.2.1 ∈ [11, 179] := (List.all_eq_true.mp (show ([179, 11] : List Nat).all (fun a => decide (a ∈ ([11, 179] : List Nat))) = true by decide +kernel) _ hm |> of_decide_eq_true)
    simp only [List.mem_cons, List.not_mem_nil, or_false] at hm
    rcases hm with hm | hm
    · rw [hm]; exact ⟨1, by omega, c_X1_addAppeal l hg⟩
    · rw [hm]; exact ⟨1, by omega, c_X11_isPlateAndDay l hg⟩
  · intro as w K h
    obtain ⟨hf, y, m1, hG, hK⟩ := h
    unfold G_X11_appeal at hG
    split at hG
    · exact Nat.le_of_ble_eq_true rfl
    · cases hG
  · intro as w K h
    obtain ⟨n, i0, l0, r⟩ := w
    obtain ⟨hf, y, m1, hG, hK⟩ := h
    unfold G_X11_appeal at hG
    split at hG
    · next x0 p1 p2 =>
      obtain ⟨hx1, hG1⟩ := gd_u hG
      obtain rfl := Nat.eq_of_beq_eq_true hx1
      obtain ⟨q, hq, he⟩ := fn_mu hG1
      obtain ⟨rfl, rfl⟩ := Prod.mk.inj he
      exact t_X11_appeal  hf  p1 p2 (m := (i0, l0)) hq hK
    · cases hG

/-! == X11_untell == -/
noncomputable def f_X11_untell (p1 : Int32) (m : fm_) : Option (Int32 × fm_) :=
  (Option.bind (f_X6_forget m) fun q1 =>
(Option.bind (f_X1_takeBack p1 q1.2) fun q4 =>
(gd_ (bl_ q4.1)
((some (q4.1, q4.2))))))
def sp_X11_untell : am_S := fn_sp [(62, fn_U, G_X6_forget), (15, fn_F, G_X1_takeBack)]
theorem sm_X11_untell : am_Smono (sp_X11_untell) := fn_sp_mono _
set_option maxRecDepth 100000 in
theorem t_X11_untell {n : Nat} {r : Nat → Nat → Option Nat} (hf : fn_F n r) {q : Int32 × fm_} (p1 : Int32) {m : fm_}
  (h : f_X11_untell p1 m = some q) {Q : Option Value → am_W → Prop} (hQ : Q (en_i q).1 (mk_ n r q.2)) : am_T m_X11_untell sp_X11_untell n Q 0 [some (.ref 0), some (.int p1)] [] (mk_ n r m) :=
  am_T.wp sm_X11_untell (K := am_T m_X11_untell sp_X11_untell n Q) (cuts := []) (fun _ _ _ _ h => h) 9
    (⟨fn_aF hf rfl rfl, Or.inl ⟨_, hf.2 0 7 82 rfl, fh_bd h fun q1 e2 h3 => ⟨Nat.le_of_ble_eq_true rfl, fn_aF hf rfl rfl, ⟨fn_FU hf, none, q1.2, gp_X6_forget (n := n) (r := r)  e2, fun _ => ⟨rfl, ⟨fn_aF hf rfl rfl, Or.inl ⟨_, hf.2 0 6 72 rfl, fh_bd h3 fun q4 e5 h6 => ⟨Nat.le_of_ble_eq_true rfl, fn_aF hf rfl rfl, ⟨hf, some (.int q4.1), q4.2, gp_X1_takeBack (n := n) (r := r)  e5, fun _ => fh_gd h6 fun g8 h7 => ⟨rfl, bl_t g8, fh_rt h7 hQ⟩⟩⟩⟩⟩⟩⟩⟩⟩⟩)
noncomputable def G_X11_untell (n : Nat) (r : Nat → Nat → Option Nat) (as : List Value) (m : fm_) : Option (Option Value × fm_) := match as with
  | [.ref x0, .int p1] => gd_ (Nat.beq x0 0) ((f_X11_untell p1 m).map en_i)
  | _ => none
set_option maxRecDepth 100000 in
theorem gp_X11_untell {n : Nat} {r : Nat → Nat → Option Nat}  {p1 : Int32} {m : fm_} {q : Int32 × fm_}  (e : f_X11_untell p1 m = some q) : G_X11_untell n r [.ref 0, .int p1] m = some (en_i q) := by
  show (gd_ (Nat.beq 0 0) ((f_X11_untell p1 m).map en_i)) = _
  exact fn_gd rfl (fn_mp e)
set_option maxRecDepth 100000 in
theorem ok_X11_untell : am_mok 11 156 m_X11_untell = true := by decide +kernel
set_option maxRecDepth 100000 in
theorem c_X11_untell (l : Launch) {g : am_G} (hg : fx_ l g) : am_Met l g 2 156 (fn_s fn_F G_X11_untell) := by
  refine am_sound (own := 11) (M := m_X11_untell) (SP := sp_X11_untell) hg.1 (by decide +kernel) ok_X11_untell (by decide +kernel) ?_ (fun q hq hk => absurd hk (am_no61 (M := m_X11_untell) (by decide +kernel) q hq)) (fn_ext l _ rfl g 11) (Or.inl (by decide +kernel)) ?_ ?_
  · intro q hq hk
    have hm : q.2.2.2.1 ∈ am_cs m_X11_untell := am_cs_in hq hk
    rw [show am_cs m_X11_untell = [62, 15] by decide +kernel] at hm
    have hm : q.2.2.2.1 ∈ [15, 62] := (List.all_eq_true.mp (show ([62, 15] : List Nat).all (fun a => decide (a ∈ ([15, 62] : List Nat))) = true by decide +kernel) _ hm |> of_decide_eq_true)
    simp only [List.mem_cons, List.not_mem_nil, or_false] at hm
    rcases hm with hm | hm
    · rw [hm]; exact ⟨1, by omega, c_X1_takeBack l hg⟩
    · rw [hm]; exact ⟨0, by omega, c_X6_forget l hg⟩
  · intro as w K h
    obtain ⟨hf, y, m1, hG, hK⟩ := h
    unfold G_X11_untell at hG
    split at hG
    · exact Nat.le_of_ble_eq_true rfl
    · cases hG
  · intro as w K h
    obtain ⟨n, i0, l0, r⟩ := w
    obtain ⟨hf, y, m1, hG, hK⟩ := h
    unfold G_X11_untell at hG
    split at hG
    · next x0 p1 =>
      obtain ⟨hx1, hG1⟩ := gd_u hG
      obtain rfl := Nat.eq_of_beq_eq_true hx1
      obtain ⟨q, hq, he⟩ := fn_mu hG1
      obtain ⟨rfl, rfl⟩ := Prod.mk.inj he
      exact t_X11_untell  hf  p1 (m := (i0, l0)) hq hK
    · cases hG

/-! == X11_later == -/
noncomputable def f_X11_later (p1 : Int32) (m : fm_) : Option (Int32 × fm_) :=
  (if p1 < 0 then
((some ((-1), m)))
else
(if 1000 < p1 then
((some ((-1), m)))
else
(if ((gi_ m 72 8) + p1) ≤ 100000 then
((some (((gi_ m 72 8) + p1), (si_ m 72 8 ((gi_ m 72 8) + p1)))))
else
((some ((-1), m))))))
def sp_X11_later : am_S := fn_sp []
theorem sm_X11_later : am_Smono (sp_X11_later) := fn_sp_mono _
set_option maxRecDepth 100000 in
theorem t_X11_later {n : Nat} {r : Nat → Nat → Option Nat} (hf : fn_F n r) {q : Int32 × fm_} (p1 : Int32) {m : fm_}
  (h : f_X11_later p1 m = some q) {Q : Option Value → am_W → Prop} (hQ : Q (en_i q).1 (mk_ n r q.2)) : am_T m_X11_later sp_X11_later n Q 0 [some (.ref 0), some (.int p1)] [] (mk_ n r m) :=
  am_T.wp sm_X11_later (K := am_T m_X11_later sp_X11_later n Q) (cuts := []) (fun _ _ _ _ h => h) 24
    (fh_if h (fun c1 h2 => ⟨rfl, fh_rt h2 hQ⟩) (fun c1 h2 => fh_if h2 (fun c3 h4 => ⟨rfl, fh_rt h4 hQ⟩) (fun c3 h4 => ⟨fn_aF hf rfl rfl, Or.inl ⟨_, hf.2 0 6 72 rfl, ⟨fn_aF hf rfl rfl, fh_if h4 (fun c5 h6 => ⟨fn_aF hf rfl rfl, Or.inl ⟨_, hf.2 0 6 72 rfl, ⟨fn_aF hf rfl rfl, ⟨fn_aF hf rfl rfl, ⟨fn_aF hf rfl rfl, Or.inl ⟨_, hf.2 0 6 72 rfl, ⟨fn_aF hf rfl rfl, ⟨rfl, fh_rt h6 hQ⟩⟩⟩⟩⟩⟩⟩⟩) (fun c5 h6 => ⟨rfl, fh_rt h6 hQ⟩)⟩⟩⟩)))
noncomputable def G_X11_later (n : Nat) (r : Nat → Nat → Option Nat) (as : List Value) (m : fm_) : Option (Option Value × fm_) := match as with
  | [.ref x0, .int p1] => gd_ (Nat.beq x0 0) ((f_X11_later p1 m).map en_i)
  | _ => none
set_option maxRecDepth 100000 in
theorem gp_X11_later {n : Nat} {r : Nat → Nat → Option Nat}  {p1 : Int32} {m : fm_} {q : Int32 × fm_}  (e : f_X11_later p1 m = some q) : G_X11_later n r [.ref 0, .int p1] m = some (en_i q) := by
  show (gd_ (Nat.beq 0 0) ((f_X11_later p1 m).map en_i)) = _
  exact fn_gd rfl (fn_mp e)
set_option maxRecDepth 100000 in
theorem ok_X11_later : am_mok 11 157 m_X11_later = true := by decide +kernel
set_option maxRecDepth 100000 in
theorem c_X11_later (l : Launch) {g : am_G} (hg : fx_ l g) : am_Met l g 0 157 (fn_s fn_F G_X11_later) := by
  refine am_sound (own := 11) (M := m_X11_later) (SP := sp_X11_later) hg.1 (by decide +kernel) ok_X11_later (by decide +kernel) ?_ (fun q hq hk => absurd hk (am_no61 (M := m_X11_later) (by decide +kernel) q hq)) (fn_ext l _ rfl g 11) (Or.inl (by decide +kernel)) ?_ ?_
  · intro q hq hk
    have hm : q.2.2.2.1 ∈ am_cs m_X11_later := am_cs_in hq hk
    rw [show am_cs m_X11_later = [] by decide +kernel] at hm
    cases hm
  · intro as w K h
    obtain ⟨hf, y, m1, hG, hK⟩ := h
    unfold G_X11_later at hG
    split at hG
    · exact Nat.le_of_ble_eq_true rfl
    · cases hG
  · intro as w K h
    obtain ⟨n, i0, l0, r⟩ := w
    obtain ⟨hf, y, m1, hG, hK⟩ := h
    unfold G_X11_later at hG
    split at hG
    · next x0 p1 =>
      obtain ⟨hx1, hG1⟩ := gd_u hG
      obtain rfl := Nat.eq_of_beq_eq_true hx1
      obtain ⟨q, hq, he⟩ := fn_mu hG1
      obtain ⟨rfl, rfl⟩ := Prod.mk.inj he
      exact t_X11_later  hf  p1 (m := (i0, l0)) hq hK
    · cases hG

/-! == X11_like == -/
noncomputable def f_X11_like (p1 : Int32) (p2 : Int32) (m : fm_) : Option (Int32 × fm_) :=
  (Option.bind (f_X1_isReading p1 m) fun q1 =>
(if q1.1 = 0 then
((some ((-1), q1.2)))
else
(Option.bind (f_X11_isUnder p2 (gi_ q1.2 69 2) q1.2) fun q6 =>
(if q6.1 = 0 then
((some ((-1), q6.2)))
else
(gd_ (ix_ p1 200)
(gd_ (ix_ p2 10)
(Option.bind (f_X7_likeness (gl_ q6.2 79 (Int32.toNatClampNeg p1)) (gl_ q6.2 70 (Int32.toNatClampNeg p2)) q6.2) fun q15 =>
((some (q15.1, q15.2))))))))))
def sp_X11_like : am_S := fn_sp [(16, fn_F, G_X1_isReading), (182, fn_0, G_X11_isUnder), (86, fn_0, G_X7_likeness)]
theorem sm_X11_like : am_Smono (sp_X11_like) := fn_sp_mono _
set_option maxRecDepth 100000 in
theorem t_X11_like {n : Nat} {r : Nat → Nat → Option Nat} (hf : fn_F n r) {q : Int32 × fm_} (p1 : Int32) (p2 : Int32) {m : fm_}
  (h : f_X11_like p1 p2 m = some q) {Q : Option Value → am_W → Prop} (hQ : Q (en_i q).1 (mk_ n r q.2)) : am_T m_X11_like sp_X11_like n Q 0 [some (.ref 0), some (.int p1), some (.int p2)] [] (mk_ n r m) :=
  am_T.wp sm_X11_like (K := am_T m_X11_like sp_X11_like n Q) (cuts := []) (fun _ _ _ _ h => h) 24
    (⟨fn_aF hf rfl rfl, Or.inl ⟨_, hf.2 0 6 72 rfl, fh_bd h fun q1 e2 h3 => ⟨Nat.le_of_ble_eq_true rfl, fn_aF hf rfl rfl, ⟨hf, some (.int q1.1), q1.2, gp_X1_isReading (n := n) (r := r)  e2, fun _ => fh_if h3 (fun c4 h5 => ⟨rfl, fh_rt h5 hQ⟩) (fun c4 h5 => ⟨fn_aF hf rfl rfl, Or.inl ⟨_, hf.2 0 5 69 rfl, ⟨fn_aF hf rfl rfl, fh_bd h5 fun q6 e7 h8 => ⟨Nat.le_of_ble_eq_true rfl, trivial, ⟨trivial, some (.int q6.1), q6.2, gp_X11_isUnder (n := n) (r := r)  e7, fun _ => fh_in h8 (fun c9 h10 => ⟨fn_aF hf rfl rfl, Or.inl ⟨_, hf.2 0 6 72 rfl, ⟨fn_aF hf rfl rfl, Or.inl ⟨_, hf.2 72 6 79 rfl, fh_gd h10 fun g12 h11 => ⟨200, fn_aF hf rfl rfl, ix_t g12, ⟨fn_aF hf rfl rfl, Or.inl ⟨_, hf.2 0 5 69 rfl, ⟨fn_aF hf rfl rfl, Or.inl ⟨_, hf.2 69 0 70 rfl, fh_gd h11 fun g14 h13 => ⟨10, fn_aF hf rfl rfl, ix_t g14, fh_bd h13 fun q15 e16 h17 => ⟨Nat.le_of_ble_eq_true rfl, trivial, ⟨trivial, some (.int q15.1), q15.2, gp_X7_likeness (n := n) (r := r)  e16, fun _ => ⟨rfl, fh_rt h17 hQ⟩⟩⟩⟩⟩⟩⟩⟩⟩⟩⟩⟩⟩) (fun c9 h10 => ⟨rfl, fh_rt h10 hQ⟩)⟩⟩⟩⟩⟩)⟩⟩⟩⟩)
noncomputable def G_X11_like (n : Nat) (r : Nat → Nat → Option Nat) (as : List Value) (m : fm_) : Option (Option Value × fm_) := match as with
  | [.ref x0, .int p1, .int p2] => gd_ (Nat.beq x0 0) ((f_X11_like p1 p2 m).map en_i)
  | _ => none
set_option maxRecDepth 100000 in
theorem gp_X11_like {n : Nat} {r : Nat → Nat → Option Nat}  {p1 : Int32} {p2 : Int32} {m : fm_} {q : Int32 × fm_}  (e : f_X11_like p1 p2 m = some q) : G_X11_like n r [.ref 0, .int p1, .int p2] m = some (en_i q) := by
  show (gd_ (Nat.beq 0 0) ((f_X11_like p1 p2 m).map en_i)) = _
  exact fn_gd rfl (fn_mp e)
set_option maxRecDepth 100000 in
theorem ok_X11_like : am_mok 11 158 m_X11_like = true := by decide +kernel
set_option maxRecDepth 100000 in
theorem c_X11_like (l : Launch) {g : am_G} (hg : fx_ l g) : am_Met l g 2 158 (fn_s fn_F G_X11_like) := by
  refine am_sound (own := 11) (M := m_X11_like) (SP := sp_X11_like) hg.1 (by decide +kernel) ok_X11_like (by decide +kernel) ?_ (fun q hq hk => absurd hk (am_no61 (M := m_X11_like) (by decide +kernel) q hq)) (fn_ext l _ rfl g 11) (Or.inl (by decide +kernel)) ?_ ?_
  · intro q hq hk
    have hm : q.2.2.2.1 ∈ am_cs m_X11_like := am_cs_in hq hk
    rw [show am_cs m_X11_like = [16, 182, 86] by decide +kernel] at hm
    have hm : q.2.2.2.1 ∈ [16, 86, 182] := (List.all_eq_true.mp (show ([16, 182, 86] : List Nat).all (fun a => decide (a ∈ ([16, 86, 182] : List Nat))) = true by decide +kernel) _ hm |> of_decide_eq_true)
    simp only [List.mem_cons, List.not_mem_nil, or_false] at hm
    rcases hm with hm | hm | hm
    · rw [hm]; exact ⟨0, by omega, c_X1_isReading l hg⟩
    · rw [hm]; exact ⟨1, by omega, c_X7_likeness l hg⟩
    · rw [hm]; exact ⟨0, by omega, c_X11_isUnder l hg⟩
  · intro as w K h
    obtain ⟨hf, y, m1, hG, hK⟩ := h
    unfold G_X11_like at hG
    split at hG
    · exact Nat.le_of_ble_eq_true rfl
    · cases hG
  · intro as w K h
    obtain ⟨n, i0, l0, r⟩ := w
    obtain ⟨hf, y, m1, hG, hK⟩ := h
    unfold G_X11_like at hG
    split at hG
    · next x0 p1 p2 =>
      obtain ⟨hx1, hG1⟩ := gd_u hG
      obtain rfl := Nat.eq_of_beq_eq_true hx1
      obtain ⟨q, hq, he⟩ := fn_mu hG1
      obtain ⟨rfl, rfl⟩ := Prod.mk.inj he
      exact t_X11_like  hf  p1 p2 (m := (i0, l0)) hq hK
    · cases hG

/-! == X11_whose == -/
noncomputable def f_X11_whose (p1 : Int32) (p2 : Int32) (m : fm_) : Option (Int32 × fm_) :=
  (Option.bind (f_X1_isReading p1 m) fun q1 =>
(if q1.1 = 0 then
((some ((-1), q1.2)))
else
(gd_ (ix_ p1 200)
(Option.bind (f_X6_choose (gi_ q1.2 77 (Int32.toNatClampNeg p1)) p2 q1.2) fun q8 =>
(Option.bind (f_X6_chosenOwner p1 q8.2) fun q11 =>
((some (q11.1, q11.2))))))))
def sp_X11_whose : am_S := fn_sp [(16, fn_F, G_X1_isReading), (70, fn_F, G_X6_choose), (64, fn_F, G_X6_chosenOwner)]
theorem sm_X11_whose : am_Smono (sp_X11_whose) := fn_sp_mono _
set_option maxRecDepth 100000 in
theorem t_X11_whose {n : Nat} {r : Nat → Nat → Option Nat} (hf : fn_F n r) {q : Int32 × fm_} (p1 : Int32) (p2 : Int32) {m : fm_}
  (h : f_X11_whose p1 p2 m = some q) {Q : Option Value → am_W → Prop} (hQ : Q (en_i q).1 (mk_ n r q.2)) : am_T m_X11_whose sp_X11_whose n Q 0 [some (.ref 0), some (.int p1), some (.int p2)] [] (mk_ n r m) :=
  am_T.wp sm_X11_whose (K := am_T m_X11_whose sp_X11_whose n Q) (cuts := []) (fun _ _ _ _ h => h) 20
    (⟨fn_aF hf rfl rfl, Or.inl ⟨_, hf.2 0 6 72 rfl, fh_bd h fun q1 e2 h3 => ⟨Nat.le_of_ble_eq_true rfl, fn_aF hf rfl rfl, ⟨hf, some (.int q1.1), q1.2, gp_X1_isReading (n := n) (r := r)  e2, fun _ => fh_in h3 (fun c4 h5 => ⟨fn_aF hf rfl rfl, Or.inl ⟨_, hf.2 0 7 82 rfl, ⟨fn_aF hf rfl rfl, Or.inl ⟨_, hf.2 0 6 72 rfl, ⟨fn_aF hf rfl rfl, Or.inl ⟨_, hf.2 72 4 77 rfl, fh_gd h5 fun g7 h6 => ⟨200, fn_aF hf rfl rfl, ix_t g7, fh_bd h6 fun q8 e9 h10 => ⟨Nat.le_of_ble_eq_true rfl, fn_aF hf rfl rfl, ⟨hf, none, q8.2, gp_X6_choose (n := n) (r := r)  e9, fun _ => ⟨rfl, ⟨fn_aF hf rfl rfl, Or.inl ⟨_, hf.2 0 7 82 rfl, fh_bd h10 fun q11 e12 h13 => ⟨Nat.le_of_ble_eq_true rfl, fn_aF hf rfl rfl, ⟨hf, some (.int q11.1), q11.2, gp_X6_chosenOwner (n := n) (r := r)  e12, fun _ => ⟨rfl, fh_rt h13 hQ⟩⟩⟩⟩⟩⟩⟩⟩⟩⟩⟩⟩⟩⟩⟩) (fun c4 h5 => ⟨rfl, fh_rt h5 hQ⟩)⟩⟩⟩⟩)
noncomputable def G_X11_whose (n : Nat) (r : Nat → Nat → Option Nat) (as : List Value) (m : fm_) : Option (Option Value × fm_) := match as with
  | [.ref x0, .int p1, .int p2] => gd_ (Nat.beq x0 0) ((f_X11_whose p1 p2 m).map en_i)
  | _ => none
set_option maxRecDepth 100000 in
theorem gp_X11_whose {n : Nat} {r : Nat → Nat → Option Nat}  {p1 : Int32} {p2 : Int32} {m : fm_} {q : Int32 × fm_}  (e : f_X11_whose p1 p2 m = some q) : G_X11_whose n r [.ref 0, .int p1, .int p2] m = some (en_i q) := by
  show (gd_ (Nat.beq 0 0) ((f_X11_whose p1 p2 m).map en_i)) = _
  exact fn_gd rfl (fn_mp e)
set_option maxRecDepth 100000 in
theorem ok_X11_whose : am_mok 11 159 m_X11_whose = true := by decide +kernel
set_option maxRecDepth 100000 in
theorem c_X11_whose (l : Launch) {g : am_G} (hg : fx_ l g) : am_Met l g 5 159 (fn_s fn_F G_X11_whose) := by
  refine am_sound (own := 11) (M := m_X11_whose) (SP := sp_X11_whose) hg.1 (by decide +kernel) ok_X11_whose (by decide +kernel) ?_ (fun q hq hk => absurd hk (am_no61 (M := m_X11_whose) (by decide +kernel) q hq)) (fn_ext l _ rfl g 11) (Or.inl (by decide +kernel)) ?_ ?_
  · intro q hq hk
    have hm : q.2.2.2.1 ∈ am_cs m_X11_whose := am_cs_in hq hk
    rw [show am_cs m_X11_whose = [16, 70, 64] by decide +kernel] at hm
    have hm : q.2.2.2.1 ∈ [16, 64, 70] := (List.all_eq_true.mp (show ([16, 70, 64] : List Nat).all (fun a => decide (a ∈ ([16, 64, 70] : List Nat))) = true by decide +kernel) _ hm |> of_decide_eq_true)
    simp only [List.mem_cons, List.not_mem_nil, or_false] at hm
    rcases hm with hm | hm | hm
    · rw [hm]; exact ⟨0, by omega, c_X1_isReading l hg⟩
    · rw [hm]; exact ⟨1, by omega, c_X6_chosenOwner l hg⟩
    · rw [hm]; exact ⟨4, by omega, c_X6_choose l hg⟩
  · intro as w K h
    obtain ⟨hf, y, m1, hG, hK⟩ := h
    unfold G_X11_whose at hG
    split at hG
    · exact Nat.le_of_ble_eq_true rfl
    · cases hG
  · intro as w K h
    obtain ⟨n, i0, l0, r⟩ := w
    obtain ⟨hf, y, m1, hG, hK⟩ := h
    unfold G_X11_whose at hG
    split at hG
    · next x0 p1 p2 =>
      obtain ⟨hx1, hG1⟩ := gd_u hG
      obtain rfl := Nat.eq_of_beq_eq_true hx1
      obtain ⟨q, hq, he⟩ := fn_mu hG1
      obtain ⟨rfl, rfl⟩ := Prod.mk.inj he
      exact t_X11_whose  hf  p1 p2 (m := (i0, l0)) hq hK
    · cases hG

/-! == X11_doubt == -/
noncomputable def f_X11_doubt (p1 : Int32) (p2 : Int32) (m : fm_) : Option (Int32 × fm_) :=
  (Option.bind (f_X11_isDay p1 m) fun q1 =>
(if q1.1 = 0 then
((some ((-1), q1.2)))
else
(Option.bind (f_X6_priceOf p1 p2 q1.2) fun q6 =>
((some (q6.1, q6.2))))))
def sp_X11_doubt : am_S := fn_sp [(181, fn_0, G_X11_isDay), (65, fn_F, G_X6_priceOf)]
theorem sm_X11_doubt : am_Smono (sp_X11_doubt) := fn_sp_mono _
set_option maxRecDepth 100000 in
theorem t_X11_doubt {n : Nat} {r : Nat → Nat → Option Nat} (hf : fn_F n r) {q : Int32 × fm_} (p1 : Int32) (p2 : Int32) {m : fm_}
  (h : f_X11_doubt p1 p2 m = some q) {Q : Option Value → am_W → Prop} (hQ : Q (en_i q).1 (mk_ n r q.2)) : am_T m_X11_doubt sp_X11_doubt n Q 0 [some (.ref 0), some (.int p1), some (.int p2)] [] (mk_ n r m) :=
  am_T.wp sm_X11_doubt (K := am_T m_X11_doubt sp_X11_doubt n Q) (cuts := []) (fun _ _ _ _ h => h) 11
    (fh_bd h fun q1 e2 h3 => ⟨Nat.le_of_ble_eq_true rfl, trivial, ⟨trivial, some (.int q1.1), q1.2, gp_X11_isDay (n := n) (r := r)  e2, fun _ => fh_if h3 (fun c4 h5 => ⟨rfl, fh_rt h5 hQ⟩) (fun c4 h5 => ⟨fn_aF hf rfl rfl, Or.inl ⟨_, hf.2 0 7 82 rfl, fh_bd h5 fun q6 e7 h8 => ⟨Nat.le_of_ble_eq_true rfl, fn_aF hf rfl rfl, ⟨hf, some (.int q6.1), q6.2, gp_X6_priceOf (n := n) (r := r)  e7, fun _ => ⟨rfl, fh_rt h8 hQ⟩⟩⟩⟩⟩)⟩⟩)
noncomputable def G_X11_doubt (n : Nat) (r : Nat → Nat → Option Nat) (as : List Value) (m : fm_) : Option (Option Value × fm_) := match as with
  | [.ref x0, .int p1, .int p2] => gd_ (Nat.beq x0 0) ((f_X11_doubt p1 p2 m).map en_i)
  | _ => none
set_option maxRecDepth 100000 in
theorem gp_X11_doubt {n : Nat} {r : Nat → Nat → Option Nat}  {p1 : Int32} {p2 : Int32} {m : fm_} {q : Int32 × fm_}  (e : f_X11_doubt p1 p2 m = some q) : G_X11_doubt n r [.ref 0, .int p1, .int p2] m = some (en_i q) := by
  show (gd_ (Nat.beq 0 0) ((f_X11_doubt p1 p2 m).map en_i)) = _
  exact fn_gd rfl (fn_mp e)
set_option maxRecDepth 100000 in
theorem ok_X11_doubt : am_mok 11 160 m_X11_doubt = true := by decide +kernel
set_option maxRecDepth 100000 in
theorem c_X11_doubt (l : Launch) {g : am_G} (hg : fx_ l g) : am_Met l g 6 160 (fn_s fn_F G_X11_doubt) := by
  refine am_sound (own := 11) (M := m_X11_doubt) (SP := sp_X11_doubt) hg.1 (by decide +kernel) ok_X11_doubt (by decide +kernel) ?_ (fun q hq hk => absurd hk (am_no61 (M := m_X11_doubt) (by decide +kernel) q hq)) (fn_ext l _ rfl g 11) (Or.inl (by decide +kernel)) ?_ ?_
  · intro q hq hk
    have hm : q.2.2.2.1 ∈ am_cs m_X11_doubt := am_cs_in hq hk
    rw [show am_cs m_X11_doubt = [181, 65] by decide +kernel] at hm
    have hm : q.2.2.2.1 ∈ [65, 181] := (List.all_eq_true.mp (show ([181, 65] : List Nat).all (fun a => decide (a ∈ ([65, 181] : List Nat))) = true by decide +kernel) _ hm |> of_decide_eq_true)
    simp only [List.mem_cons, List.not_mem_nil, or_false] at hm
    rcases hm with hm | hm
    · rw [hm]; exact ⟨5, by omega, c_X6_priceOf l hg⟩
    · rw [hm]; exact ⟨0, by omega, c_X11_isDay l hg⟩
  · intro as w K h
    obtain ⟨hf, y, m1, hG, hK⟩ := h
    unfold G_X11_doubt at hG
    split at hG
    · exact Nat.le_of_ble_eq_true rfl
    · cases hG
  · intro as w K h
    obtain ⟨n, i0, l0, r⟩ := w
    obtain ⟨hf, y, m1, hG, hK⟩ := h
    unfold G_X11_doubt at hG
    split at hG
    · next x0 p1 p2 =>
      obtain ⟨hx1, hG1⟩ := gd_u hG
      obtain rfl := Nat.eq_of_beq_eq_true hx1
      obtain ⟨q, hq, he⟩ := fn_mu hG1
      obtain ⟨rfl, rfl⟩ := Prod.mk.inj he
      exact t_X11_doubt  hf  p1 p2 (m := (i0, l0)) hq hK
    · cases hG

