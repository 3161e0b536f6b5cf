/-! == X11_doubtOf == -/
noncomputable def f_X11_doubtOf (p1 : Int32) (p2 : Int32) (m : fm_) : Option (Int32 × fm_) :=
  (Option.bind (f_X11_isDay p1 m) fun q1 =>
(if q1.1 = 0 then
((some ((-1), q1.2)))
else
(Option.bind (f_X11_isUnder p2 2 q1.2) fun q6 =>
(if q6.1 = 0 then
((some ((-1), q6.2)))
else
(if p2 = 0 then
(Option.bind (f_X0_waysAsGood p1 q6.2) fun q16 =>
((some (q16.1, q16.2))))
else
(Option.bind (f_X0_waysFrom p1 q6.2) fun q13 =>
((some (q13.1, q13.2)))))))))
def sp_X11_doubtOf : am_S := fn_sp [(181, fn_0, G_X11_isDay), (182, fn_0, G_X11_isUnder), (4, fn_F, G_X0_waysAsGood), (3, fn_F, G_X0_waysFrom)]
theorem sm_X11_doubtOf : am_Smono (sp_X11_doubtOf) := fn_sp_mono _
set_option maxRecDepth 100000 in
theorem t_X11_doubtOf {n : Nat} {r : Nat → Nat → Option Nat} (hf : fn_F n r) {q : Int32 × fm_} (p1 : Int32) (p2 : Int32) {m : fm_}
  (h : f_X11_doubtOf p1 p2 m = some q) {Q : Option Value → am_W → Prop} (hQ : Q (en_i q).1 (mk_ n r q.2)) : am_T m_X11_doubtOf sp_X11_doubtOf n Q 0 [some (.ref 0), some (.int p1), some (.int p2)] [] (mk_ n r m) :=
  am_T.wp sm_X11_doubtOf (K := am_T m_X11_doubtOf sp_X11_doubtOf n Q) (cuts := []) (fun _ _ _ _ h => h) 16
    (fh_bd h fun q1 e2 h3 => ⟨Nat.le_of_ble_eq_true rfl, trivial, ⟨trivial, some (.int q1.1), q1.2, gp_X11_isDay (n := n) (r := r)  e2, fun _ => fh_if h3 (fun c4 h5 => ⟨rfl, fh_rt h5 hQ⟩) (fun c4 h5 => fh_bd h5 fun q6 e7 h8 => ⟨Nat.le_of_ble_eq_true rfl, trivial, ⟨trivial, some (.int q6.1), q6.2, gp_X11_isUnder (n := n) (r := r)  e7, fun _ => fh_in h8 (fun c9 h10 => fh_in h10 (fun c11 h12 => ⟨fn_aF hf rfl rfl, Or.inl ⟨_, hf.2 0 9 94 rfl, fh_bd h12 fun q13 e14 h15 => ⟨Nat.le_of_ble_eq_true rfl, fn_aF hf rfl rfl, ⟨hf, some (.int q13.1), q13.2, gp_X0_waysFrom (n := n) (r := r)  e14, fun _ => ⟨rfl, fh_rt h15 hQ⟩⟩⟩⟩⟩) (fun c11 h12 => ⟨fn_aF hf rfl rfl, Or.inl ⟨_, hf.2 0 9 94 rfl, fh_bd h12 fun q16 e17 h18 => ⟨Nat.le_of_ble_eq_true rfl, fn_aF hf rfl rfl, ⟨hf, some (.int q16.1), q16.2, gp_X0_waysAsGood (n := n) (r := r)  e17, fun _ => ⟨rfl, fh_rt h18 hQ⟩⟩⟩⟩⟩)) (fun c9 h10 => ⟨rfl, fh_rt h10 hQ⟩)⟩⟩)⟩⟩)
noncomputable def G_X11_doubtOf (n : Nat) (r : Nat → Nat → Option Nat) (as : List Value) (m : fm_) : Option (Option Value × fm_) := match as with
  | [.ref x0, .int p1, .int p2] => gd_ (Nat.beq x0 0) ((f_X11_doubtOf p1 p2 m).map en_i)
  | _ => none
set_option maxRecDepth 100000 in
theorem gp_X11_doubtOf {n : Nat} {r : Nat → Nat → Option Nat}  {p1 : Int32} {p2 : Int32} {m : fm_} {q : Int32 × fm_}  (e : f_X11_doubtOf p1 p2 m = some q) : G_X11_doubtOf n r [.ref 0, .int p1, .int p2] m = some (en_i q) := by
  show (gd_ (Nat.beq 0 0) ((f_X11_doubtOf p1 p2 m).map en_i)) = _
  exact fn_gd rfl (fn_mp e)
set_option maxRecDepth 100000 in
theorem ok_X11_doubtOf : am_mok 11 170 m_X11_doubtOf = true := by decide +kernel
set_option maxRecDepth 100000 in
theorem c_X11_doubtOf (l : Launch) {g : am_G} (hg : fx_ l g) : am_Met l g 4 170 (fn_s fn_F G_X11_doubtOf) := by
  refine am_sound (own := 11) (M := m_X11_doubtOf) (SP := sp_X11_doubtOf) hg.1 (by decide +kernel) ok_X11_doubtOf (by decide +kernel) ?_ (fun q hq hk => absurd hk (am_no61 (M := m_X11_doubtOf) (by decide +kernel) q hq)) (fn_ext l _ rfl g 11) (Or.inl (by decide +kernel)) ?_ ?_
  · intro q hq hk
    have hm : q.2.2.2.1 ∈ am_cs m_X11_doubtOf := am_cs_in hq hk
    rw [show am_cs m_X11_doubtOf = [181, 182, 4, 3] by decide +kernel] at hm
    have hm : q.2.2.2.1 ∈ [3, 4, 181, 182] := (List.all_eq_true.mp (show ([181, 182, 4, 3] : List Nat).all (fun a => decide (a ∈ ([3, 4, 181, 182] : List Nat))) = true by decide +kernel) _ hm |> of_decide_eq_true)
    simp only [List.mem_cons, List.not_mem_nil, or_false] at hm
    rcases hm with hm | hm | hm | hm
    · rw [hm]; exact ⟨3, by omega, c_X0_waysFrom l hg⟩
    · rw [hm]; exact ⟨3, by omega, c_X0_waysAsGood l hg⟩
    · rw [hm]; exact ⟨0, by omega, c_X11_isDay l hg⟩
    · rw [hm]; exact ⟨0, by omega, c_X11_isUnder l hg⟩
  · intro as w K h
    obtain ⟨hf, y, m1, hG, hK⟩ := h
    unfold G_X11_doubtOf at hG
    split at hG
    · exact Nat.le_of_ble_eq_true rfl
    · cases hG
  · intro as w K h
    obtain ⟨n, i0, l0, r⟩ := w
    obtain ⟨hf, y, m1, hG, hK⟩ := h
    unfold G_X11_doubtOf at hG
    split at hG
    · next x0 p1 p2 =>
      obtain ⟨hx1, hG1⟩ := gd_u hG
      obtain rfl := Nat.eq_of_beq_eq_true hx1
      obtain ⟨q, hq, he⟩ := fn_mu hG1
      obtain ⟨rfl, rfl⟩ := Prod.mk.inj he
      exact t_X11_doubtOf  hf  p1 p2 (m := (i0, l0)) hq hK
    · cases hG

/-! == X11_trip == -/
noncomputable def f_X11_trip (p1 : Int32) (p2 : Int32) (p3 : Int32) (p4 : Int32) (p5 : Int32) (m : fm_) : Option (Int32 × fm_) :=
  (if p1 = p2 then
((some ((-1), m)))
else
(Option.bind (f_X9_near p1 p2 m) fun q4 =>
(if 1000000 ≤ q4.1 then
((some ((-1), q4.2)))
else
(if p3 < 1 then
((some ((-1), q4.2)))
else
(if 99 < p3 then
((some ((-1), q4.2)))
else
(if p4 < 1 then
((some ((-1), q4.2)))
else
(if 99 < p4 then
((some ((-1), q4.2)))
else
(Option.bind (f_X11_isUnder p5 10 q4.2) fun q22 =>
(if q22.1 = 0 then
((some ((-1), q22.2)))
else
(Option.bind (f_X10_add p1 p2 p3 p4 p5 q22.2) fun q29 =>
((some (q29.1, q29.2)))))))))))))
def sp_X11_trip : am_S := fn_sp [(118, fn_T, G_X9_near), (182, fn_0, G_X11_isUnder), (136, fn_F, G_X10_add)]
theorem sm_X11_trip : am_Smono (sp_X11_trip) := fn_sp_mono _
set_option maxRecDepth 100000 in
theorem t_X11_trip {n : Nat} {r : Nat → Nat → Option Nat} (hf : fn_F n r) {q : Int32 × fm_} (p1 : Int32) (p2 : Int32) (p3 : Int32) (p4 : Int32) (p5 : Int32) {m : fm_}
  (h : f_X11_trip p1 p2 p3 p4 p5 m = some q) {Q : Option Value → am_W → Prop} (hQ : Q (en_i q).1 (mk_ n r q.2)) : am_T m_X11_trip sp_X11_trip n Q 0 [some (.ref 0), some (.int p1), some (.int p2), some (.int p3), some (.int p4), some (.int p5), none] [] (mk_ n r m) :=
  am_T.wp sm_X11_trip (K := am_T m_X11_trip sp_X11_trip n Q) (cuts := []) (fun _ _ _ _ h => h) 42
    (fh_if h (fun c1 h2 => ⟨fun c3 => ⟨rfl, fh_rt h2 hQ⟩, fun c3 => absurd c3 (by decide)⟩) (fun c1 h2 => ⟨fn_aF hf rfl rfl, Or.inl ⟨_, hf.2 0 1 6 rfl, fh_bd h2 fun q4 e5 h6 => ⟨Nat.le_of_ble_eq_true rfl, fn_aF hf rfl rfl, ⟨fn_FT hf, some (.int q4.1), q4.2, gp_X9_near (n := n) (r := r)  e5, fun _ => fh_if h6 (fun c7 h8 => ⟨fun c9 => ⟨rfl, fh_rt h8 hQ⟩, fun c9 => absurd c9 (by decide)⟩) (fun c7 h8 => fh_if h8 (fun c10 h11 => ⟨fun c12 => ⟨rfl, fh_rt h11 hQ⟩, fun c12 => absurd c12 (by decide)⟩) (fun c10 h11 => fh_if h11 (fun c13 h14 => ⟨fun c15 => ⟨rfl, fh_rt h14 hQ⟩, fun c15 => absurd c15 (by decide)⟩) (fun c13 h14 => fh_if h14 (fun c16 h17 => ⟨fun c18 => ⟨rfl, fh_rt h17 hQ⟩, fun c18 => absurd c18 (by decide)⟩) (fun c16 h17 => fh_if h17 (fun c19 h20 => ⟨fun c21 => ⟨rfl, fh_rt h20 hQ⟩, fun c21 => absurd c21 (by decide)⟩) (fun c19 h20 => fh_bd h20 fun q22 e23 h24 => ⟨Nat.le_of_ble_eq_true rfl, trivial, ⟨trivial, some (.int q22.1), q22.2, gp_X11_isUnder (n := n) (r := r)  e23, fun _ => fh_if h24 (fun c25 h26 => ⟨fun c27 => ⟨rfl, fh_rt h26 hQ⟩, fun c27 => absurd c27 (by decide)⟩) (fun c25 h26 => ⟨fun c28 => absurd c28 (by decide), fun c28 => ⟨fn_aF hf rfl rfl, Or.inl ⟨_, hf.2 0 10 98 rfl, fh_bd h26 fun q29 e30 h31 => ⟨Nat.le_of_ble_eq_true rfl, fn_aF hf rfl rfl, ⟨hf, some (.int q29.1), q29.2, gp_X10_add (n := n) (r := r)  e30, fun _ => ⟨rfl, fh_rt h31 hQ⟩⟩⟩⟩⟩⟩)⟩⟩)))))⟩⟩⟩⟩))
noncomputable def G_X11_trip (n : Nat) (r : Nat → Nat → Option Nat) (as : List Value) (m : fm_) : Option (Option Value × fm_) := match as with
  | [.ref x0, .int p1, .int p2, .int p3, .int p4, .int p5] => gd_ (Nat.beq x0 0) ((f_X11_trip p1 p2 p3 p4 p5 m).map en_i)
  | _ => none
set_option maxRecDepth 100000 in
theorem gp_X11_trip {n : Nat} {r : Nat → Nat → Option Nat}  {p1 : Int32} {p2 : Int32} {p3 : Int32} {p4 : Int32} {p5 : Int32} {m : fm_} {q : Int32 × fm_}  (e : f_X11_trip p1 p2 p3 p4 p5 m = some q) : G_X11_trip n r [.ref 0, .int p1, .int p2, .int p3, .int p4, .int p5] m = some (en_i q) := by
  show (gd_ (Nat.beq 0 0) ((f_X11_trip p1 p2 p3 p4 p5 m).map en_i)) = _
  exact fn_gd rfl (fn_mp e)
set_option maxRecDepth 100000 in
theorem ok_X11_trip : am_mok 11 171 m_X11_trip = true := by decide +kernel
set_option maxRecDepth 100000 in
theorem c_X11_trip (l : Launch) {g : am_G} (hg : fx_ l g) : am_Met l g 2 171 (fn_s fn_F G_X11_trip) := by
  refine am_sound (own := 11) (M := m_X11_trip) (SP := sp_X11_trip) hg.1 (by decide +kernel) ok_X11_trip (by decide +kernel) ?_ (fun q hq hk => absurd hk (am_no61 (M := m_X11_trip) (by decide +kernel) q hq)) (fn_ext l _ rfl g 11) (Or.inl (by decide +kernel)) ?_ ?_
  · intro q hq hk
    have hm : q.2.2.2.1 ∈ am_cs m_X11_trip := am_cs_in hq hk
    rw [show am_cs m_X11_trip = [118, 182, 136] by decide +kernel] at hm
    have hm : q.2.2.2.1 ∈ [118, 136, 182] := (List.all_eq_true.mp (show ([118, 182, 136] : List Nat).all (fun a => decide (a ∈ ([118, 136, 182] : List Nat))) = true by decide +kernel) _ hm |> of_decide_eq_true)
    simp only [List.mem_cons, List.not_mem_nil, or_false] at hm
    rcases hm with hm | hm | hm
    · rw [hm]; exact ⟨1, by omega, c_X9_near l hg⟩
    · rw [hm]; exact ⟨0, by omega, c_X10_add l hg⟩
    · rw [hm]; exact ⟨0, by omega, c_X11_isUnder l hg⟩
  · intro as w K h
    obtain ⟨hf, y, m1, hG, hK⟩ := h
    unfold G_X11_trip at hG
    split at hG
    · exact Nat.le_of_ble_eq_true rfl
    · cases hG
  · intro as w K h
    obtain ⟨n, i0, l0, r⟩ := w
    obtain ⟨hf, y, m1, hG, hK⟩ := h
    unfold G_X11_trip at hG
    split at hG
    · next x0 p1 p2 p3 p4 p5 =>
      obtain ⟨hx1, hG1⟩ := gd_u hG
      obtain rfl := Nat.eq_of_beq_eq_true hx1
      obtain ⟨q, hq, he⟩ := fn_mu hG1
      obtain ⟨rfl, rfl⟩ := Prod.mk.inj he
      exact t_X11_trip  hf  p1 p2 p3 p4 p5 (m := (i0, l0)) hq hK
    · cases hG

/-! == X11_minutes == -/
noncomputable def f_X11_minutes (p1 : Int32) (p2 : Int32) (p3 : Int32) (m : fm_) : Option (Int32 × fm_) :=
  (Option.bind (f_X11_isUnder p1 (gi_ m 98 7) m) fun q1 =>
(if q1.1 = 0 then
((some ((-1), q1.2)))
else
(Option.bind (f_X11_isDay p2 q1.2) fun q6 =>
(if q6.1 = 0 then
((some ((-1), q6.2)))
else
(Option.bind (f_X10_follow p1 p2 p3 q6.2) fun q11 =>
((some ((gi_ q11.2 98 11), q11.2))))))))
def sp_X11_minutes : am_S := fn_sp [(182, fn_0, G_X11_isUnder), (181, fn_0, G_X11_isDay), (137, fn_F, G_X10_follow)]
theorem sm_X11_minutes : am_Smono (sp_X11_minutes) := fn_sp_mono _
set_option maxRecDepth 100000 in
theorem t_X11_minutes {n : Nat} {r : Nat → Nat → Option Nat} (hf : fn_F n r) {q : Int32 × fm_} (p1 : Int32) (p2 : Int32) (p3 : Int32) {m : fm_}
  (h : f_X11_minutes p1 p2 p3 m = some q) {Q : Option Value → am_W → Prop} (hQ : Q (en_i q).1 (mk_ n r q.2)) : am_T m_X11_minutes sp_X11_minutes n Q 0 [some (.ref 0), some (.int p1), some (.int p2), some (.int p3)] [] (mk_ n r m) :=
  am_T.wp sm_X11_minutes (K := am_T m_X11_minutes sp_X11_minutes n Q) (cuts := []) (fun _ _ _ _ h => h) 20
    (⟨fn_aF hf rfl rfl, Or.inl ⟨_, hf.2 0 10 98 rfl, ⟨fn_aF hf rfl rfl, fh_bd h fun q1 e2 h3 => ⟨Nat.le_of_ble_eq_true rfl, trivial, ⟨trivial, some (.int q1.1), q1.2, gp_X11_isUnder (n := n) (r := r)  e2, fun _ => fh_if h3 (fun c4 h5 => ⟨rfl, fh_rt h5 hQ⟩) (fun c4 h5 => fh_bd h5 fun q6 e7 h8 => ⟨Nat.le_of_ble_eq_true rfl, trivial, ⟨trivial, some (.int q6.1), q6.2, gp_X11_isDay (n := n) (r := r)  e7, fun _ => fh_in h8 (fun c9 h10 => ⟨fn_aF hf rfl rfl, Or.inl ⟨_, hf.2 0 10 98 rfl, fh_bd h10 fun q11 e12 h13 => ⟨Nat.le_of_ble_eq_true rfl, fn_aF hf rfl rfl, ⟨hf, none, q11.2, gp_X10_follow (n := n) (r := r)  e12, fun _ => ⟨rfl, ⟨fn_aF hf rfl rfl, Or.inl ⟨_, hf.2 0 10 98 rfl, ⟨fn_aF hf rfl rfl, ⟨rfl, fh_rt h13 hQ⟩⟩⟩⟩⟩⟩⟩⟩⟩) (fun c9 h10 => ⟨rfl, fh_rt h10 hQ⟩)⟩⟩)⟩⟩⟩⟩⟩)
noncomputable def G_X11_minutes (n : Nat) (r : Nat → Nat → Option Nat) (as : List Value) (m : fm_) : Option (Option Value × fm_) := match as with
  | [.ref x0, .int p1, .int p2, .int p3] => gd_ (Nat.beq x0 0) ((f_X11_minutes p1 p2 p3 m).map en_i)
  | _ => none
set_option maxRecDepth 100000 in
theorem gp_X11_minutes {n : Nat} {r : Nat → Nat → Option Nat}  {p1 : Int32} {p2 : Int32} {p3 : Int32} {m : fm_} {q : Int32 × fm_}  (e : f_X11_minutes p1 p2 p3 m = some q) : G_X11_minutes n r [.ref 0, .int p1, .int p2, .int p3] m = some (en_i q) := by
  show (gd_ (Nat.beq 0 0) ((f_X11_minutes p1 p2 p3 m).map en_i)) = _
  exact fn_gd rfl (fn_mp e)
set_option maxRecDepth 100000 in
theorem ok_X11_minutes : am_mok 11 172 m_X11_minutes = true := by decide +kernel
set_option maxRecDepth 100000 in
theorem c_X11_minutes (l : Launch) {g : am_G} (hg : fx_ l g) : am_Met l g 5 172 (fn_s fn_F G_X11_minutes) := by
  refine am_sound (own := 11) (M := m_X11_minutes) (SP := sp_X11_minutes) hg.1 (by decide +kernel) ok_X11_minutes (by decide +kernel) ?_ (fun q hq hk => absurd hk (am_no61 (M := m_X11_minutes) (by decide +kernel) q hq)) (fn_ext l _ rfl g 11) (Or.inl (by decide +kernel)) ?_ ?_
  · intro q hq hk
    have hm : q.2.2.2.1 ∈ am_cs m_X11_minutes := am_cs_in hq hk
    rw [show am_cs m_X11_minutes = [182, 181, 137] by decide +kernel] at hm
    have hm : q.2.2.2.1 ∈ [137, 181, 182] := (List.all_eq_true.mp (show ([182, 181, 137] : List Nat).all (fun a => decide (a ∈ ([137, 181, 182] : List Nat))) = true by decide +kernel) _ hm |> of_decide_eq_true)
    simp only [List.mem_cons, List.not_mem_nil, or_false] at hm
    rcases hm with hm | hm | hm
    · rw [hm]; exact ⟨4, by omega, c_X10_follow l hg⟩
    · rw [hm]; exact ⟨0, by omega, c_X11_isDay l hg⟩
    · rw [hm]; exact ⟨0, by omega, c_X11_isUnder l hg⟩
  · intro as w K h
    obtain ⟨hf, y, m1, hG, hK⟩ := h
    unfold G_X11_minutes at hG
    split at hG
    · exact Nat.le_of_ble_eq_true rfl
    · cases hG
  · intro as w K h
    obtain ⟨n, i0, l0, r⟩ := w
    obtain ⟨hf, y, m1, hG, hK⟩ := h
    unfold G_X11_minutes at hG
    split at hG
    · next x0 p1 p2 p3 =>
      obtain ⟨hx1, hG1⟩ := gd_u hG
      obtain rfl := Nat.eq_of_beq_eq_true hx1
      obtain ⟨q, hq, he⟩ := fn_mu hG1
      obtain ⟨rfl, rfl⟩ := Prod.mk.inj he
      exact t_X11_minutes  hf  p1 p2 p3 (m := (i0, l0)) hq hK
    · cases hG

/-! == X11_via == -/
noncomputable def f_X11_via (p1 : Int32) (p2 : Int32) (p3 : Int32) (p4 : Int32) (m : fm_) : Option (Int32 × fm_) :=
  (Option.bind (f_X11_isUnder p1 (gi_ m 98 7) m) fun q1 =>
(if q1.1 = 0 then
((some ((-1), q1.2)))
else
(Option.bind (f_X11_isDay p2 q1.2) fun q6 =>
(if q6.1 = 0 then
((some ((-1), q6.2)))
else
(Option.bind (f_X10_follow p1 p2 p3 q6.2) fun q11 =>
(Option.bind (f_X11_isUnder p4 (gi_ q11.2 98 9) q11.2) fun q14 =>
(if q14.1 = 0 then
((some ((-1), q14.2)))
else
(gd_ (ix_ p4 12)
((some ((gi_ q14.2 104 (Int32.toNatClampNeg p4)), q14.2)))))))))))
def sp_X11_via : am_S := fn_sp [(182, fn_0, G_X11_isUnder), (181, fn_0, G_X11_isDay), (137, fn_F, G_X10_follow)]
theorem sm_X11_via : am_Smono (sp_X11_via) := fn_sp_mono _
set_option maxRecDepth 100000 in
theorem t_X11_via {n : Nat} {r : Nat → Nat → Option Nat} (hf : fn_F n r) {q : Int32 × fm_} (p1 : Int32) (p2 : Int32) (p3 : Int32) (p4 : Int32) {m : fm_}
  (h : f_X11_via p1 p2 p3 p4 m = some q) {Q : Option Value → am_W → Prop} (hQ : Q (en_i q).1 (mk_ n r q.2)) : am_T m_X11_via sp_X11_via n Q 0 [some (.ref 0), some (.int p1), some (.int p2), some (.int p3), some (.int p4)] [] (mk_ n r m) :=
  am_T.wp sm_X11_via (K := am_T m_X11_via sp_X11_via n Q) (cuts := []) (fun _ _ _ _ h => h) 29
    (⟨fn_aF hf rfl rfl, Or.inl ⟨_, hf.2 0 10 98 rfl, ⟨fn_aF hf rfl rfl, fh_bd h fun q1 e2 h3 => ⟨Nat.le_of_ble_eq_true rfl, trivial, ⟨trivial, some (.int q1.1), q1.2, gp_X11_isUnder (n := n) (r := r)  e2, fun _ => fh_if h3 (fun c4 h5 => ⟨rfl, fh_rt h5 hQ⟩) (fun c4 h5 => fh_bd h5 fun q6 e7 h8 => ⟨Nat.le_of_ble_eq_true rfl, trivial, ⟨trivial, some (.int q6.1), q6.2, gp_X11_isDay (n := n) (r := r)  e7, fun _ => fh_in h8 (fun c9 h10 => ⟨fn_aF hf rfl rfl, Or.inl ⟨_, hf.2 0 10 98 rfl, fh_bd h10 fun q11 e12 h13 => ⟨Nat.le_of_ble_eq_true rfl, fn_aF hf rfl rfl, ⟨hf, none, q11.2, gp_X10_follow (n := n) (r := r)  e12, fun _ => ⟨rfl, ⟨fn_aF hf rfl rfl, Or.inl ⟨_, hf.2 0 10 98 rfl, ⟨fn_aF hf rfl rfl, fh_bd h13 fun q14 e15 h16 => ⟨Nat.le_of_ble_eq_true rfl, trivial, ⟨trivial, some (.int q14.1), q14.2, gp_X11_isUnder (n := n) (r := r)  e15, fun _ => fh_if h16 (fun c17 h18 => ⟨rfl, fh_rt h18 hQ⟩) (fun c17 h18 => ⟨fn_aF hf rfl rfl, Or.inl ⟨_, hf.2 0 10 98 rfl, ⟨fn_aF hf rfl rfl, Or.inl ⟨_, hf.2 98 8 104 rfl, fh_gd h18 fun g20 h19 => ⟨12, fn_aF hf rfl rfl, ix_t g20, ⟨rfl, fh_rt h19 hQ⟩⟩⟩⟩⟩⟩)⟩⟩⟩⟩⟩⟩⟩⟩⟩⟩) (fun c9 h10 => ⟨rfl, fh_rt h10 hQ⟩)⟩⟩)⟩⟩⟩⟩⟩)
noncomputable def G_X11_via (n : Nat) (r : Nat → Nat → Option Nat) (as : List Value) (m : fm_) : Option (Option Value × fm_) := match as with
  | [.ref x0, .int p1, .int p2, .int p3, .int p4] => gd_ (Nat.beq x0 0) ((f_X11_via p1 p2 p3 p4 m).map en_i)
  | _ => none
set_option maxRecDepth 100000 in
theorem gp_X11_via {n : Nat} {r : Nat → Nat → Option Nat}  {p1 : Int32} {p2 : Int32} {p3 : Int32} {p4 : Int32} {m : fm_} {q : Int32 × fm_}  (e : f_X11_via p1 p2 p3 p4 m = some q) : G_X11_via n r [.ref 0, .int p1, .int p2, .int p3, .int p4] m = some (en_i q) := by
  show (gd_ (Nat.beq 0 0) ((f_X11_via p1 p2 p3 p4 m).map en_i)) = _
  exact fn_gd rfl (fn_mp e)
set_option maxRecDepth 100000 in
theorem ok_X11_via : am_mok 11 173 m_X11_via = true := by decide +kernel
set_option maxRecDepth 100000 in
theorem c_X11_via (l : Launch) {g : am_G} (hg : fx_ l g) : am_Met l g 5 173 (fn_s fn_F G_X11_via) := by
  refine am_sound (own := 11) (M := m_X11_via) (SP := sp_X11_via) hg.1 (by decide +kernel) ok_X11_via (by decide +kernel) ?_ (fun q hq hk => absurd hk (am_no61 (M := m_X11_via) (by decide +kernel) q hq)) (fn_ext l _ rfl g 11) (Or.inl (by decide +kernel)) ?_ ?_
  · intro q hq hk
    have hm : q.2.2.2.1 ∈ am_cs m_X11_via := am_cs_in hq hk
    rw [show am_cs m_X11_via = [182, 181, 137, 182] by decide +kernel] at hm
    have hm : q.2.2.2.1 ∈ [137, 181, 182] := (List.all_eq_true.mp (show ([182, 181, 137, 182] : List Nat).all (fun a => decide (a ∈ ([137, 181, 182] : List Nat))) = true by decide +kernel) _ hm |> of_decide_eq_true)
    simp only [List.mem_cons, List.not_mem_nil, or_false] at hm
    rcases hm with hm | hm | hm
    · rw [hm]; exact ⟨4, by omega, c_X10_follow l hg⟩
    · rw [hm]; exact ⟨0, by omega, c_X11_isDay l hg⟩
    · rw [hm]; exact ⟨0, by omega, c_X11_isUnder l hg⟩
  · intro as w K h
    obtain ⟨hf, y, m1, hG, hK⟩ := h
    unfold G_X11_via at hG
    split at hG
    · exact Nat.le_of_ble_eq_true rfl
    · cases hG
  · intro as w K h
    obtain ⟨n, i0, l0, r⟩ := w
    obtain ⟨hf, y, m1, hG, hK⟩ := h
    unfold G_X11_via at hG
    split at hG
    · next x0 p1 p2 p3 p4 =>
      obtain ⟨hx1, hG1⟩ := gd_u hG
      obtain rfl := Nat.eq_of_beq_eq_true hx1
      obtain ⟨q, hq, he⟩ := fn_mu hG1
      obtain ⟨rfl, rfl⟩ := Prod.mk.inj he
      exact t_X11_via  hf  p1 p2 p3 p4 (m := (i0, l0)) hq hK
    · cases hG

/-! == X11_load == -/
noncomputable def f_X11_load (p1 : Int32) (p2 : Int32) (p3 : Int32) (m : fm_) : Option (Int32 × fm_) :=
  (Option.bind (f_X11_isUnder p1 (gi_ m 6 3) m) fun q1 =>
(if q1.1 = 0 then
((some ((-1), q1.2)))
else
(Option.bind (f_X11_isDay p2 q1.2) fun q6 =>
(if q6.1 = 0 then
((some ((-1), q6.2)))
else
(Option.bind (f_X10_carsOn p1 p2 p3 q6.2) fun q11 =>
((some (q11.1, q11.2))))))))
def sp_X11_load : am_S := fn_sp [(182, fn_0, G_X11_isUnder), (181, fn_0, G_X11_isDay), (138, fn_F, G_X10_carsOn)]
theorem sm_X11_load : am_Smono (sp_X11_load) := fn_sp_mono _
set_option maxRecDepth 100000 in
theorem t_X11_load {n : Nat} {r : Nat → Nat → Option Nat} (hf : fn_F n r) {q : Int32 × fm_} (p1 : Int32) (p2 : Int32) (p3 : Int32) {m : fm_}
  (h : f_X11_load p1 p2 p3 m = some q) {Q : Option Value → am_W → Prop} (hQ : Q (en_i q).1 (mk_ n r q.2)) : am_T m_X11_load sp_X11_load n Q 0 [some (.ref 0), some (.int p1), some (.int p2), some (.int p3)] [] (mk_ n r m) :=
  am_T.wp sm_X11_load (K := am_T m_X11_load sp_X11_load n Q) (cuts := []) (fun _ _ _ _ h => h) 18
    (⟨fn_aF hf rfl rfl, Or.inl ⟨_, hf.2 0 1 6 rfl, ⟨fn_aF hf rfl rfl, fh_bd h fun q1 e2 h3 => ⟨Nat.le_of_ble_eq_true rfl, trivial, ⟨trivial, some (.int q1.1), q1.2, gp_X11_isUnder (n := n) (r := r)  e2, fun _ => fh_if h3 (fun c4 h5 => ⟨rfl, fh_rt h5 hQ⟩) (fun c4 h5 => fh_bd h5 fun q6 e7 h8 => ⟨Nat.le_of_ble_eq_true rfl, trivial, ⟨trivial, some (.int q6.1), q6.2, gp_X11_isDay (n := n) (r := r)  e7, fun _ => fh_if h8 (fun c9 h10 => ⟨rfl, fh_rt h10 hQ⟩) (fun c9 h10 => ⟨fn_aF hf rfl rfl, Or.inl ⟨_, hf.2 0 10 98 rfl, fh_bd h10 fun q11 e12 h13 => ⟨Nat.le_of_ble_eq_true rfl, fn_aF hf rfl rfl, ⟨hf, some (.int q11.1), q11.2, gp_X10_carsOn (n := n) (r := r)  e12, fun _ => ⟨rfl, fh_rt h13 hQ⟩⟩⟩⟩⟩)⟩⟩)⟩⟩⟩⟩⟩)
noncomputable def G_X11_load (n : Nat) (r : Nat → Nat → Option Nat) (as : List Value) (m : fm_) : Option (Option Value × fm_) := match as with
  | [.ref x0, .int p1, .int p2, .int p3] => gd_ (Nat.beq x0 0) ((f_X11_load p1 p2 p3 m).map en_i)
  | _ => none
set_option maxRecDepth 100000 in
theorem gp_X11_load {n : Nat} {r : Nat → Nat → Option Nat}  {p1 : Int32} {p2 : Int32} {p3 : Int32} {m : fm_} {q : Int32 × fm_}  (e : f_X11_load p1 p2 p3 m = some q) : G_X11_load n r [.ref 0, .int p1, .int p2, .int p3] m = some (en_i q) := by
  show (gd_ (Nat.beq 0 0) ((f_X11_load p1 p2 p3 m).map en_i)) = _
  exact fn_gd rfl (fn_mp e)
set_option maxRecDepth 100000 in
theorem ok_X11_load : am_mok 11 174 m_X11_load = true := by decide +kernel
set_option maxRecDepth 100000 in
theorem c_X11_load (l : Launch) {g : am_G} (hg : fx_ l g) : am_Met l g 6 174 (fn_s fn_F G_X11_load) := by
  refine am_sound (own := 11) (M := m_X11_load) (SP := sp_X11_load) hg.1 (by decide +kernel) ok_X11_load (by decide +kernel) ?_ (fun q hq hk => absurd hk (am_no61 (M := m_X11_load) (by decide +kernel) q hq)) (fn_ext l _ rfl g 11) (Or.inl (by decide +kernel)) ?_ ?_
  · intro q hq hk
    have hm : q.2.2.2.1 ∈ am_cs m_X11_load := am_cs_in hq hk
    rw [show am_cs m_X11_load = [182, 181, 138] by decide +kernel] at hm
    have hm : q.2.2.2.1 ∈ [138, 181, 182] := (List.all_eq_true.mp (show ([182, 181, 138] : List Nat).all (fun a => decide (a ∈ ([138, 181, 182] : List Nat))) = true by decide +kernel) _ hm |> of_decide_eq_true)
    simp only [List.mem_cons, List.not_mem_nil, or_false] at hm
    rcases hm with hm | hm | hm
    · rw [hm]; exact ⟨5, by omega, c_X10_carsOn l hg⟩
    · rw [hm]; exact ⟨0, by omega, c_X11_isDay l hg⟩
    · rw [hm]; exact ⟨0, by omega, c_X11_isUnder l hg⟩
  · intro as w K h
    obtain ⟨hf, y, m1, hG, hK⟩ := h
    unfold G_X11_load at hG
    split at hG
    · exact Nat.le_of_ble_eq_true rfl
    · cases hG
  · intro as w K h
    obtain ⟨n, i0, l0, r⟩ := w
    obtain ⟨hf, y, m1, hG, hK⟩ := h
    unfold G_X11_load at hG
    split at hG
    · next x0 p1 p2 p3 =>
      obtain ⟨hx1, hG1⟩ := gd_u hG
      obtain rfl := Nat.eq_of_beq_eq_true hx1
      obtain ⟨q, hq, he⟩ := fn_mu hG1
      obtain ⟨rfl, rfl⟩ := Prod.mk.inj he
      exact t_X11_load  hf  p1 p2 p3 (m := (i0, l0)) hq hK
    · cases hG

/-! == X11_around == -/
noncomputable def f_X11_around (p1 : Int32) (m : fm_) : Option (Int32 × fm_) :=
  (Option.bind (f_X11_isDay p1 m) fun q1 =>
(if q1.1 = 0 then
((some ((-1), q1.2)))
else
(Option.bind (f_X10_carsAround p1 q1.2) fun q6 =>
((some (q6.1, q6.2))))))
def sp_X11_around : am_S := fn_sp [(181, fn_0, G_X11_isDay), (139, fn_F, G_X10_carsAround)]
theorem sm_X11_around : am_Smono (sp_X11_around) := fn_sp_mono _
set_option maxRecDepth 100000 in
theorem t_X11_around {n : Nat} {r : Nat → Nat → Option Nat} (hf : fn_F n r) {q : Int32 × fm_} (p1 : Int32) {m : fm_}
  (h : f_X11_around p1 m = some q) {Q : Option Value → am_W → Prop} (hQ : Q (en_i q).1 (mk_ n r q.2)) : am_T m_X11_around sp_X11_around n Q 0 [some (.ref 0), some (.int p1)] [] (mk_ n r m) :=
  am_T.wp sm_X11_around (K := am_T m_X11_around sp_X11_around n Q) (cuts := []) (fun _ _ _ _ h => h) 10
    (fh_bd h fun q1 e2 h3 => ⟨Nat.le_of_ble_eq_true rfl, trivial, ⟨trivial, some (.int q1.1), q1.2, gp_X11_isDay (n := n) (r := r)  e2, fun _ => fh_if h3 (fun c4 h5 => ⟨rfl, fh_rt h5 hQ⟩) (fun c4 h5 => ⟨fn_aF hf rfl rfl, Or.inl ⟨_, hf.2 0 10 98 rfl, fh_bd h5 fun q6 e7 h8 => ⟨Nat.le_of_ble_eq_true rfl, fn_aF hf rfl rfl, ⟨hf, some (.int q6.1), q6.2, gp_X10_carsAround (n := n) (r := r)  e7, fun _ => ⟨rfl, fh_rt h8 hQ⟩⟩⟩⟩⟩)⟩⟩)
noncomputable def G_X11_around (n : Nat) (r : Nat → Nat → Option Nat) (as : List Value) (m : fm_) : Option (Option Value × fm_) := match as with
  | [.ref x0, .int p1] => gd_ (Nat.beq x0 0) ((f_X11_around p1 m).map en_i)
  | _ => none
set_option maxRecDepth 100000 in
theorem gp_X11_around {n : Nat} {r : Nat → Nat → Option Nat}  {p1 : Int32} {m : fm_} {q : Int32 × fm_}  (e : f_X11_around p1 m = some q) : G_X11_around n r [.ref 0, .int p1] m = some (en_i q) := by
  show (gd_ (Nat.beq 0 0) ((f_X11_around p1 m).map en_i)) = _
  exact fn_gd rfl (fn_mp e)
set_option maxRecDepth 100000 in
theorem ok_X11_around : am_mok 11 175 m_X11_around = true := by decide +kernel
set_option maxRecDepth 100000 in
theorem c_X11_around (l : Launch) {g : am_G} (hg : fx_ l g) : am_Met l g 6 175 (fn_s fn_F G_X11_around) := by
  refine am_sound (own := 11) (M := m_X11_around) (SP := sp_X11_around) hg.1 (by decide +kernel) ok_X11_around (by decide +kernel) ?_ (fun q hq hk => absurd hk (am_no61 (M := m_X11_around) (by decide +kernel) q hq)) (fn_ext l _ rfl g 11) (Or.inl (by decide +kernel)) ?_ ?_
  · intro q hq hk
    have hm : q.2.2.2.1 ∈ am_cs m_X11_around := am_cs_in hq hk
    rw [show am_cs m_X11_around = [181, 139] by decide +kernel] at hm
    have hm : q.2.2.2.1 ∈ [139, 181] := (List.all_eq_true.mp (show ([181, 139] : List Nat).all (fun a => decide (a ∈ ([139, 181] : List Nat))) = true by decide +kernel) _ hm |> of_decide_eq_true)
    simp only [List.mem_cons, List.not_mem_nil, or_false] at hm
    rcases hm with hm | hm
    · rw [hm]; exact ⟨5, by omega, c_X10_carsAround l hg⟩
    · rw [hm]; exact ⟨0, by omega, c_X11_isDay l hg⟩
  · intro as w K h
    obtain ⟨hf, y, m1, hG, hK⟩ := h
    unfold G_X11_around at hG
    split at hG
    · exact Nat.le_of_ble_eq_true rfl
    · cases hG
  · intro as w K h
    obtain ⟨n, i0, l0, r⟩ := w
    obtain ⟨hf, y, m1, hG, hK⟩ := h
    unfold G_X11_around at hG
    split at hG
    · next x0 p1 =>
      obtain ⟨hx1, hG1⟩ := gd_u hG
      obtain rfl := Nat.eq_of_beq_eq_true hx1
      obtain ⟨q, hq, he⟩ := fn_mu hG1
      obtain ⟨rfl, rfl⟩ := Prod.mk.inj he
      exact t_X11_around  hf  p1 (m := (i0, l0)) hq hK
    · cases hG

/-! == X11_view == -/
noncomputable def f_X11_view (p1 : Int32) (p2 : Int32) (m : fm_) : Option (Int32 × fm_) :=
  (Option.bind (f_X11_isDay p1 m) fun q1 =>
(if q1.1 = 0 then
((some ((-1), q1.2)))
else
(Option.bind (f_X11_isUnder p2 4 q1.2) fun q6 =>
(if q6.1 = 0 then
((some ((-1), q6.2)))
else
(Option.bind (f_X10_placeCameras p1 p2 q6.2) fun q11 =>
((some ((gi_ q11.2 98 13), q11.2))))))))
def sp_X11_view : am_S := fn_sp [(181, fn_0, G_X11_isDay), (182, fn_0, G_X11_isUnder), (140, fn_F, G_X10_placeCameras)]
theorem sm_X11_view : am_Smono (sp_X11_view) := fn_sp_mono _
set_option maxRecDepth 100000 in
theorem t_X11_view {n : Nat} {r : Nat → Nat → Option Nat} (hf : fn_F n r) {q : Int32 × fm_} (p1 : Int32) (p2 : Int32) {m : fm_}
  (h : f_X11_view p1 p2 m = some q) {Q : Option Value → am_W → Prop} (hQ : Q (en_i q).1 (mk_ n r q.2)) : am_T m_X11_view sp_X11_view n Q 0 [some (.ref 0), some (.int p1), some (.int p2)] [] (mk_ n r m) :=
  am_T.wp sm_X11_view (K := am_T m_X11_view sp_X11_view n Q) (cuts := []) (fun _ _ _ _ h => h) 17
    (fh_bd h fun q1 e2 h3 => ⟨Nat.le_of_ble_eq_true rfl, trivial, ⟨trivial, some (.int q1.1), q1.2, gp_X11_isDay (n := n) (r := r)  e2, fun _ => fh_if h3 (fun c4 h5 => ⟨rfl, fh_rt h5 hQ⟩) (fun c4 h5 => fh_bd h5 fun q6 e7 h8 => ⟨Nat.le_of_ble_eq_true rfl, trivial, ⟨trivial, some (.int q6.1), q6.2, gp_X11_isUnder (n := n) (r := r)  e7, fun _ => fh_in h8 (fun c9 h10 => ⟨fn_aF hf rfl rfl, Or.inl ⟨_, hf.2 0 10 98 rfl, fh_bd h10 fun q11 e12 h13 => ⟨Nat.le_of_ble_eq_true rfl, fn_aF hf rfl rfl, ⟨hf, none, q11.2, gp_X10_placeCameras (n := n) (r := r)  e12, fun _ => ⟨rfl, ⟨fn_aF hf rfl rfl, Or.inl ⟨_, hf.2 0 10 98 rfl, ⟨fn_aF hf rfl rfl, ⟨rfl, fh_rt h13 hQ⟩⟩⟩⟩⟩⟩⟩⟩⟩) (fun c9 h10 => ⟨rfl, fh_rt h10 hQ⟩)⟩⟩)⟩⟩)
noncomputable def G_X11_view (n : Nat) (r : Nat → Nat → Option Nat) (as : List Value) (m : fm_) : Option (Option Value × fm_) := match as with
  | [.ref x0, .int p1, .int p2] => gd_ (Nat.beq x0 0) ((f_X11_view p1 p2 m).map en_i)
  | _ => none
set_option maxRecDepth 100000 in
theorem gp_X11_view {n : Nat} {r : Nat → Nat → Option Nat}  {p1 : Int32} {p2 : Int32} {m : fm_} {q : Int32 × fm_}  (e : f_X11_view p1 p2 m = some q) : G_X11_view n r [.ref 0, .int p1, .int p2] m = some (en_i q) := by
  show (gd_ (Nat.beq 0 0) ((f_X11_view p1 p2 m).map en_i)) = _
  exact fn_gd rfl (fn_mp e)
set_option maxRecDepth 100000 in
theorem ok_X11_view : am_mok 11 176 m_X11_view = true := by decide +kernel
set_option maxRecDepth 100000 in
theorem c_X11_view (l : Launch) {g : am_G} (hg : fx_ l g) : am_Met l g 6 176 (fn_s fn_F G_X11_view) := by
  refine am_sound (own := 11) (M := m_X11_view) (SP := sp_X11_view) hg.1 (by decide +kernel) ok_X11_view (by decide +kernel) ?_ (fun q hq hk => absurd hk (am_no61 (M := m_X11_view) (by decide +kernel) q hq)) (fn_ext l _ rfl g 11) (Or.inl (by decide +kernel)) ?_ ?_
  · intro q hq hk
    have hm : q.2.2.2.1 ∈ am_cs m_X11_view := am_cs_in hq hk
    rw [show am_cs m_X11_view = [181, 182, 140] by decide +kernel] at hm
    have hm : q.2.2.2.1 ∈ [140, 181, 182] := (List.all_eq_true.mp (show ([181, 182, 140] : List Nat).all (fun a => decide (a ∈ ([140, 181, 182] : List Nat))) = true by decide +kernel) _ hm |> of_decide_eq_true)
    simp only [List.mem_cons, List.not_mem_nil, or_false] at hm
    rcases hm with hm | hm | hm
    · rw [hm]; exact ⟨5, by omega, c_X10_placeCameras l hg⟩
    · rw [hm]; exact ⟨0, by omega, c_X11_isDay l hg⟩
    · rw [hm]; exact ⟨0, by omega, c_X11_isUnder l hg⟩
  · intro as w K h
    obtain ⟨hf, y, m1, hG, hK⟩ := h
    unfold G_X11_view at hG
    split at hG
    · exact Nat.le_of_ble_eq_true rfl
    · cases hG
  · intro as w K h
    obtain ⟨n, i0, l0, r⟩ := w
    obtain ⟨hf, y, m1, hG, hK⟩ := h
    unfold G_X11_view at hG
    split at hG
    · next x0 p1 p2 =>
      obtain ⟨hx1, hG1⟩ := gd_u hG
      obtain rfl := Nat.eq_of_beq_eq_true hx1
      obtain ⟨q, hq, he⟩ := fn_mu hG1
      obtain ⟨rfl, rfl⟩ := Prod.mk.inj he
      exact t_X11_view  hf  p1 p2 (m := (i0, l0)) hq hK
    · cases hG

/-! == X11_seen == -/
noncomputable def f_X11_seen (p1 : Int32) (p2 : Int32) (m : fm_) : Option (Int32 × fm_) :=
  (Option.bind (f_X11_isDay p1 m) fun q1 =>
(if q1.1 = 0 then
((some ((-1), q1.2)))
else
(Option.bind (f_X11_isUnder p2 4 q1.2) fun q6 =>
(if q6.1 = 0 then
((some ((-1), q6.2)))
else
(Option.bind (f_X10_placeCameras p1 p2 q6.2) fun q11 =>
((some ((gi_ q11.2 98 14), q11.2))))))))
def sp_X11_seen : am_S := fn_sp [(181, fn_0, G_X11_isDay), (182, fn_0, G_X11_isUnder), (140, fn_F, G_X10_placeCameras)]
theorem sm_X11_seen : am_Smono (sp_X11_seen) := fn_sp_mono _
set_option maxRecDepth 100000 in
theorem t_X11_seen {n : Nat} {r : Nat → Nat → Option Nat} (hf : fn_F n r) {q : Int32 × fm_} (p1 : Int32) (p2 : Int32) {m : fm_}
  (h : f_X11_seen p1 p2 m = some q) {Q : Option Value → am_W → Prop} (hQ : Q (en_i q).1 (mk_ n r q.2)) : am_T m_X11_seen sp_X11_seen n Q 0 [some (.ref 0), some (.int p1), some (.int p2)] [] (mk_ n r m) :=
  am_T.wp sm_X11_seen (K := am_T m_X11_seen sp_X11_seen n Q) (cuts := []) (fun _ _ _ _ h => h) 17
    (fh_bd h fun q1 e2 h3 => ⟨Nat.le_of_ble_eq_true rfl, trivial, ⟨trivial, some (.int q1.1), q1.2, gp_X11_isDay (n := n) (r := r)  e2, fun _ => fh_if h3 (fun c4 h5 => ⟨rfl, fh_rt h5 hQ⟩) (fun c4 h5 => fh_bd h5 fun q6 e7 h8 => ⟨Nat.le_of_ble_eq_true rfl, trivial, ⟨trivial, some (.int q6.1), q6.2, gp_X11_isUnder (n := n) (r := r)  e7, fun _ => fh_in h8 (fun c9 h10 => ⟨fn_aF hf rfl rfl, Or.inl ⟨_, hf.2 0 10 98 rfl, fh_bd h10 fun q11 e12 h13 => ⟨Nat.le_of_ble_eq_true rfl, fn_aF hf rfl rfl, ⟨hf, none, q11.2, gp_X10_placeCameras (n := n) (r := r)  e12, fun _ => ⟨rfl, ⟨fn_aF hf rfl rfl, Or.inl ⟨_, hf.2 0 10 98 rfl, ⟨fn_aF hf rfl rfl, ⟨rfl, fh_rt h13 hQ⟩⟩⟩⟩⟩⟩⟩⟩⟩) (fun c9 h10 => ⟨rfl, fh_rt h10 hQ⟩)⟩⟩)⟩⟩)
noncomputable def G_X11_seen (n : Nat) (r : Nat → Nat → Option Nat) (as : List Value) (m : fm_) : Option (Option Value × fm_) := match as with
  | [.ref x0, .int p1, .int p2] => gd_ (Nat.beq x0 0) ((f_X11_seen p1 p2 m).map en_i)
  | _ => none
set_option maxRecDepth 100000 in
theorem gp_X11_seen {n : Nat} {r : Nat → Nat → Option Nat}  {p1 : Int32} {p2 : Int32} {m : fm_} {q : Int32 × fm_}  (e : f_X11_seen p1 p2 m = some q) : G_X11_seen n r [.ref 0, .int p1, .int p2] m = some (en_i q) := by
  show (gd_ (Nat.beq 0 0) ((f_X11_seen p1 p2 m).map en_i)) = _
  exact fn_gd rfl (fn_mp e)
set_option maxRecDepth 100000 in
theorem ok_X11_seen : am_mok 11 177 m_X11_seen = true := by decide +kernel
set_option maxRecDepth 100000 in
theorem c_X11_seen (l : Launch) {g : am_G} (hg : fx_ l g) : am_Met l g 6 177 (fn_s fn_F G_X11_seen) := by
  refine am_sound (own := 11) (M := m_X11_seen) (SP := sp_X11_seen) hg.1 (by decide +kernel) ok_X11_seen (by decide +kernel) ?_ (fun q hq hk => absurd hk (am_no61 (M := m_X11_seen) (by decide +kernel) q hq)) (fn_ext l _ rfl g 11) (Or.inl (by decide +kernel)) ?_ ?_
  · intro q hq hk
    have hm : q.2.2.2.1 ∈ am_cs m_X11_seen := am_cs_in hq hk
    rw [show am_cs m_X11_seen = [181, 182, 140] by decide +kernel] at hm
    have hm : q.2.2.2.1 ∈ [140, 181, 182] := (List.all_eq_true.mp (show ([181, 182, 140] : List Nat).all (fun a => decide (a ∈ ([140, 181, 182] : List Nat))) = true by decide +kernel) _ hm |> of_decide_eq_true)
    simp only [List.mem_cons, List.not_mem_nil, or_false] at hm
    rcases hm with hm | hm | hm
    · rw [hm]; exact ⟨5, by omega, c_X10_placeCameras l hg⟩
    · rw [hm]; exact ⟨0, by omega, c_X11_isDay l hg⟩
    · rw [hm]; exact ⟨0, by omega, c_X11_isUnder l hg⟩
  · intro as w K h
    obtain ⟨hf, y, m1, hG, hK⟩ := h
    unfold G_X11_seen at hG
    split at hG
    · exact Nat.le_of_ble_eq_true rfl
    · cases hG
  · intro as w K h
    obtain ⟨n, i0, l0, r⟩ := w
    obtain ⟨hf, y, m1, hG, hK⟩ := h
    unfold G_X11_seen at hG
    split at hG
    · next x0 p1 p2 =>
      obtain ⟨hx1, hG1⟩ := gd_u hG
      obtain rfl := Nat.eq_of_beq_eq_true hx1
      obtain ⟨q, hq, he⟩ := fn_mu hG1
      obtain ⟨rfl, rfl⟩ := Prod.mk.inj he
      exact t_X11_seen  hf  p1 p2 (m := (i0, l0)) hq hK
    · cases hG

/-! == X11_about == -/
noncomputable def f_X11_about (p1 : Int32) (m : fm_) : Option (Int32 × fm_) :=
  (if p1 = 0 then
((some ((gi_ m 6 3), m)))
else
(if p1 = 1 then
(Option.bind (f_J6_bitCount_0f7a4 (gi_ m 6 4) m) fun q5 =>
((some (q5.1, q5.2))))
else
(if p1 = 2 then
((some ((gi_ m 6 8), m)))
else
(if p1 = 3 then
((some ((gi_ m 30 1), m)))
else
(if p1 = 4 then
((some ((gi_ m 69 2), m)))
else
(if p1 = 5 then
((some ((gi_ m 72 7), m)))
else
(if p1 = 6 then
((some ((gi_ m 72 8), m)))
else
(if p1 = 7 then
((some ((gi_ m 98 7), m)))
else
(if p1 = 8 then
((some ((gi_ m 94 2), m)))
else
(if p1 = 9 then
((some ((gi_ m 1 4), m)))
else
((some ((-1), m)))))))))))))
def sp_X11_about : am_S := fn_sp [(285, fn_0, G_J6_bitCount_0f7a4)]
theorem sm_X11_about : am_Smono (sp_X11_about) := fn_sp_mono _
set_option maxRecDepth 100000 in
theorem t_X11_about {n : Nat} {r : Nat → Nat → Option Nat} (hf : fn_F n r) {q : Int32 × fm_} (p1 : Int32) {m : fm_}
  (h : f_X11_about p1 m = some q) {Q : Option Value → am_W → Prop} (hQ : Q (en_i q).1 (mk_ n r q.2)) : am_T m_X11_about sp_X11_about n Q 0 [some (.ref 0), some (.int p1)] [] (mk_ n r m) :=
  am_T.wp sm_X11_about (K := am_T m_X11_about sp_X11_about n Q) (cuts := []) (fun _ _ _ _ h => h) 8
    (⟨fun c1 => have h2 := fh_t h c1; ⟨fn_aF hf rfl rfl, Or.inl ⟨_, hf.2 0 1 6 rfl, ⟨fn_aF hf rfl rfl, ⟨rfl, fh_rt h2 hQ⟩⟩⟩⟩, fun c1 => have h2 := fh_f h c1; am_swc (fh_if h2 (fun c3 h4 => ⟨fn_aF hf rfl rfl, Or.inl ⟨_, hf.2 0 1 6 rfl, ⟨fn_aF hf rfl rfl, fh_bd h4 fun q5 e6 h7 => ⟨Nat.le_of_ble_eq_true rfl, trivial, ⟨trivial, some (.int q5.1), q5.2, gp_J6_bitCount_0f7a4 (n := n) (r := r)  e6, fun _ => ⟨rfl, fh_rt h7 hQ⟩⟩⟩⟩⟩⟩) (fun c3 h4 => am_swc (fh_if h4 (fun c8 h9 => ⟨fn_aF hf rfl rfl, Or.inl ⟨_, hf.2 0 1 6 rfl, ⟨fn_aF hf rfl rfl, ⟨rfl, fh_rt h9 hQ⟩⟩⟩⟩) (fun c8 h9 => am_swc (fh_if h9 (fun c10 h11 => ⟨fn_aF hf rfl rfl, Or.inl ⟨_, hf.2 0 3 30 rfl, ⟨fn_aF hf rfl rfl, ⟨rfl, fh_rt h11 hQ⟩⟩⟩⟩) (fun c10 h11 => am_swc (fh_if h11 (fun c12 h13 => ⟨fn_aF hf rfl rfl, Or.inl ⟨_, hf.2 0 5 69 rfl, ⟨fn_aF hf rfl rfl, ⟨rfl, fh_rt h13 hQ⟩⟩⟩⟩) (fun c12 h13 => am_swc (fh_if h13 (fun c14 h15 => ⟨fn_aF hf rfl rfl, Or.inl ⟨_, hf.2 0 6 72 rfl, ⟨fn_aF hf rfl rfl, ⟨rfl, fh_rt h15 hQ⟩⟩⟩⟩) (fun c14 h15 => am_swc (fh_if h15 (fun c16 h17 => ⟨fn_aF hf rfl rfl, Or.inl ⟨_, hf.2 0 6 72 rfl, ⟨fn_aF hf rfl rfl, ⟨rfl, fh_rt h17 hQ⟩⟩⟩⟩) (fun c16 h17 => am_swc (fh_if h17 (fun c18 h19 => ⟨fn_aF hf rfl rfl, Or.inl ⟨_, hf.2 0 10 98 rfl, ⟨fn_aF hf rfl rfl, ⟨rfl, fh_rt h19 hQ⟩⟩⟩⟩) (fun c18 h19 => am_swc (fh_if h19 (fun c20 h21 => ⟨fn_aF hf rfl rfl, Or.inl ⟨_, hf.2 0 9 94 rfl, ⟨fn_aF hf rfl rfl, ⟨rfl, fh_rt h21 hQ⟩⟩⟩⟩) (fun c20 h21 => am_swc (fh_if h21 (fun c22 h23 => ⟨fn_aF hf rfl rfl, Or.inl ⟨_, hf.2 0 0 1 rfl, ⟨fn_aF hf rfl rfl, ⟨rfl, fh_rt h23 hQ⟩⟩⟩⟩) (fun c22 h23 => am_swn (⟨rfl, fh_rt h23 hQ⟩)))))))))))))))))))⟩)
noncomputable def G_X11_about (n : Nat) (r : Nat → Nat → Option Nat) (as : List Value) (m : fm_) : Option (Option Value × fm_) := match as with
  | [.ref x0, .int p1] => gd_ (Nat.beq x0 0) ((f_X11_about p1 m).map en_i)
  | _ => none
set_option maxRecDepth 100000 in
theorem gp_X11_about {n : Nat} {r : Nat → Nat → Option Nat}  {p1 : Int32} {m : fm_} {q : Int32 × fm_}  (e : f_X11_about p1 m = some q) : G_X11_about n r [.ref 0, .int p1] m = some (en_i q) := by
  show (gd_ (Nat.beq 0 0) ((f_X11_about p1 m).map en_i)) = _
  exact fn_gd rfl (fn_mp e)
set_option maxRecDepth 100000 in
theorem ok_X11_about : am_mok 11 178 m_X11_about = true := by decide +kernel
set_option maxRecDepth 100000 in
theorem c_X11_about (l : Launch) {g : am_G} (hg : fx_ l g) : am_Met l g 1 178 (fn_s fn_F G_X11_about) := by
  refine am_sound (own := 11) (M := m_X11_about) (SP := sp_X11_about) hg.1 (by decide +kernel) ok_X11_about (by decide +kernel) ?_ (fun q hq hk => absurd hk (am_no61 (M := m_X11_about) (by decide +kernel) q hq)) (fn_ext l _ rfl g 11) (Or.inl (by decide +kernel)) ?_ ?_
  · intro q hq hk
    have hm : q.2.2.2.1 ∈ am_cs m_X11_about := am_cs_in hq hk
    rw [show am_cs m_X11_about = [285] by decide +kernel] at hm
    have hm : q.2.2.2.1 ∈ [285] := (List.all_eq_true.mp (show ([285] : List Nat).all (fun a => decide (a ∈ ([285] : List Nat))) = true by decide +kernel) _ hm |> of_decide_eq_true)
    simp only [List.mem_cons, List.not_mem_nil, or_false] at hm
    rcases hm with hm
    · rw [hm]; exact ⟨0, by omega, c_J6_bitCount_0f7a4 l hg⟩
  · intro as w K h
    obtain ⟨hf, y, m1, hG, hK⟩ := h
    unfold G_X11_about at hG
    split at hG
    · exact Nat.le_of_ble_eq_true rfl
    · cases hG
  · intro as w K h
    obtain ⟨n, i0, l0, r⟩ := w
    obtain ⟨hf, y, m1, hG, hK⟩ := h
    unfold G_X11_about at hG
    split at hG
    · next x0 p1 =>
      obtain ⟨hx1, hG1⟩ := gd_u hG
      obtain rfl := Nat.eq_of_beq_eq_true hx1
      obtain ⟨q, hq, he⟩ := fn_mu hG1
      obtain ⟨rfl, rfl⟩ := Prod.mk.inj he
      exact t_X11_about  hf  p1 (m := (i0, l0)) hq hK
    · cases hG

/-! == X12_four == -/
abbrev S_X12_four : Type := (Int32 × Int32 × fm_)
noncomputable def st_X12_four (s : S_X12_four) : Option (S_X12_four ⊕ (Int32 × fm_)) := match s with
  | (x1, x2, m) =>
    (if x2 < 0 then
((some (Sum.inr (0, m))))
else
(gd_ (ix_ (gi_ m 106 1) 900)
((some (Sum.inl ((x1, (x2 + (-8)), (si_ (si_ m 107 (Int32.toNatClampNeg (gi_ m 106 1)) ((x1 >>> (x2 &&& 31)) &&& 255)) 106 1 ((gi_ m 106 1) + 1)))))))))
noncomputable def f_X12_four_3 (x1 : Int32) (x2 : Int32) (m : fm_) : Option (Int32 × fm_) := am_lp (st_X12_four) ((x1, x2, m))
theorem e_X12_four_3 (x1 : Int32) (x2 : Int32) (m : fm_) : f_X12_four_3 x1 x2 m =
(if x2 < 0 then
((some (0, m)))
else
(gd_ (ix_ (gi_ m 106 1) 900)
((f_X12_four_3 x1 (x2 + (-8)) (si_ (si_ m 107 (Int32.toNatClampNeg (gi_ m 106 1)) ((x1 >>> (x2 &&& 31)) &&& 255)) 106 1 ((gi_ m 106 1) + 1)))))) :=
  (am_lp_eq _ _).trans (fe_if (rfl) (fe_gd (rfl)))
noncomputable def f_X12_four (p1 : Int32) (m : fm_) : Option (Int32 × fm_) :=
  ((f_X12_four_3 p1 24 m))
def sp_X12_four : am_S := fn_sp []
theorem sm_X12_four : am_Smono (sp_X12_four) := fn_sp_mono _
def P_X12_four (n : Nat) (r : Nat → Nat → Option Nat) (s : S_X12_four) (q : Int32 × fm_) : Prop := match s with
  | (x1, x2, m) => ∀ (Q : Option Value → am_W → Prop), Q (en_v q).1 (mk_ n r q.2) → am_T m_X12_four sp_X12_four n Q 3 [some (.ref 106), some (.int x1), some (.int x2)] [] (mk_ n r m)
set_option maxRecDepth 100000 in
theorem t_X12_four_3 {n : Nat} {r : Nat → Nat → Option Nat} (hf : fn_F n r) {K : S_X12_four → Option (Int32 × fm_)} {q : Int32 × fm_} (hK : ∀ s, K s = some q → P_X12_four n r s q) (x1 : Int32) (x2 : Int32) (m : fm_)
  (h : am_k K (st_X12_four ((x1, x2, m))) = some q) : P_X12_four n r ((x1, x2, m)) q := fun Q hQ =>
  am_T.wp sm_X12_four (K := am_T m_X12_four sp_X12_four n Q) (cuts := [3]) (fun _ _ _ _ h => h) 22
    (fj_if h (fun c1 h2 => ⟨rfl, fj_rt h2 hQ⟩) (fun c1 h2 => ⟨fn_aF hf rfl rfl, Or.inl ⟨_, hf.2 106 0 107 rfl, ⟨fn_aF hf rfl rfl, fj_gd h2 fun g4 h3 => ⟨900, fn_aF hf rfl rfl, ix_t g4, ⟨fn_aF hf rfl rfl, ⟨fn_aF hf rfl rfl, hK _ h3 _ hQ⟩⟩⟩⟩⟩⟩))
theorem l_X12_four {n : Nat} {r : Nat → Nat → Option Nat} (hf : fn_F n r) (s : S_X12_four) (q : Int32 × fm_) (h : am_lp (st_X12_four) s = some q) : P_X12_four n r s q :=
  am_lp_snd (P := P_X12_four n r) (fun K hK s q h => match s, h with
    | (x1, x2, m), h => t_X12_four_3 hf (fun s => hK s q) x1 x2 m h) s q h
set_option maxRecDepth 100000 in
theorem t_X12_four {n : Nat} {r : Nat → Nat → Option Nat} (hf : fn_F n r) {q : Int32 × fm_} (p1 : Int32) {m : fm_}
  (h : f_X12_four p1 m = some q) {Q : Option Value → am_W → Prop} (hQ : Q (en_v q).1 (mk_ n r q.2)) : am_T m_X12_four sp_X12_four n Q 0 [some (.ref 106), some (.int p1), none] [] (mk_ n r m) :=
  am_T.wp sm_X12_four (K := am_T m_X12_four sp_X12_four n Q) (cuts := [3]) (fun _ _ _ _ h => h) 4
    (l_X12_four hf _ _ h _ hQ)
noncomputable def G_X12_four (n : Nat) (r : Nat → Nat → Option Nat) (as : List Value) (m : fm_) : Option (Option Value × fm_) := match as with
  | [.ref x0, .int p1] => gd_ (Nat.beq x0 106) ((f_X12_four p1 m).map en_v)
  | _ => none
set_option maxRecDepth 100000 in
theorem gp_X12_four {n : Nat} {r : Nat → Nat → Option Nat}  {p1 : Int32} {m : fm_} {q : Int32 × fm_}  (e : f_X12_four p1 m = some q) : G_X12_four n r [.ref 106, .int p1] m = some (en_v q) := by
  show (gd_ (Nat.beq 106 106) ((f_X12_four p1 m).map en_v)) = _
  exact fn_gd rfl (fn_mp e)
set_option maxRecDepth 100000 in
theorem ok_X12_four : am_mok 12 185 m_X12_four = true := by decide +kernel
set_option maxRecDepth 100000 in
theorem c_X12_four (l : Launch) {g : am_G} (hg : fx_ l g) : am_Met l g 0 185 (fn_s fn_F G_X12_four) := by
  refine am_sound (own := 12) (M := m_X12_four) (SP := sp_X12_four) hg.1 (by decide +kernel) ok_X12_four (by decide +kernel) ?_ (fun q hq hk => absurd hk (am_no61 (M := m_X12_four) (by decide +kernel) q hq)) (fn_ext l _ rfl g 12) (Or.inl (by decide +kernel)) ?_ ?_
  · intro q hq hk
    have hm : q.2.2.2.1 ∈ am_cs m_X12_four := am_cs_in hq hk
    rw [show am_cs m_X12_four = [] by decide +kernel] at hm
    cases hm
  · intro as w K h
    obtain ⟨hf, y, m1, hG, hK⟩ := h
    unfold G_X12_four at hG
    split at hG
    · exact Nat.le_of_ble_eq_true rfl
    · cases hG
  · intro as w K h
    obtain ⟨n, i0, l0, r⟩ := w
    obtain ⟨hf, y, m1, hG, hK⟩ := h
    unfold G_X12_four at hG
    split at hG
    · next x0 p1 =>
      obtain ⟨hx1, hG1⟩ := gd_u hG
      obtain rfl := Nat.eq_of_beq_eq_true hx1
      obtain ⟨q, hq, he⟩ := fn_mu hG1
      obtain ⟨rfl, rfl⟩ := Prod.mk.inj he
      exact t_X12_four  hf  p1 (m := (i0, l0)) hq hK
    · cases hG

