/-! == X1_addPapers == -/
noncomputable def f_X1_addPapers (p1 : Int32) (p2 : Int32) (p3 : Int32) (m : fm_) : Option (Int32 × fm_) :=
  (Option.bind (f_X1_add 1 p1 p2 p3 m) fun q1 =>
((some (q1.1, q1.2))))
def sp_X1_addPapers : am_S := fn_sp [(22, fn_F, G_X1_add)]
theorem sm_X1_addPapers : am_Smono (sp_X1_addPapers) := fn_sp_mono _
set_option maxRecDepth 100000 in
theorem t_X1_addPapers {n : Nat} {r : Nat → Nat → Option Nat} (hf : fn_F n r) {q : Int32 × fm_} (p1 : Int32) (p2 : Int32) (p3 : Int32) {m : fm_}
  (h : f_X1_addPapers p1 p2 p3 m = some q) {Q : Option Value → am_W → Prop} (hQ : Q (en_i q).1 (mk_ n r q.2)) : am_T m_X1_addPapers sp_X1_addPapers n Q 0 [some (.ref 72), some (.int p1), some (.int p2), some (.int p3)] [] (mk_ n r m) :=
  am_T.wp sm_X1_addPapers (K := am_T m_X1_addPapers sp_X1_addPapers n Q) (cuts := []) (fun _ _ _ _ h => h) 8
    (fh_bd h fun q1 e2 h3 => ⟨Nat.le_of_ble_eq_true rfl, fn_aF hf rfl rfl, ⟨hf, some (.int q1.1), q1.2, gp_X1_add (n := n) (r := r)  e2, fun _ => ⟨rfl, fh_rt h3 hQ⟩⟩⟩)
noncomputable def G_X1_addPapers (n : Nat) (r : Nat → Nat → Option Nat) (as : List Value) (m : fm_) : Option (Option Value × fm_) := match as with
  | [.ref x0, .int p1, .int p2, .int p3] => gd_ (Nat.beq x0 72) ((f_X1_addPapers p1 p2 p3 m).map en_i)
  | _ => none
set_option maxRecDepth 100000 in
theorem gp_X1_addPapers {n : Nat} {r : Nat → Nat → Option Nat}  {p1 : Int32} {p2 : Int32} {p3 : Int32} {m : fm_} {q : Int32 × fm_}  (e : f_X1_addPapers p1 p2 p3 m = some q) : G_X1_addPapers n r [.ref 72, .int p1, .int p2, .int p3] m = some (en_i q) := by
  show (gd_ (Nat.beq 72 72) ((f_X1_addPapers p1 p2 p3 m).map en_i)) = _
  exact fn_gd rfl (fn_mp e)
set_option maxRecDepth 100000 in
theorem ok_X1_addPapers : am_mok 1 10 m_X1_addPapers = true := by decide +kernel
set_option maxRecDepth 100000 in
theorem c_X1_addPapers (l : Launch) {g : am_G} (hg : fx_ l g) : am_Met l g 1 10 (fn_s fn_F G_X1_addPapers) := by
  refine am_sound (own := 1) (M := m_X1_addPapers) (SP := sp_X1_addPapers) hg.1 (by decide +kernel) ok_X1_addPapers (by decide +kernel) ?_ (fun q hq hk => absurd hk (am_no61 (M := m_X1_addPapers) (by decide +kernel) q hq)) (fn_ext l _ rfl g 1) (Or.inl (by decide +kernel)) ?_ ?_
  · intro q hq hk
    have hm : q.2.2.2.1 ∈ am_cs m_X1_addPapers := am_cs_in hq hk
    rw [show am_cs m_X1_addPapers = [22] by decide +kernel] at hm
    have hm : q.2.2.2.1 ∈ [22] := (List.all_eq_true.mp (show ([22] : List Nat).all (fun a => decide (a ∈ ([22] : List Nat))) = true by decide +kernel) _ hm |> of_decide_eq_true)
    simp only [List.mem_cons, List.not_mem_nil, or_false] at hm
    rcases hm with hm
    · rw [hm]; exact ⟨0, by omega, c_X1_add l hg⟩
  · intro as w K h
    obtain ⟨hf, y, m1, hG, hK⟩ := h
    unfold G_X1_addPapers at hG
    split at hG
    · exact Nat.le_of_ble_eq_true rfl
    · cases hG
  · intro as w K h
    obtain ⟨n, i0, l0, r⟩ := w
    obtain ⟨hf, y, m1, hG, hK⟩ := h
    unfold G_X1_addPapers at hG
    split at hG
    · next x0 p1 p2 p3 =>
      obtain ⟨hx1, hG1⟩ := gd_u hG
      obtain rfl := Nat.eq_of_beq_eq_true hx1
      obtain ⟨q, hq, he⟩ := fn_mu hG1
      obtain ⟨rfl, rfl⟩ := Prod.mk.inj he
      exact t_X1_addPapers  hf  p1 p2 p3 (m := (i0, l0)) hq hK
    · cases hG

/-! == X1_addAppeal == -/
noncomputable def f_X1_addAppeal (p1 : Int32) (p2 : Int32) (m : fm_) : Option (Int32 × fm_) :=
  (Option.bind (f_X1_add 3 p1 p2 0 m) fun q1 =>
((some (q1.1, q1.2))))
def sp_X1_addAppeal : am_S := fn_sp [(22, fn_F, G_X1_add)]
theorem sm_X1_addAppeal : am_Smono (sp_X1_addAppeal) := fn_sp_mono _
set_option maxRecDepth 100000 in
theorem t_X1_addAppeal {n : Nat} {r : Nat → Nat → Option Nat} (hf : fn_F n r) {q : Int32 × fm_} (p1 : Int32) (p2 : Int32) {m : fm_}
  (h : f_X1_addAppeal p1 p2 m = some q) {Q : Option Value → am_W → Prop} (hQ : Q (en_i q).1 (mk_ n r q.2)) : am_T m_X1_addAppeal sp_X1_addAppeal n Q 0 [some (.ref 72), some (.int p1), some (.int p2)] [] (mk_ n r m) :=
  am_T.wp sm_X1_addAppeal (K := am_T m_X1_addAppeal sp_X1_addAppeal n Q) (cuts := []) (fun _ _ _ _ h => h) 8
    (fh_bd h fun q1 e2 h3 => ⟨Nat.le_of_ble_eq_true rfl, fn_aF hf rfl rfl, ⟨hf, some (.int q1.1), q1.2, gp_X1_add (n := n) (r := r)  e2, fun _ => ⟨rfl, fh_rt h3 hQ⟩⟩⟩)
noncomputable def G_X1_addAppeal (n : Nat) (r : Nat → Nat → Option Nat) (as : List Value) (m : fm_) : Option (Option Value × fm_) := match as with
  | [.ref x0, .int p1, .int p2] => gd_ (Nat.beq x0 72) ((f_X1_addAppeal p1 p2 m).map en_i)
  | _ => none
set_option maxRecDepth 100000 in
theorem gp_X1_addAppeal {n : Nat} {r : Nat → Nat → Option Nat}  {p1 : Int32} {p2 : Int32} {m : fm_} {q : Int32 × fm_}  (e : f_X1_addAppeal p1 p2 m = some q) : G_X1_addAppeal n r [.ref 72, .int p1, .int p2] m = some (en_i q) := by
  show (gd_ (Nat.beq 72 72) ((f_X1_addAppeal p1 p2 m).map en_i)) = _
  exact fn_gd rfl (fn_mp e)
set_option maxRecDepth 100000 in
theorem ok_X1_addAppeal : am_mok 1 11 m_X1_addAppeal = true := by decide +kernel
set_option maxRecDepth 100000 in
theorem c_X1_addAppeal (l : Launch) {g : am_G} (hg : fx_ l g) : am_Met l g 1 11 (fn_s fn_F G_X1_addAppeal) := by
  refine am_sound (own := 1) (M := m_X1_addAppeal) (SP := sp_X1_addAppeal) hg.1 (by decide +kernel) ok_X1_addAppeal (by decide +kernel) ?_ (fun q hq hk => absurd hk (am_no61 (M := m_X1_addAppeal) (by decide +kernel) q hq)) (fn_ext l _ rfl g 1) (Or.inl (by decide +kernel)) ?_ ?_
  · intro q hq hk
    have hm : q.2.2.2.1 ∈ am_cs m_X1_addAppeal := am_cs_in hq hk
    rw [show am_cs m_X1_addAppeal = [22] by decide +kernel] at hm
    have hm : q.2.2.2.1 ∈ [22] := (List.all_eq_true.mp (show ([22] : List Nat).all (fun a => decide (a ∈ ([22] : List Nat))) = true by decide +kernel) _ hm |> of_decide_eq_true)
    simp only [List.mem_cons, List.not_mem_nil, or_false] at hm
    rcases hm with hm
    · rw [hm]; exact ⟨0, by omega, c_X1_add l hg⟩
  · intro as w K h
    obtain ⟨hf, y, m1, hG, hK⟩ := h
    unfold G_X1_addAppeal at hG
    split at hG
    · exact Nat.le_of_ble_eq_true rfl
    · cases hG
  · intro as w K h
    obtain ⟨n, i0, l0, r⟩ := w
    obtain ⟨hf, y, m1, hG, hK⟩ := h
    unfold G_X1_addAppeal at hG
    split at hG
    · next x0 p1 p2 =>
      obtain ⟨hx1, hG1⟩ := gd_u hG
      obtain rfl := Nat.eq_of_beq_eq_true hx1
      obtain ⟨q, hq, he⟩ := fn_mu hG1
      obtain ⟨rfl, rfl⟩ := Prod.mk.inj he
      exact t_X1_addAppeal  hf  p1 p2 (m := (i0, l0)) hq hK
    · cases hG

/-! == X11_isDay == -/
noncomputable def f_X11_isDay (p1 : Int32) (m : fm_) : Option (Int32 × fm_) :=
  (if p1 < 0 then
((some (0, m)))
else
(if 100 ≤ p1 then
((some (0, m)))
else
((some (1, m)))))
def sp_X11_isDay : am_S := fn_sp []
theorem sm_X11_isDay : am_Smono (sp_X11_isDay) := fn_sp_mono _
set_option maxRecDepth 100000 in
theorem t_X11_isDay {n : Nat} {r : Nat → Nat → Option Nat} (hf : fn_0 n r) {q : Int32 × fm_} (p1 : Int32) {m : fm_}
  (h : f_X11_isDay p1 m = some q) {Q : Option Value → am_W → Prop} (hQ : Q (en_i q).1 (mk_ n r q.2)) : am_T m_X11_isDay sp_X11_isDay n Q 0 [some (.int p1)] [] (mk_ n r m) :=
  am_T.wp sm_X11_isDay (K := am_T m_X11_isDay sp_X11_isDay n Q) (cuts := []) (fun _ _ _ _ h => h) 9
    (fh_if h (fun c1 h2 => ⟨rfl, Or.inl rfl, fh_rt h2 hQ⟩) (fun c1 h2 => fh_if h2 (fun c3 h4 => ⟨rfl, Or.inl rfl, fh_rt h4 hQ⟩) (fun c3 h4 => ⟨rfl, Or.inr rfl, fh_rt h4 hQ⟩)))
noncomputable def G_X11_isDay (n : Nat) (r : Nat → Nat → Option Nat) (as : List Value) (m : fm_) : Option (Option Value × fm_) := match as with
  | [.int p1] => (f_X11_isDay p1 m).map en_i
  | _ => none
set_option maxRecDepth 100000 in
theorem gp_X11_isDay {n : Nat} {r : Nat → Nat → Option Nat}  {p1 : Int32} {m : fm_} {q : Int32 × fm_}  (e : f_X11_isDay p1 m = some q) : G_X11_isDay n r [.int p1] m = some (en_i q) := by
  show ((f_X11_isDay p1 m).map en_i) = _
  exact fn_mp e
set_option maxRecDepth 100000 in
theorem ok_X11_isDay : am_mok 11 181 m_X11_isDay = true := by decide +kernel
set_option maxRecDepth 100000 in
theorem c_X11_isDay (l : Launch) {g : am_G} (hg : fx_ l g) : am_Met l g 0 181 (fn_s fn_0 G_X11_isDay) := by
  refine am_sound (own := 11) (M := m_X11_isDay) (SP := sp_X11_isDay) hg.1 (by decide +kernel) ok_X11_isDay (by decide +kernel) ?_ (fun q hq hk => absurd hk (am_no61 (M := m_X11_isDay) (by decide +kernel) q hq)) (fn_ext l _ rfl g 11) (Or.inl (by decide +kernel)) ?_ ?_
  · intro q hq hk
    have hm : q.2.2.2.1 ∈ am_cs m_X11_isDay := am_cs_in hq hk
    rw [show am_cs m_X11_isDay = [] by decide +kernel] at hm
    cases hm
  · intro as w K h
    obtain ⟨hf, y, m1, hG, hK⟩ := h
    unfold G_X11_isDay at hG
    split at hG
    · exact Nat.le_of_ble_eq_true rfl
    · cases hG
  · intro as w K h
    obtain ⟨n, i0, l0, r⟩ := w
    obtain ⟨hf, y, m1, hG, hK⟩ := h
    unfold G_X11_isDay at hG
    split at hG
    · next p1 =>
      obtain ⟨q, hq, he⟩ := fn_mu hG
      obtain ⟨rfl, rfl⟩ := Prod.mk.inj he
      exact t_X11_isDay  hf  p1 (m := (i0, l0)) hq hK
    · cases hG

/-! == X1_hasRoomOn == -/
noncomputable def f_X1_hasRoomOn (p1 : Int32) (m : fm_) : Option (Int32 × fm_) :=
  (Option.bind (f_X11_isDay p1 m) fun q1 =>
(if q1.1 = 0 then
((some (0, q1.2)))
else
(gd_ (ix_ p1 100)
(if 7 ≤ (gi_ q1.2 81 (Int32.toNatClampNeg p1)) then
((some (0, q1.2)))
else
((some (1, q1.2)))))))
def sp_X1_hasRoomOn : am_S := fn_sp [(181, fn_0, G_X11_isDay)]
theorem sm_X1_hasRoomOn : am_Smono (sp_X1_hasRoomOn) := fn_sp_mono _
set_option maxRecDepth 100000 in
theorem t_X1_hasRoomOn {n : Nat} {r : Nat → Nat → Option Nat} (hf : fn_F n r) {q : Int32 × fm_} (p1 : Int32) {m : fm_}
  (h : f_X1_hasRoomOn p1 m = some q) {Q : Option Value → am_W → Prop} (hQ : Q (en_i q).1 (mk_ n r q.2)) : am_T m_X1_hasRoomOn sp_X1_hasRoomOn n Q 0 [some (.ref 72), some (.int p1)] [] (mk_ n r m) :=
  am_T.wp sm_X1_hasRoomOn (K := am_T m_X1_hasRoomOn sp_X1_hasRoomOn n Q) (cuts := []) (fun _ _ _ _ h => h) 13
    (fh_bd h fun q1 e2 h3 => ⟨Nat.le_of_ble_eq_true rfl, trivial, ⟨trivial, some (.int q1.1), q1.2, gp_X11_isDay (n := n) (r := r)  e2, fun _ => fh_if h3 (fun c4 h5 => ⟨rfl, Or.inl rfl, fh_rt h5 hQ⟩) (fun c4 h5 => ⟨fn_aF hf rfl rfl, Or.inl ⟨_, hf.2 72 10 81 rfl, fh_gd h5 fun g7 h6 => ⟨100, fn_aF hf rfl rfl, ix_t g7, fh_if h6 (fun c8 h9 => ⟨rfl, Or.inl rfl, fh_rt h9 hQ⟩) (fun c8 h9 => ⟨rfl, Or.inr rfl, fh_rt h9 hQ⟩)⟩⟩⟩)⟩⟩)
noncomputable def G_X1_hasRoomOn (n : Nat) (r : Nat → Nat → Option Nat) (as : List Value) (m : fm_) : Option (Option Value × fm_) := match as with
  | [.ref x0, .int p1] => gd_ (Nat.beq x0 72) ((f_X1_hasRoomOn p1 m).map en_i)
  | _ => none
set_option maxRecDepth 100000 in
theorem gp_X1_hasRoomOn {n : Nat} {r : Nat → Nat → Option Nat}  {p1 : Int32} {m : fm_} {q : Int32 × fm_}  (e : f_X1_hasRoomOn p1 m = some q) : G_X1_hasRoomOn n r [.ref 72, .int p1] m = some (en_i q) := by
  show (gd_ (Nat.beq 72 72) ((f_X1_hasRoomOn p1 m).map en_i)) = _
  exact fn_gd rfl (fn_mp e)
set_option maxRecDepth 100000 in
theorem ok_X1_hasRoomOn : am_mok 1 13 m_X1_hasRoomOn = true := by decide +kernel
set_option maxRecDepth 100000 in
theorem c_X1_hasRoomOn (l : Launch) {g : am_G} (hg : fx_ l g) : am_Met l g 1 13 (fn_s fn_F G_X1_hasRoomOn) := by
  refine am_sound (own := 1) (M := m_X1_hasRoomOn) (SP := sp_X1_hasRoomOn) hg.1 (by decide +kernel) ok_X1_hasRoomOn (by decide +kernel) ?_ (fun q hq hk => absurd hk (am_no61 (M := m_X1_hasRoomOn) (by decide +kernel) q hq)) (fn_ext l _ rfl g 1) (Or.inl (by decide +kernel)) ?_ ?_
  · intro q hq hk
    have hm : q.2.2.2.1 ∈ am_cs m_X1_hasRoomOn := am_cs_in hq hk
    rw [show am_cs m_X1_hasRoomOn = [181] by decide +kernel] at hm
    have hm : q.2.2.2.1 ∈ [181] := (List.all_eq_true.mp (show ([181] : List Nat).all (fun a => decide (a ∈ ([181] : List Nat))) = true by decide +kernel) _ hm |> of_decide_eq_true)
    simp only [List.mem_cons, List.not_mem_nil, or_false] at hm
    rcases hm with hm
    · rw [hm]; exact ⟨0, by omega, c_X11_isDay l hg⟩
  · intro as w K h
    obtain ⟨hf, y, m1, hG, hK⟩ := h
    unfold G_X1_hasRoomOn at hG
    split at hG
    · exact Nat.le_of_ble_eq_true rfl
    · cases hG
  · intro as w K h
    obtain ⟨n, i0, l0, r⟩ := w
    obtain ⟨hf, y, m1, hG, hK⟩ := h
    unfold G_X1_hasRoomOn at hG
    split at hG
    · next x0 p1 =>
      obtain ⟨hx1, hG1⟩ := gd_u hG
      obtain rfl := Nat.eq_of_beq_eq_true hx1
      obtain ⟨q, hq, he⟩ := fn_mu hG1
      obtain ⟨rfl, rfl⟩ := Prod.mk.inj he
      exact t_X1_hasRoomOn  hf  p1 (m := (i0, l0)) hq hK
    · cases hG

/-! == X1_addReading == -/
noncomputable def f_X1_addReading (p1 : Int32) (p2 : Int32) (p3 : Int32) (p4 : Int64) (m : fm_) : Option (Int32 × fm_) :=
  (Option.bind (f_X1_add 2 p1 p2 p3 m) fun q1 =>
(if q1.1 = (-1) then
((some (q1.1, q1.2)))
else
(Option.bind (f_X1_hasRoomOn p2 q1.2) fun q6 =>
(if q6.1 = 0 then
((some (q1.1, q6.2)))
else
(gd_ (ix_ q1.1 200)
(gd_ (ix_ p2 100)
(gd_ (ix_ ((p2 * 7) + (gi_ q6.2 81 (Int32.toNatClampNeg p2))) 700)
(gd_ (ix_ p2 100)
(gd_ (ix_ p2 100)
((some (q1.1, (si_ (si_ (sl_ q6.2 79 (Int32.toNatClampNeg q1.1) p4) 80 (Int32.toNatClampNeg ((p2 * 7) + (gi_ q6.2 81 (Int32.toNatClampNeg p2)))) q1.1) 81 (Int32.toNatClampNeg p2) ((gi_ q6.2 81 (Int32.toNatClampNeg p2)) + 1))))))))))))))
def sp_X1_addReading : am_S := fn_sp [(22, fn_F, G_X1_add), (13, fn_F, G_X1_hasRoomOn)]
theorem sm_X1_addReading : am_Smono (sp_X1_addReading) := fn_sp_mono _
set_option maxRecDepth 100000 in
theorem t_X1_addReading {n : Nat} {r : Nat → Nat → Option Nat} (hf : fn_F n r) {q : Int32 × fm_} (p1 : Int32) (p2 : Int32) (p3 : Int32) (p4 : Int64) {m : fm_}
  (h : f_X1_addReading p1 p2 p3 p4 m = some q) {Q : Option Value → am_W → Prop} (hQ : Q (en_i q).1 (mk_ n r q.2)) : am_T m_X1_addReading sp_X1_addReading n Q 0 [some (.ref 72), some (.int p1), some (.int p2), some (.int p3), some (.long p4), none, none] [] (mk_ n r m) :=
  am_T.wp sm_X1_addReading (K := am_T m_X1_addReading sp_X1_addReading n Q) (cuts := []) (fun _ _ _ _ h => h) 42
    (fh_bd h fun q1 e2 h3 => ⟨Nat.le_of_ble_eq_true rfl, fn_aF hf rfl rfl, ⟨hf, some (.int q1.1), q1.2, gp_X1_add (n := n) (r := r)  e2, fun _ => fh_if h3 (fun c4 h5 => ⟨rfl, fh_rt h5 hQ⟩) (fun c4 h5 => fh_bd h5 fun q6 e7 h8 => ⟨Nat.le_of_ble_eq_true rfl, fn_aF hf rfl rfl, ⟨hf, some (.int q6.1), q6.2, gp_X1_hasRoomOn (n := n) (r := r)  e7, fun _ => fh_if h8 (fun c9 h10 => ⟨rfl, fh_rt h10 hQ⟩) (fun c9 h10 => ⟨fn_aF hf rfl rfl, Or.inl ⟨_, hf.2 72 6 79 rfl, fh_gd h10 fun g12 h11 => ⟨200, fn_aF hf rfl rfl, ix_t g12, ⟨fn_aF hf rfl rfl, Or.inl ⟨_, hf.2 72 9 80 rfl, ⟨fn_aF hf rfl rfl, Or.inl ⟨_, hf.2 72 10 81 rfl, fh_gd h11 fun g14 h13 => ⟨100, fn_aF hf rfl rfl, ix_t g14, fh_gd h13 fun g16 h15 => ⟨700, fn_aF hf rfl rfl, ix_t g16, ⟨fn_aF hf rfl rfl, Or.inl ⟨_, hf.2 72 10 81 rfl, fh_gd h15 fun g18 h17 => ⟨100, fn_aF hf rfl rfl, ix_t g18, fh_gd h17 fun g20 h19 => ⟨100, fn_aF hf rfl rfl, ix_t g20, ⟨rfl, fh_rt h19 hQ⟩⟩⟩⟩⟩⟩⟩⟩⟩⟩⟩⟩⟩⟩)⟩⟩)⟩⟩)
noncomputable def G_X1_addReading (n : Nat) (r : Nat → Nat → Option Nat) (as : List Value) (m : fm_) : Option (Option Value × fm_) := match as with
  | [.ref x0, .int p1, .int p2, .int p3, .long p4] => gd_ (Nat.beq x0 72) ((f_X1_addReading p1 p2 p3 p4 m).map en_i)
  | _ => none
set_option maxRecDepth 100000 in
theorem gp_X1_addReading {n : Nat} {r : Nat → Nat → Option Nat}  {p1 : Int32} {p2 : Int32} {p3 : Int32} {p4 : Int64} {m : fm_} {q : Int32 × fm_}  (e : f_X1_addReading p1 p2 p3 p4 m = some q) : G_X1_addReading n r [.ref 72, .int p1, .int p2, .int p3, .long p4] m = some (en_i q) := by
  show (gd_ (Nat.beq 72 72) ((f_X1_addReading p1 p2 p3 p4 m).map en_i)) = _
  exact fn_gd rfl (fn_mp e)
set_option maxRecDepth 100000 in
theorem ok_X1_addReading : am_mok 1 12 m_X1_addReading = true := by decide +kernel
set_option maxRecDepth 100000 in
theorem c_X1_addReading (l : Launch) {g : am_G} (hg : fx_ l g) : am_Met l g 2 12 (fn_s fn_F G_X1_addReading) := by
  refine am_sound (own := 1) (M := m_X1_addReading) (SP := sp_X1_addReading) hg.1 (by decide +kernel) ok_X1_addReading (by decide +kernel) ?_ (fun q hq hk => absurd hk (am_no61 (M := m_X1_addReading) (by decide +kernel) q hq)) (fn_ext l _ rfl g 1) (Or.inl (by decide +kernel)) ?_ ?_
  · intro q hq hk
    have hm : q.2.2.2.1 ∈ am_cs m_X1_addReading := am_cs_in hq hk
    rw [show am_cs m_X1_addReading = [22, 13] by decide +kernel] at hm
    have hm : q.2.2.2.1 ∈ [13, 22] := (List.all_eq_true.mp (show ([22, 13] : List Nat).all (fun a => decide (a ∈ ([13, 22] : List Nat))) = true by decide +kernel) _ hm |> of_decide_eq_true)
    simp only [List.mem_cons, List.not_mem_nil, or_false] at hm
    rcases hm with hm | hm
    · rw [hm]; exact ⟨1, by omega, c_X1_hasRoomOn l hg⟩
    · rw [hm]; exact ⟨0, by omega, c_X1_add l hg⟩
  · intro as w K h
    obtain ⟨hf, y, m1, hG, hK⟩ := h
    unfold G_X1_addReading at hG
    split at hG
    · exact Nat.le_of_ble_eq_true rfl
    · cases hG
  · intro as w K h
    obtain ⟨n, i0, l0, r⟩ := w
    obtain ⟨hf, y, m1, hG, hK⟩ := h
    unfold G_X1_addReading at hG
    split at hG
    · next x0 p1 p2 p3 p4 =>
      obtain ⟨hx1, hG1⟩ := gd_u hG
      obtain rfl := Nat.eq_of_beq_eq_true hx1
      obtain ⟨q, hq, he⟩ := fn_mu hG1
      obtain ⟨rfl, rfl⟩ := Prod.mk.inj he
      exact t_X1_addReading  hf  p1 p2 p3 p4 (m := (i0, l0)) hq hK
    · cases hG

/-! == X1_dropReadings == -/
abbrev S_X1_dropReadings : Type := (Int32 × fm_)
noncomputable def st_X1_dropReadings (s : S_X1_dropReadings) : Option (S_X1_dropReadings ⊕ (Int32 × fm_)) := match s with
  | (x1, m) =>
    (if (gi_ m 72 7) ≤ x1 then
(Option.bind (f_J7_fill_53178 81 100 0 m) fun q3 =>
((some (Sum.inr (0, q3.2)))))
else
(gd_ (ix_ x1 200)
(if (gi_ m 73 (Int32.toNatClampNeg x1)) = 2 then
(gd_ (ix_ x1 200)
((some (Sum.inl (((x1 + 1), (si_ m 73 (Int32.toNatClampNeg x1) 4)))))))
else
((some (Sum.inl (((x1 + 1), m))))))))
noncomputable def f_X1_dropReadings_2 (x1 : Int32) (m : fm_) : Option (Int32 × fm_) := am_lp (st_X1_dropReadings) ((x1, m))
theorem e_X1_dropReadings_2 (x1 : Int32) (m : fm_) : f_X1_dropReadings_2 x1 m =
(if (gi_ m 72 7) ≤ x1 then
(Option.bind (f_J7_fill_53178 81 100 0 m) fun q3 =>
((some (0, q3.2))))
else
(gd_ (ix_ x1 200)
(if (gi_ m 73 (Int32.toNatClampNeg x1)) = 2 then
(gd_ (ix_ x1 200)
((f_X1_dropReadings_2 (x1 + 1) (si_ m 73 (Int32.toNatClampNeg x1) 4))))
else
((f_X1_dropReadings_2 (x1 + 1) m))))) :=
  (am_lp_eq _ _).trans (fe_if (fe_bd fun q3 => (rfl)) (fe_gd (fe_if (fe_gd (rfl)) (rfl))))
noncomputable def f_X1_dropReadings  (m : fm_) : Option (Int32 × fm_) :=
  ((f_X1_dropReadings_2 0 m))
def sp_X1_dropReadings : am_S := fn_sp [(299, fn_0, G_J7_fill_53178)]
theorem sm_X1_dropReadings : am_Smono (sp_X1_dropReadings) := fn_sp_mono _
def P_X1_dropReadings (n : Nat) (r : Nat → Nat → Option Nat) (s : S_X1_dropReadings) (q : Int32 × fm_) : Prop := match s with
  | (x1, m) => ∀ (Q : Option Value → am_W → Prop), Q (en_v q).1 (mk_ n r q.2) → am_T m_X1_dropReadings sp_X1_dropReadings n Q 2 [some (.ref 72), some (.int x1)] [] (mk_ n r m)
set_option maxRecDepth 100000 in
theorem t_X1_dropReadings_2 {n : Nat} {r : Nat → Nat → Option Nat} (hf : fn_F n r) {K : S_X1_dropReadings → Option (Int32 × fm_)} {q : Int32 × fm_} (hK : ∀ s, K s = some q → P_X1_dropReadings n r s q) (x1 : Int32) (m : fm_)
  (h : am_k K (st_X1_dropReadings ((x1, m))) = some q) : P_X1_dropReadings n r ((x1, m)) q := fun Q hQ =>
  am_T.wp sm_X1_dropReadings (K := am_T m_X1_dropReadings sp_X1_dropReadings n Q) (cuts := [2]) (fun _ _ _ _ h => h) 19
    (⟨fn_aF hf rfl rfl, fj_if h (fun c1 h2 => ⟨fn_aF hf rfl rfl, Or.inl ⟨_, hf.2 72 10 81 rfl, fj_bd h2 fun q3 e4 h5 => ⟨Nat.le_of_ble_eq_true rfl, trivial, ⟨trivial, none, q3.2, gp_J7_fill_53178 (n := n) (r := r) (rfl) (fn_ltF hf (rfl)) e4, fun _ => ⟨rfl, ⟨rfl, fj_rt h5 hQ⟩⟩⟩⟩⟩⟩) (fun c1 h2 => ⟨fn_aF hf rfl rfl, Or.inl ⟨_, hf.2 72 0 73 rfl, fj_gd h2 fun g7 h6 => ⟨200, fn_aF hf rfl rfl, ix_t g7, fj_in h6 (fun c8 h9 => hK _ h9 _ hQ) (fun c8 h9 => ⟨fn_aF hf rfl rfl, Or.inl ⟨_, hf.2 72 0 73 rfl, fj_gd h9 fun g11 h10 => ⟨200, fn_aF hf rfl rfl, ix_t g11, hK _ h10 _ hQ⟩⟩⟩)⟩⟩⟩)⟩)
theorem l_X1_dropReadings {n : Nat} {r : Nat → Nat → Option Nat} (hf : fn_F n r) (s : S_X1_dropReadings) (q : Int32 × fm_) (h : am_lp (st_X1_dropReadings) s = some q) : P_X1_dropReadings n r s q :=
  am_lp_snd (P := P_X1_dropReadings n r) (fun K hK s q h => match s, h with
    | (x1, m), h => t_X1_dropReadings_2 hf (fun s => hK s q) x1 m h) s q h
set_option maxRecDepth 100000 in
theorem t_X1_dropReadings {n : Nat} {r : Nat → Nat → Option Nat} (hf : fn_F n r) {q : Int32 × fm_}  {m : fm_}
  (h : f_X1_dropReadings  m = some q) {Q : Option Value → am_W → Prop} (hQ : Q (en_v q).1 (mk_ n r q.2)) : am_T m_X1_dropReadings sp_X1_dropReadings n Q 0 [some (.ref 72), none] [] (mk_ n r m) :=
  am_T.wp sm_X1_dropReadings (K := am_T m_X1_dropReadings sp_X1_dropReadings n Q) (cuts := [2]) (fun _ _ _ _ h => h) 4
    (l_X1_dropReadings hf _ _ h _ hQ)
noncomputable def G_X1_dropReadings (n : Nat) (r : Nat → Nat → Option Nat) (as : List Value) (m : fm_) : Option (Option Value × fm_) := match as with
  | [.ref x0] => gd_ (Nat.beq x0 72) ((f_X1_dropReadings  m).map en_v)
  | _ => none
set_option maxRecDepth 100000 in
theorem gp_X1_dropReadings {n : Nat} {r : Nat → Nat → Option Nat}   {m : fm_} {q : Int32 × fm_}  (e : f_X1_dropReadings  m = some q) : G_X1_dropReadings n r [.ref 72] m = some (en_v q) := by
  show (gd_ (Nat.beq 72 72) ((f_X1_dropReadings  m).map en_v)) = _
  exact fn_gd rfl (fn_mp e)
set_option maxRecDepth 100000 in
theorem ok_X1_dropReadings : am_mok 1 14 m_X1_dropReadings = true := by decide +kernel
set_option maxRecDepth 100000 in
theorem c_X1_dropReadings (l : Launch) {g : am_G} (hg : fx_ l g) : am_Met l g 1 14 (fn_s fn_F G_X1_dropReadings) := by
  refine am_sound (own := 1) (M := m_X1_dropReadings) (SP := sp_X1_dropReadings) hg.1 (by decide +kernel) ok_X1_dropReadings (by decide +kernel) ?_ (fun q hq hk => absurd hk (am_no61 (M := m_X1_dropReadings) (by decide +kernel) q hq)) (fn_ext l _ rfl g 1) (Or.inl (by decide +kernel)) ?_ ?_
  · intro q hq hk
    have hm : q.2.2.2.1 ∈ am_cs m_X1_dropReadings := am_cs_in hq hk
    rw [show am_cs m_X1_dropReadings = [299] by decide +kernel] at hm
    have hm : q.2.2.2.1 ∈ [299] := (List.all_eq_true.mp (show ([299] : List Nat).all (fun a => decide (a ∈ ([299] : List Nat))) = true by decide +kernel) _ hm |> of_decide_eq_true)
    simp only [List.mem_cons, List.not_mem_nil, or_false] at hm
    rcases hm with hm
    · rw [hm]; exact ⟨0, by omega, c_J7_fill_53178 l hg⟩
  · intro as w K h
    obtain ⟨hf, y, m1, hG, hK⟩ := h
    unfold G_X1_dropReadings at hG
    split at hG
    · exact Nat.le_of_ble_eq_true rfl
    · cases hG
  · intro as w K h
    obtain ⟨n, i0, l0, r⟩ := w
    obtain ⟨hf, y, m1, hG, hK⟩ := h
    unfold G_X1_dropReadings at hG
    split at hG
    · next x0 =>
      obtain ⟨hx1, hG1⟩ := gd_u hG
      obtain rfl := Nat.eq_of_beq_eq_true hx1
      obtain ⟨q, hq, he⟩ := fn_mu hG1
      obtain ⟨rfl, rfl⟩ := Prod.mk.inj he
      exact t_X1_dropReadings  hf   (m := (i0, l0)) hq hK
    · cases hG

/-! == X1_takeBack == -/
noncomputable def f_X1_takeBack (p1 : Int32) (m : fm_) : Option (Int32 × fm_) :=
  (Option.bind (f_X11_isUnder p1 (gi_ m 72 7) m) fun q1 =>
(if q1.1 = 0 then
((some (0, q1.2)))
else
(gd_ (ix_ p1 200)
(if (gi_ q1.2 73 (Int32.toNatClampNeg p1)) = 4 then
((some (0, q1.2)))
else
(gd_ (ix_ p1 200)
(if (gi_ q1.2 75 (Int32.toNatClampNeg p1)) = (-1) then
(gd_ (ix_ p1 200)
((some (1, (si_ q1.2 75 (Int32.toNatClampNeg p1) (gi_ q1.2 72 8))))))
else
((some (0, q1.2)))))))))
def sp_X1_takeBack : am_S := fn_sp [(182, fn_0, G_X11_isUnder)]
theorem sm_X1_takeBack : am_Smono (sp_X1_takeBack) := fn_sp_mono _
set_option maxRecDepth 100000 in
theorem t_X1_takeBack {n : Nat} {r : Nat → Nat → Option Nat} (hf : fn_F n r) {q : Int32 × fm_} (p1 : Int32) {m : fm_}
  (h : f_X1_takeBack p1 m = some q) {Q : Option Value → am_W → Prop} (hQ : Q (en_i q).1 (mk_ n r q.2)) : am_T m_X1_takeBack sp_X1_takeBack n Q 0 [some (.ref 72), some (.int p1)] [] (mk_ n r m) :=
  am_T.wp sm_X1_takeBack (K := am_T m_X1_takeBack sp_X1_takeBack n Q) (cuts := []) (fun _ _ _ _ h => h) 26
    (⟨fn_aF hf rfl rfl, fh_bd h fun q1 e2 h3 => ⟨Nat.le_of_ble_eq_true rfl, trivial, ⟨trivial, some (.int q1.1), q1.2, gp_X11_isUnder (n := n) (r := r)  e2, fun _ => fh_if h3 (fun c4 h5 => ⟨rfl, Or.inl rfl, fh_rt h5 hQ⟩) (fun c4 h5 => ⟨fn_aF hf rfl rfl, Or.inl ⟨_, hf.2 72 0 73 rfl, fh_gd h5 fun g7 h6 => ⟨200, fn_aF hf rfl rfl, ix_t g7, fh_if h6 (fun c8 h9 => ⟨rfl, Or.inl rfl, fh_rt h9 hQ⟩) (fun c8 h9 => ⟨fn_aF hf rfl rfl, Or.inl ⟨_, hf.2 72 2 75 rfl, fh_gd h9 fun g11 h10 => ⟨200, fn_aF hf rfl rfl, ix_t g11, fh_if h10 (fun c12 h13 => ⟨fn_aF hf rfl rfl, Or.inl ⟨_, hf.2 72 2 75 rfl, ⟨fn_aF hf rfl rfl, fh_gd h13 fun g15 h14 => ⟨200, fn_aF hf rfl rfl, ix_t g15, ⟨rfl, Or.inr rfl, fh_rt h14 hQ⟩⟩⟩⟩⟩) (fun c12 h13 => ⟨rfl, Or.inl rfl, fh_rt h13 hQ⟩)⟩⟩⟩)⟩⟩⟩)⟩⟩⟩)
noncomputable def G_X1_takeBack (n : Nat) (r : Nat → Nat → Option Nat) (as : List Value) (m : fm_) : Option (Option Value × fm_) := match as with
  | [.ref x0, .int p1] => gd_ (Nat.beq x0 72) ((f_X1_takeBack p1 m).map en_i)
  | _ => none
set_option maxRecDepth 100000 in
theorem gp_X1_takeBack {n : Nat} {r : Nat → Nat → Option Nat}  {p1 : Int32} {m : fm_} {q : Int32 × fm_}  (e : f_X1_takeBack p1 m = some q) : G_X1_takeBack n r [.ref 72, .int p1] m = some (en_i q) := by
  show (gd_ (Nat.beq 72 72) ((f_X1_takeBack p1 m).map en_i)) = _
  exact fn_gd rfl (fn_mp e)
set_option maxRecDepth 100000 in
theorem ok_X1_takeBack : am_mok 1 15 m_X1_takeBack = true := by decide +kernel
set_option maxRecDepth 100000 in
theorem c_X1_takeBack (l : Launch) {g : am_G} (hg : fx_ l g) : am_Met l g 1 15 (fn_s fn_F G_X1_takeBack) := by
  refine am_sound (own := 1) (M := m_X1_takeBack) (SP := sp_X1_takeBack) hg.1 (by decide +kernel) ok_X1_takeBack (by decide +kernel) ?_ (fun q hq hk => absurd hk (am_no61 (M := m_X1_takeBack) (by decide +kernel) q hq)) (fn_ext l _ rfl g 1) (Or.inl (by decide +kernel)) ?_ ?_
  · intro q hq hk
    have hm : q.2.2.2.1 ∈ am_cs m_X1_takeBack := am_cs_in hq hk
    rw [show am_cs m_X1_takeBack = [182] by decide +kernel] at hm
    have hm : q.2.2.2.1 ∈ [182] := (List.all_eq_true.mp (show ([182] : List Nat).all (fun a => decide (a ∈ ([182] : List Nat))) = true by decide +kernel) _ hm |> of_decide_eq_true)
    simp only [List.mem_cons, List.not_mem_nil, or_false] at hm
    rcases hm with hm
    · rw [hm]; exact ⟨0, by omega, c_X11_isUnder l hg⟩
  · intro as w K h
    obtain ⟨hf, y, m1, hG, hK⟩ := h
    unfold G_X1_takeBack at hG
    split at hG
    · exact Nat.le_of_ble_eq_true rfl
    · cases hG
  · intro as w K h
    obtain ⟨n, i0, l0, r⟩ := w
    obtain ⟨hf, y, m1, hG, hK⟩ := h
    unfold G_X1_takeBack at hG
    split at hG
    · next x0 p1 =>
      obtain ⟨hx1, hG1⟩ := gd_u hG
      obtain rfl := Nat.eq_of_beq_eq_true hx1
      obtain ⟨q, hq, he⟩ := fn_mu hG1
      obtain ⟨rfl, rfl⟩ := Prod.mk.inj he
      exact t_X1_takeBack  hf  p1 (m := (i0, l0)) hq hK
    · cases hG

/-! == X1_isReading == -/
noncomputable def f_X1_isReading (p1 : Int32) (m : fm_) : Option (Int32 × fm_) :=
  (if p1 < 0 then
((some (0, m)))
else
(if (gi_ m 72 7) ≤ p1 then
((some (0, m)))
else
(gd_ (ix_ p1 200)
(if (gi_ m 73 (Int32.toNatClampNeg p1)) = 2 then
((some (1, m)))
else
((some (0, m)))))))
def sp_X1_isReading : am_S := fn_sp []
theorem sm_X1_isReading : am_Smono (sp_X1_isReading) := fn_sp_mono _
set_option maxRecDepth 100000 in
theorem t_X1_isReading {n : Nat} {r : Nat → Nat → Option Nat} (hf : fn_F n r) {q : Int32 × fm_} (p1 : Int32) {m : fm_}
  (h : f_X1_isReading p1 m = some q) {Q : Option Value → am_W → Prop} (hQ : Q (en_i q).1 (mk_ n r q.2)) : am_T m_X1_isReading sp_X1_isReading n Q 0 [some (.ref 72), some (.int p1)] [] (mk_ n r m) :=
  am_T.wp sm_X1_isReading (K := am_T m_X1_isReading sp_X1_isReading n Q) (cuts := []) (fun _ _ _ _ h => h) 16
    (fh_if h (fun c1 h2 => ⟨rfl, Or.inl rfl, fh_rt h2 hQ⟩) (fun c1 h2 => ⟨fn_aF hf rfl rfl, fh_if h2 (fun c3 h4 => ⟨rfl, Or.inl rfl, fh_rt h4 hQ⟩) (fun c3 h4 => ⟨fn_aF hf rfl rfl, Or.inl ⟨_, hf.2 72 0 73 rfl, fh_gd h4 fun g6 h5 => ⟨200, fn_aF hf rfl rfl, ix_t g6, fh_in h5 (fun c7 h8 => ⟨rfl, Or.inl rfl, fh_rt h8 hQ⟩) (fun c7 h8 => ⟨rfl, Or.inr rfl, fh_rt h8 hQ⟩)⟩⟩⟩)⟩))
noncomputable def G_X1_isReading (n : Nat) (r : Nat → Nat → Option Nat) (as : List Value) (m : fm_) : Option (Option Value × fm_) := match as with
  | [.ref x0, .int p1] => gd_ (Nat.beq x0 72) ((f_X1_isReading p1 m).map en_i)
  | _ => none
set_option maxRecDepth 100000 in
theorem gp_X1_isReading {n : Nat} {r : Nat → Nat → Option Nat}  {p1 : Int32} {m : fm_} {q : Int32 × fm_}  (e : f_X1_isReading p1 m = some q) : G_X1_isReading n r [.ref 72, .int p1] m = some (en_i q) := by
  show (gd_ (Nat.beq 72 72) ((f_X1_isReading p1 m).map en_i)) = _
  exact fn_gd rfl (fn_mp e)
set_option maxRecDepth 100000 in
theorem ok_X1_isReading : am_mok 1 16 m_X1_isReading = true := by decide +kernel
set_option maxRecDepth 100000 in
theorem c_X1_isReading (l : Launch) {g : am_G} (hg : fx_ l g) : am_Met l g 0 16 (fn_s fn_F G_X1_isReading) := by
  refine am_sound (own := 1) (M := m_X1_isReading) (SP := sp_X1_isReading) hg.1 (by decide +kernel) ok_X1_isReading (by decide +kernel) ?_ (fun q hq hk => absurd hk (am_no61 (M := m_X1_isReading) (by decide +kernel) q hq)) (fn_ext l _ rfl g 1) (Or.inl (by decide +kernel)) ?_ ?_
  · intro q hq hk
    have hm : q.2.2.2.1 ∈ am_cs m_X1_isReading := am_cs_in hq hk
    rw [show am_cs m_X1_isReading = [] by decide +kernel] at hm
    cases hm
  · intro as w K h
    obtain ⟨hf, y, m1, hG, hK⟩ := h
    unfold G_X1_isReading at hG
    split at hG
    · exact Nat.le_of_ble_eq_true rfl
    · cases hG
  · intro as w K h
    obtain ⟨n, i0, l0, r⟩ := w
    obtain ⟨hf, y, m1, hG, hK⟩ := h
    unfold G_X1_isReading at hG
    split at hG
    · next x0 p1 =>
      obtain ⟨hx1, hG1⟩ := gd_u hG
      obtain rfl := Nat.eq_of_beq_eq_true hx1
      obtain ⟨q, hq, he⟩ := fn_mu hG1
      obtain ⟨rfl, rfl⟩ := Prod.mk.inj he
      exact t_X1_isReading  hf  p1 (m := (i0, l0)) hq hK
    · cases hG

/-! == X1_counts == -/
noncomputable def f_X1_counts (p1 : Int32) (p2 : Int32) (m : fm_) : Option (Int32 × fm_) :=
  (Option.bind (f_X11_isUnder p1 (gi_ m 72 7) m) fun q1 =>
(if q1.1 = 0 then
((some (0, q1.2)))
else
(gd_ (ix_ p1 200)
(if p2 < (gi_ q1.2 74 (Int32.toNatClampNeg p1)) then
((some (0, q1.2)))
else
(gd_ (ix_ p1 200)
(if (gi_ q1.2 75 (Int32.toNatClampNeg p1)) = (-1) then
((some (1, q1.2)))
else
(gd_ (ix_ p1 200)
(if (gi_ q1.2 75 (Int32.toNatClampNeg p1)) ≤ p2 then
((some (0, q1.2)))
else
((some (1, q1.2)))))))))))
def sp_X1_counts : am_S := fn_sp [(182, fn_0, G_X11_isUnder)]
theorem sm_X1_counts : am_Smono (sp_X1_counts) := fn_sp_mono _
set_option maxRecDepth 100000 in
theorem t_X1_counts {n : Nat} {r : Nat → Nat → Option Nat} (hf : fn_F n r) {q : Int32 × fm_} (p1 : Int32) (p2 : Int32) {m : fm_}
  (h : f_X1_counts p1 p2 m = some q) {Q : Option Value → am_W → Prop} (hQ : Q (en_i q).1 (mk_ n r q.2)) : am_T m_X1_counts sp_X1_counts n Q 0 [some (.ref 72), some (.int p1), some (.int p2)] [] (mk_ n r m) :=
  am_T.wp sm_X1_counts (K := am_T m_X1_counts sp_X1_counts n Q) (cuts := []) (fun _ _ _ _ h => h) 27
    (⟨fn_aF hf rfl rfl, fh_bd h fun q1 e2 h3 => ⟨Nat.le_of_ble_eq_true rfl, trivial, ⟨trivial, some (.int q1.1), q1.2, gp_X11_isUnder (n := n) (r := r)  e2, fun _ => fh_if h3 (fun c4 h5 => ⟨rfl, Or.inl rfl, fh_rt h5 hQ⟩) (fun c4 h5 => ⟨fn_aF hf rfl rfl, Or.inl ⟨_, hf.2 72 1 74 rfl, fh_gd h5 fun g7 h6 => ⟨200, fn_aF hf rfl rfl, ix_t g7, fh_if h6 (fun c8 h9 => ⟨rfl, Or.inl rfl, fh_rt h9 hQ⟩) (fun c8 h9 => ⟨fn_aF hf rfl rfl, Or.inl ⟨_, hf.2 72 2 75 rfl, fh_gd h9 fun g11 h10 => ⟨200, fn_aF hf rfl rfl, ix_t g11, fh_if h10 (fun c12 h13 => ⟨rfl, Or.inr rfl, fh_rt h13 hQ⟩) (fun c12 h13 => ⟨fn_aF hf rfl rfl, Or.inl ⟨_, hf.2 72 2 75 rfl, fh_gd h13 fun g15 h14 => ⟨200, fn_aF hf rfl rfl, ix_t g15, fh_if h14 (fun c16 h17 => ⟨rfl, Or.inl rfl, fh_rt h17 hQ⟩) (fun c16 h17 => ⟨rfl, Or.inr rfl, fh_rt h17 hQ⟩)⟩⟩⟩)⟩⟩⟩)⟩⟩⟩)⟩⟩⟩)
noncomputable def G_X1_counts (n : Nat) (r : Nat → Nat → Option Nat) (as : List Value) (m : fm_) : Option (Option Value × fm_) := match as with
  | [.ref x0, .int p1, .int p2] => gd_ (Nat.beq x0 72) ((f_X1_counts p1 p2 m).map en_i)
  | _ => none
set_option maxRecDepth 100000 in
theorem gp_X1_counts {n : Nat} {r : Nat → Nat → Option Nat}  {p1 : Int32} {p2 : Int32} {m : fm_} {q : Int32 × fm_}  (e : f_X1_counts p1 p2 m = some q) : G_X1_counts n r [.ref 72, .int p1, .int p2] m = some (en_i q) := by
  show (gd_ (Nat.beq 72 72) ((f_X1_counts p1 p2 m).map en_i)) = _
  exact fn_gd rfl (fn_mp e)
set_option maxRecDepth 100000 in
theorem ok_X1_counts : am_mok 1 17 m_X1_counts = true := by decide +kernel
set_option maxRecDepth 100000 in
theorem c_X1_counts (l : Launch) {g : am_G} (hg : fx_ l g) : am_Met l g 1 17 (fn_s fn_F G_X1_counts) := by
  refine am_sound (own := 1) (M := m_X1_counts) (SP := sp_X1_counts) hg.1 (by decide +kernel) ok_X1_counts (by decide +kernel) ?_ (fun q hq hk => absurd hk (am_no61 (M := m_X1_counts) (by decide +kernel) q hq)) (fn_ext l _ rfl g 1) (Or.inl (by decide +kernel)) ?_ ?_
  · intro q hq hk
    have hm : q.2.2.2.1 ∈ am_cs m_X1_counts := am_cs_in hq hk
    rw [show am_cs m_X1_counts = [182] by decide +kernel] at hm
    have hm : q.2.2.2.1 ∈ [182] := (List.all_eq_true.mp (show ([182] : List Nat).all (fun a => decide (a ∈ ([182] : List Nat))) = true by decide +kernel) _ hm |> of_decide_eq_true)
    simp only [List.mem_cons, List.not_mem_nil, or_false] at hm
    rcases hm with hm
    · rw [hm]; exact ⟨0, by omega, c_X11_isUnder l hg⟩
  · intro as w K h
    obtain ⟨hf, y, m1, hG, hK⟩ := h
    unfold G_X1_counts at hG
    split at hG
    · exact Nat.le_of_ble_eq_true rfl
    · cases hG
  · intro as w K h
    obtain ⟨n, i0, l0, r⟩ := w
    obtain ⟨hf, y, m1, hG, hK⟩ := h
    unfold G_X1_counts at hG
    split at hG
    · next x0 p1 p2 =>
      obtain ⟨hx1, hG1⟩ := gd_u hG
      obtain rfl := Nat.eq_of_beq_eq_true hx1
      obtain ⟨q, hq, he⟩ := fn_mu hG1
      obtain ⟨rfl, rfl⟩ := Prod.mk.inj he
      exact t_X1_counts  hf  p1 p2 (m := (i0, l0)) hq hK
    · cases hG

/-! == X1_readingsOn == -/
noncomputable def f_X1_readingsOn (p1 : Int32) (m : fm_) : Option (Int32 × fm_) :=
  (Option.bind (f_X11_isDay p1 m) fun q1 =>
(if q1.1 = 0 then
((some (0, q1.2)))
else
(gd_ (ix_ p1 100)
((some ((gi_ q1.2 81 (Int32.toNatClampNeg p1)), q1.2))))))
def sp_X1_readingsOn : am_S := fn_sp [(181, fn_0, G_X11_isDay)]
theorem sm_X1_readingsOn : am_Smono (sp_X1_readingsOn) := fn_sp_mono _
set_option maxRecDepth 100000 in
theorem t_X1_readingsOn {n : Nat} {r : Nat → Nat → Option Nat} (hf : fn_F n r) {q : Int32 × fm_} (p1 : Int32) {m : fm_}
  (h : f_X1_readingsOn p1 m = some q) {Q : Option Value → am_W → Prop} (hQ : Q (en_i q).1 (mk_ n r q.2)) : am_T m_X1_readingsOn sp_X1_readingsOn n Q 0 [some (.ref 72), some (.int p1)] [] (mk_ n r m) :=
  am_T.wp sm_X1_readingsOn (K := am_T m_X1_readingsOn sp_X1_readingsOn n Q) (cuts := []) (fun _ _ _ _ h => h) 10
    (fh_bd h fun q1 e2 h3 => ⟨Nat.le_of_ble_eq_true rfl, trivial, ⟨trivial, some (.int q1.1), q1.2, gp_X11_isDay (n := n) (r := r)  e2, fun _ => fh_if h3 (fun c4 h5 => ⟨rfl, fh_rt h5 hQ⟩) (fun c4 h5 => ⟨fn_aF hf rfl rfl, Or.inl ⟨_, hf.2 72 10 81 rfl, fh_gd h5 fun g7 h6 => ⟨100, fn_aF hf rfl rfl, ix_t g7, ⟨rfl, fh_rt h6 hQ⟩⟩⟩⟩)⟩⟩)
noncomputable def G_X1_readingsOn (n : Nat) (r : Nat → Nat → Option Nat) (as : List Value) (m : fm_) : Option (Option Value × fm_) := match as with
  | [.ref x0, .int p1] => gd_ (Nat.beq x0 72) ((f_X1_readingsOn p1 m).map en_i)
  | _ => none
set_option maxRecDepth 100000 in
theorem gp_X1_readingsOn {n : Nat} {r : Nat → Nat → Option Nat}  {p1 : Int32} {m : fm_} {q : Int32 × fm_}  (e : f_X1_readingsOn p1 m = some q) : G_X1_readingsOn n r [.ref 72, .int p1] m = some (en_i q) := by
  show (gd_ (Nat.beq 72 72) ((f_X1_readingsOn p1 m).map en_i)) = _
  exact fn_gd rfl (fn_mp e)
set_option maxRecDepth 100000 in
theorem ok_X1_readingsOn : am_mok 1 18 m_X1_readingsOn = true := by decide +kernel
set_option maxRecDepth 100000 in
theorem c_X1_readingsOn (l : Launch) {g : am_G} (hg : fx_ l g) : am_Met l g 1 18 (fn_s fn_F G_X1_readingsOn) := by
  refine am_sound (own := 1) (M := m_X1_readingsOn) (SP := sp_X1_readingsOn) hg.1 (by decide +kernel) ok_X1_readingsOn (by decide +kernel) ?_ (fun q hq hk => absurd hk (am_no61 (M := m_X1_readingsOn) (by decide +kernel) q hq)) (fn_ext l _ rfl g 1) (Or.inl (by decide +kernel)) ?_ ?_
  · intro q hq hk
    have hm : q.2.2.2.1 ∈ am_cs m_X1_readingsOn := am_cs_in hq hk
    rw [show am_cs m_X1_readingsOn = [181] by decide +kernel] at hm
    have hm : q.2.2.2.1 ∈ [181] := (List.all_eq_true.mp (show ([181] : List Nat).all (fun a => decide (a ∈ ([181] : List Nat))) = true by decide +kernel) _ hm |> of_decide_eq_true)
    simp only [List.mem_cons, List.not_mem_nil, or_false] at hm
    rcases hm with hm
    · rw [hm]; exact ⟨0, by omega, c_X11_isDay l hg⟩
  · intro as w K h
    obtain ⟨hf, y, m1, hG, hK⟩ := h
    unfold G_X1_readingsOn at hG
    split at hG
    · exact Nat.le_of_ble_eq_true rfl
    · cases hG
  · intro as w K h
    obtain ⟨n, i0, l0, r⟩ := w
    obtain ⟨hf, y, m1, hG, hK⟩ := h
    unfold G_X1_readingsOn at hG
    split at hG
    · next x0 p1 =>
      obtain ⟨hx1, hG1⟩ := gd_u hG
      obtain rfl := Nat.eq_of_beq_eq_true hx1
      obtain ⟨q, hq, he⟩ := fn_mu hG1
      obtain ⟨rfl, rfl⟩ := Prod.mk.inj he
      exact t_X1_readingsOn  hf  p1 (m := (i0, l0)) hq hK
    · cases hG

/-! == X1_readingOn == -/
noncomputable def f_X1_readingOn (p1 : Int32) (p2 : Int32) (m : fm_) : Option (Int32 × fm_) :=
  (Option.bind (f_X11_isDay p1 m) fun q1 =>
(if q1.1 = 0 then
((some ((-1), q1.2)))
else
(if p2 < 0 then
((some ((-1), q1.2)))
else
(gd_ (ix_ p1 100)
(if (gi_ q1.2 81 (Int32.toNatClampNeg p1)) ≤ p2 then
((some ((-1), q1.2)))
else
(gd_ (ix_ ((p1 * 7) + p2) 700)
((some ((gi_ q1.2 80 (Int32.toNatClampNeg ((p1 * 7) + p2))), q1.2)))))))))
def sp_X1_readingOn : am_S := fn_sp [(181, fn_0, G_X11_isDay)]
theorem sm_X1_readingOn : am_Smono (sp_X1_readingOn) := fn_sp_mono _
set_option maxRecDepth 100000 in
theorem t_X1_readingOn {n : Nat} {r : Nat → Nat → Option Nat} (hf : fn_F n r) {q : Int32 × fm_} (p1 : Int32) (p2 : Int32) {m : fm_}
  (h : f_X1_readingOn p1 p2 m = some q) {Q : Option Value → am_W → Prop} (hQ : Q (en_i q).1 (mk_ n r q.2)) : am_T m_X1_readingOn sp_X1_readingOn n Q 0 [some (.ref 72), some (.int p1), some (.int p2), none] [] (mk_ n r m) :=
  am_T.wp sm_X1_readingOn (K := am_T m_X1_readingOn sp_X1_readingOn n Q) (cuts := []) (fun _ _ _ _ h => h) 27
    (fh_bd h fun q1 e2 h3 => ⟨Nat.le_of_ble_eq_true rfl, trivial, ⟨trivial, some (.int q1.1), q1.2, gp_X11_isDay (n := n) (r := r)  e2, fun _ => fh_if h3 (fun c4 h5 => ⟨fun c6 => ⟨rfl, fh_rt h5 hQ⟩, fun c6 => absurd c6 (by decide)⟩) (fun c4 h5 => fh_if h5 (fun c7 h8 => ⟨fun c9 => ⟨rfl, fh_rt h8 hQ⟩, fun c9 => absurd c9 (by decide)⟩) (fun c7 h8 => ⟨fn_aF hf rfl rfl, Or.inl ⟨_, hf.2 72 10 81 rfl, fh_gd h8 fun g11 h10 => ⟨100, fn_aF hf rfl rfl, ix_t g11, fh_if h10 (fun c12 h13 => ⟨fun c14 => ⟨rfl, fh_rt h13 hQ⟩, fun c14 => absurd c14 (by decide)⟩) (fun c12 h13 => ⟨fun c15 => absurd c15 (by decide), fun c15 => ⟨fn_aF hf rfl rfl, Or.inl ⟨_, hf.2 72 9 80 rfl, fh_gd h13 fun g17 h16 => ⟨700, fn_aF hf rfl rfl, ix_t g17, ⟨rfl, fh_rt h16 hQ⟩⟩⟩⟩⟩)⟩⟩⟩))⟩⟩)
noncomputable def G_X1_readingOn (n : Nat) (r : Nat → Nat → Option Nat) (as : List Value) (m : fm_) : Option (Option Value × fm_) := match as with
  | [.ref x0, .int p1, .int p2] => gd_ (Nat.beq x0 72) ((f_X1_readingOn p1 p2 m).map en_i)
  | _ => none
set_option maxRecDepth 100000 in
theorem gp_X1_readingOn {n : Nat} {r : Nat → Nat → Option Nat}  {p1 : Int32} {p2 : Int32} {m : fm_} {q : Int32 × fm_}  (e : f_X1_readingOn p1 p2 m = some q) : G_X1_readingOn n r [.ref 72, .int p1, .int p2] m = some (en_i q) := by
  show (gd_ (Nat.beq 72 72) ((f_X1_readingOn p1 p2 m).map en_i)) = _
  exact fn_gd rfl (fn_mp e)
set_option maxRecDepth 100000 in
theorem ok_X1_readingOn : am_mok 1 19 m_X1_readingOn = true := by decide +kernel
set_option maxRecDepth 100000 in
theorem c_X1_readingOn (l : Launch) {g : am_G} (hg : fx_ l g) : am_Met l g 1 19 (fn_s fn_F G_X1_readingOn) := by
  refine am_sound (own := 1) (M := m_X1_readingOn) (SP := sp_X1_readingOn) hg.1 (by decide +kernel) ok_X1_readingOn (by decide +kernel) ?_ (fun q hq hk => absurd hk (am_no61 (M := m_X1_readingOn) (by decide +kernel) q hq)) (fn_ext l _ rfl g 1) (Or.inl (by decide +kernel)) ?_ ?_
  · intro q hq hk
    have hm : q.2.2.2.1 ∈ am_cs m_X1_readingOn := am_cs_in hq hk
    rw [show am_cs m_X1_readingOn = [181] by decide +kernel] at hm
    have hm : q.2.2.2.1 ∈ [181] := (List.all_eq_true.mp (show ([181] : List Nat).all (fun a => decide (a ∈ ([181] : List Nat))) = true by decide +kernel) _ hm |> of_decide_eq_true)
    simp only [List.mem_cons, List.not_mem_nil, or_false] at hm
    rcases hm with hm
    · rw [hm]; exact ⟨0, by omega, c_X11_isDay l hg⟩
  · intro as w K h
    obtain ⟨hf, y, m1, hG, hK⟩ := h
    unfold G_X1_readingOn at hG
    split at hG
    · exact Nat.le_of_ble_eq_true rfl
    · cases hG
  · intro as w K h
    obtain ⟨n, i0, l0, r⟩ := w
    obtain ⟨hf, y, m1, hG, hK⟩ := h
    unfold G_X1_readingOn at hG
    split at hG
    · next x0 p1 p2 =>
      obtain ⟨hx1, hG1⟩ := gd_u hG
      obtain rfl := Nat.eq_of_beq_eq_true hx1
      obtain ⟨q, hq, he⟩ := fn_mu hG1
      obtain ⟨rfl, rfl⟩ := Prod.mk.inj he
      exact t_X1_readingOn  hf  p1 p2 (m := (i0, l0)) hq hK
    · cases hG

