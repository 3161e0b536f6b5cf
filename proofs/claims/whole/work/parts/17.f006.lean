/-! == X4_isInHours == -/
noncomputable def f_X4_isInHours (o : Nat) (p1 : Int32) (m : fm_) : Option (Int32 × fm_) :=
  (if (gi_ m o 8) = (-1) then
((some (1, m)))
else
(if p1 < (gi_ m o 7) then
((some (0, m)))
else
(if (gi_ m o 8) ≤ p1 then
((some (0, m)))
else
((some (1, m))))))
def sp_X4_isInHours : am_S := fn_sp []
theorem sm_X4_isInHours : am_Smono (sp_X4_isInHours) := fn_sp_mono _
set_option maxRecDepth 100000 in
theorem t_X4_isInHours (o : Nat) {n : Nat} {r : Nat → Nat → Option Nat} (hf : fn_F n r) (ho : is_O o = true) {q : Int32 × fm_} (p1 : Int32) {m : fm_}
  (h : f_X4_isInHours o p1 m = some q) {Q : Option Value → am_W → Prop} (hQ : Q (en_i q).1 (mk_ n r q.2)) : am_T m_X4_isInHours sp_X4_isInHours n Q 0 [some (.ref o), some (.int p1)] [] (mk_ n r m) :=
  am_T.wp sm_X4_isInHours (K := am_T m_X4_isInHours sp_X4_isInHours n Q) (cuts := []) (fun _ _ _ _ h => h) 16
    (⟨fn_aO0 hf ho rfl, fh_if h (fun c1 h2 => ⟨rfl, Or.inr rfl, fh_rt h2 hQ⟩) (fun c1 h2 => ⟨fn_aO0 hf ho rfl, fh_if h2 (fun c3 h4 => ⟨rfl, Or.inl rfl, fh_rt h4 hQ⟩) (fun c3 h4 => ⟨fn_aO0 hf ho rfl, fh_if h4 (fun c5 h6 => ⟨rfl, Or.inl rfl, fh_rt h6 hQ⟩) (fun c5 h6 => ⟨rfl, Or.inr rfl, fh_rt h6 hQ⟩)⟩)⟩)⟩)
noncomputable def G_X4_isInHours (n : Nat) (r : Nat → Nat → Option Nat) (as : List Value) (m : fm_) : Option (Option Value × fm_) := match as with
  | [.ref o, .int p1] => gd_ (is_O o) ((f_X4_isInHours o p1 m).map en_i)
  | _ => none
set_option maxRecDepth 100000 in
theorem gp_X4_isInHours {n : Nat} {r : Nat → Nat → Option Nat} {o : Nat} {p1 : Int32} {m : fm_} {q : Int32 × fm_} (ho : is_O o = true) (e : f_X4_isInHours o p1 m = some q) : G_X4_isInHours n r [.ref o, .int p1] m = some (en_i q) := by
  show (gd_ (is_O o) ((f_X4_isInHours o p1 m).map en_i)) = _
  exact fn_gd ho (fn_mp e)
set_option maxRecDepth 100000 in
theorem ok_X4_isInHours : am_mok 4 37 m_X4_isInHours = true := by decide +kernel
set_option maxRecDepth 100000 in
theorem c_X4_isInHours (l : Launch) {g : am_G} (hg : fx_ l g) : am_Met l g 0 37 (fn_s fn_F G_X4_isInHours) := by
  refine am_sound (own := 4) (M := m_X4_isInHours) (SP := sp_X4_isInHours) hg.1 (by decide +kernel) ok_X4_isInHours (by decide +kernel) ?_ (fun q hq hk => absurd hk (am_no61 (M := m_X4_isInHours) (by decide +kernel) q hq)) (fn_ext l _ rfl g 4) (Or.inl (by decide +kernel)) ?_ ?_
  · intro q hq hk
    have hm : q.2.2.2.1 ∈ am_cs m_X4_isInHours := am_cs_in hq hk
    rw [show am_cs m_X4_isInHours = [] by decide +kernel] at hm
    cases hm
  · intro as w K h
    obtain ⟨hf, y, m1, hG, hK⟩ := h
    unfold G_X4_isInHours at hG
    split at hG
    · exact Nat.le_of_ble_eq_true rfl
    · cases hG
  · intro as w K h
    obtain ⟨n, i0, l0, r⟩ := w
    obtain ⟨hf, y, m1, hG, hK⟩ := h
    unfold G_X4_isInHours at hG
    split at hG
    · next o p1 =>
      obtain ⟨ho, hG1⟩ := gd_u hG
      obtain ⟨q, hq, he⟩ := fn_mu hG1
      obtain ⟨rfl, rfl⟩ := Prod.mk.inj he
      exact t_X4_isInHours o hf ho p1 (m := (i0, l0)) hq hK
    · cases hG

/-! == X4_chargeOf == -/
noncomputable def f_X4_chargeOf (o : Nat) (p1 : Int32) (m : fm_) : Option (Int32 × fm_) :=
  (Option.bind (f_X11_isUnder p1 10 m) fun q1 =>
(if q1.1 = 0 then
((some (0, q1.2)))
else
(gd_ (ix_ p1 10)
((some ((mx_ (gi_ q1.2 (o + 4) (Int32.toNatClampNeg p1)) 0), q1.2))))))
def sp_X4_chargeOf : am_S := fn_sp [(182, fn_0, G_X11_isUnder)]
theorem sm_X4_chargeOf : am_Smono (sp_X4_chargeOf) := fn_sp_mono _
set_option maxRecDepth 100000 in
theorem t_X4_chargeOf (o : Nat) {n : Nat} {r : Nat → Nat → Option Nat} (hf : fn_F n r) (ho : is_O o = true) {q : Int32 × fm_} (p1 : Int32) {m : fm_}
  (h : f_X4_chargeOf o p1 m = some q) {Q : Option Value → am_W → Prop} (hQ : Q (en_i q).1 (mk_ n r q.2)) : am_T m_X4_chargeOf sp_X4_chargeOf n Q 0 [some (.ref o), some (.int p1)] [] (mk_ n r m) :=
  am_T.wp sm_X4_chargeOf (K := am_T m_X4_chargeOf sp_X4_chargeOf n Q) (cuts := []) (fun _ _ _ _ h => h) 13
    (fh_bd h fun q1 e2 h3 => ⟨Nat.le_of_ble_eq_true rfl, trivial, ⟨trivial, some (.int q1.1), q1.2, gp_X11_isUnder (n := n) (r := r)  e2, fun _ => fh_if h3 (fun c4 h5 => ⟨rfl, fh_rt h5 hQ⟩) (fun c4 h5 => ⟨fn_aO0 hf ho rfl, Or.inl ⟨_, fn_rO6 hf ho, fh_gd h5 fun g7 h6 => ⟨10, fn_aO4 hf ho rfl, ix_t g7, ⟨Nat.le_of_ble_eq_true rfl, ⟨rfl, fh_rt h6 hQ⟩⟩⟩⟩⟩)⟩⟩)
noncomputable def G_X4_chargeOf (n : Nat) (r : Nat → Nat → Option Nat) (as : List Value) (m : fm_) : Option (Option Value × fm_) := match as with
  | [.ref o, .int p1] => gd_ (is_O o) ((f_X4_chargeOf o p1 m).map en_i)
  | _ => none
set_option maxRecDepth 100000 in
theorem gp_X4_chargeOf {n : Nat} {r : Nat → Nat → Option Nat} {o : Nat} {p1 : Int32} {m : fm_} {q : Int32 × fm_} (ho : is_O o = true) (e : f_X4_chargeOf o p1 m = some q) : G_X4_chargeOf n r [.ref o, .int p1] m = some (en_i q) := by
  show (gd_ (is_O o) ((f_X4_chargeOf o p1 m).map en_i)) = _
  exact fn_gd ho (fn_mp e)
set_option maxRecDepth 100000 in
theorem ok_X4_chargeOf : am_mok 4 38 m_X4_chargeOf = true := by decide +kernel
set_option maxRecDepth 100000 in
theorem c_X4_chargeOf (l : Launch) {g : am_G} (hg : fx_ l g) : am_Met l g 1 38 (fn_s fn_F G_X4_chargeOf) := by
  refine am_sound (own := 4) (M := m_X4_chargeOf) (SP := sp_X4_chargeOf) hg.1 (by decide +kernel) ok_X4_chargeOf (by decide +kernel) ?_ (fun q hq hk => absurd hk (am_no61 (M := m_X4_chargeOf) (by decide +kernel) q hq)) (fn_ext l _ rfl g 4) (Or.inl (by decide +kernel)) ?_ ?_
  · intro q hq hk
    have hm : q.2.2.2.1 ∈ am_cs m_X4_chargeOf := am_cs_in hq hk
    rw [show am_cs m_X4_chargeOf = [182] by decide +kernel] at hm
    have hm : q.2.2.2.1 ∈ [182] := (List.all_eq_true.mp (show ([182] : List Nat).all (fun a => decide (a ∈ ([182] : List Nat))) = true by decide +kernel) _ hm |> of_decide_eq_true)
    simp only [List.mem_cons, List.not_mem_nil, or_false] at hm
    rcases hm with hm
    · rw [hm]; exact ⟨0, by omega, c_X11_isUnder l hg⟩
  · intro as w K h
    obtain ⟨hf, y, m1, hG, hK⟩ := h
    unfold G_X4_chargeOf at hG
    split at hG
    · exact Nat.le_of_ble_eq_true rfl
    · cases hG
  · intro as w K h
    obtain ⟨n, i0, l0, r⟩ := w
    obtain ⟨hf, y, m1, hG, hK⟩ := h
    unfold G_X4_chargeOf at hG
    split at hG
    · next o p1 =>
      obtain ⟨ho, hG1⟩ := gd_u hG
      obtain ⟨q, hq, he⟩ := fn_mu hG1
      obtain ⟨rfl, rfl⟩ := Prod.mk.inj he
      exact t_X4_chargeOf o hf ho p1 (m := (i0, l0)) hq hK
    · cases hG

/-! == X4_isPush == -/
noncomputable def f_X4_isPush (p1 : Int32) (m : fm_) : Option (Int32 × fm_) :=
  (if p1 ≤ (-9) then
((some (0, m)))
else
((some (1, m))))
def sp_X4_isPush : am_S := fn_sp []
theorem sm_X4_isPush : am_Smono (sp_X4_isPush) := fn_sp_mono _
set_option maxRecDepth 100000 in
theorem t_X4_isPush {n : Nat} {r : Nat → Nat → Option Nat} (hf : fn_0 n r) {q : Int32 × fm_} (p1 : Int32) {m : fm_}
  (h : f_X4_isPush p1 m = some q) {Q : Option Value → am_W → Prop} (hQ : Q (en_i q).1 (mk_ n r q.2)) : am_T m_X4_isPush sp_X4_isPush n Q 0 [some (.int p1)] [] (mk_ n r m) :=
  am_T.wp sm_X4_isPush (K := am_T m_X4_isPush sp_X4_isPush n Q) (cuts := []) (fun _ _ _ _ h => h) 7
    (fh_if h (fun c1 h2 => ⟨rfl, Or.inl rfl, fh_rt h2 hQ⟩) (fun c1 h2 => ⟨rfl, Or.inr rfl, fh_rt h2 hQ⟩))
noncomputable def G_X4_isPush (n : Nat) (r : Nat → Nat → Option Nat) (as : List Value) (m : fm_) : Option (Option Value × fm_) := match as with
  | [.int p1] => (f_X4_isPush p1 m).map en_i
  | _ => none
set_option maxRecDepth 100000 in
theorem gp_X4_isPush {n : Nat} {r : Nat → Nat → Option Nat}  {p1 : Int32} {m : fm_} {q : Int32 × fm_}  (e : f_X4_isPush p1 m = some q) : G_X4_isPush n r [.int p1] m = some (en_i q) := by
  show ((f_X4_isPush p1 m).map en_i) = _
  exact fn_mp e
set_option maxRecDepth 100000 in
theorem ok_X4_isPush : am_mok 4 43 m_X4_isPush = true := by decide +kernel
set_option maxRecDepth 100000 in
theorem c_X4_isPush (l : Launch) {g : am_G} (hg : fx_ l g) : am_Met l g 0 43 (fn_s fn_0 G_X4_isPush) := by
  refine am_sound (own := 4) (M := m_X4_isPush) (SP := sp_X4_isPush) hg.1 (by decide +kernel) ok_X4_isPush (by decide +kernel) ?_ (fun q hq hk => absurd hk (am_no61 (M := m_X4_isPush) (by decide +kernel) q hq)) (fn_ext l _ rfl g 4) (Or.inl (by decide +kernel)) ?_ ?_
  · intro q hq hk
    have hm : q.2.2.2.1 ∈ am_cs m_X4_isPush := am_cs_in hq hk
    rw [show am_cs m_X4_isPush = [] by decide +kernel] at hm
    cases hm
  · intro as w K h
    obtain ⟨hf, y, m1, hG, hK⟩ := h
    unfold G_X4_isPush at hG
    split at hG
    · exact Nat.le_of_ble_eq_true rfl
    · cases hG
  · intro as w K h
    obtain ⟨n, i0, l0, r⟩ := w
    obtain ⟨hf, y, m1, hG, hK⟩ := h
    unfold G_X4_isPush at hG
    split at hG
    · next p1 =>
      obtain ⟨q, hq, he⟩ := fn_mu hG
      obtain ⟨rfl, rfl⟩ := Prod.mk.inj he
      exact t_X4_isPush  hf  p1 (m := (i0, l0)) hq hK
    · cases hG

/-! == X4_pushed == -/
noncomputable def f_X4_pushed (p1 : Int32) (m : fm_) : Option (Int32 × fm_) :=
  (if ((-1) - p1) < 0 then
((some (p1, m)))
else
(if (Int32.ofNat 8) ≤ ((-1) - p1) then
((some (p1, m)))
else
(gd_ (ix_ ((-1) - p1) 8)
((some ((gi_ m 93 (Int32.toNatClampNeg ((-1) - p1))), m))))))
def sp_X4_pushed : am_S := fn_sp []
theorem sm_X4_pushed : am_Smono (sp_X4_pushed) := fn_sp_mono _
set_option maxRecDepth 100000 in
theorem t_X4_pushed {n : Nat} {r : Nat → Nat → Option Nat} (hf : fn_F n r) {q : Int32 × fm_} (p1 : Int32) {m : fm_}
  (h : f_X4_pushed p1 m = some q) {Q : Option Value → am_W → Prop} (hQ : Q (en_i q).1 (mk_ n r q.2)) : am_T m_X4_pushed sp_X4_pushed n Q 0 [some (.int p1), some (.ref 93), none] [] (mk_ n r m) :=
  am_T.wp sm_X4_pushed (K := am_T m_X4_pushed sp_X4_pushed n Q) (cuts := []) (fun _ _ _ _ h => h) 16
    (fh_if h (fun c1 h2 => ⟨rfl, fh_rt h2 hQ⟩) (fun c1 h2 => ⟨0, 8, fn_aF hf rfl rfl, Nat.le_of_ble_eq_true rfl, fh_if h2 (fun c3 h4 => ⟨rfl, fh_rt h4 hQ⟩) (fun c3 h4 => fh_gd h4 fun g6 h5 => ⟨8, fn_aF hf rfl rfl, ix_t g6, ⟨rfl, fh_rt h5 hQ⟩⟩)⟩))
noncomputable def G_X4_pushed (n : Nat) (r : Nat → Nat → Option Nat) (as : List Value) (m : fm_) : Option (Option Value × fm_) := match as with
  | [.int p1, .ref z2] => gd_ (Nat.beq z2 93) ((f_X4_pushed p1 m).map en_i)
  | _ => none
set_option maxRecDepth 100000 in
theorem gp_X4_pushed {n : Nat} {r : Nat → Nat → Option Nat}  {p1 : Int32} {m : fm_} {q : Int32 × fm_}  (e : f_X4_pushed p1 m = some q) : G_X4_pushed n r [.int p1, .ref 93] m = some (en_i q) := by
  show (gd_ (Nat.beq 93 93) ((f_X4_pushed p1 m).map en_i)) = _
  exact fn_gd rfl (fn_mp e)
set_option maxRecDepth 100000 in
theorem ok_X4_pushed : am_mok 4 44 m_X4_pushed = true := by decide +kernel
set_option maxRecDepth 100000 in
theorem c_X4_pushed (l : Launch) {g : am_G} (hg : fx_ l g) : am_Met l g 0 44 (fn_s fn_F G_X4_pushed) := by
  refine am_sound (own := 4) (M := m_X4_pushed) (SP := sp_X4_pushed) hg.1 (by decide +kernel) ok_X4_pushed (by decide +kernel) ?_ (fun q hq hk => absurd hk (am_no61 (M := m_X4_pushed) (by decide +kernel) q hq)) (fn_ext l _ rfl g 4) (Or.inl (by decide +kernel)) ?_ ?_
  · intro q hq hk
    have hm : q.2.2.2.1 ∈ am_cs m_X4_pushed := am_cs_in hq hk
    rw [show am_cs m_X4_pushed = [] by decide +kernel] at hm
    cases hm
  · intro as w K h
    obtain ⟨hf, y, m1, hG, hK⟩ := h
    unfold G_X4_pushed at hG
    split at hG
    · exact Nat.le_of_ble_eq_true rfl
    · cases hG
  · intro as w K h
    obtain ⟨n, i0, l0, r⟩ := w
    obtain ⟨hf, y, m1, hG, hK⟩ := h
    unfold G_X4_pushed at hG
    split at hG
    · next p1 z2 =>
      obtain ⟨hx1, hG1⟩ := gd_u hG
      obtain rfl := Nat.eq_of_beq_eq_true hx1
      obtain ⟨q, hq, he⟩ := fn_mu hG1
      obtain ⟨rfl, rfl⟩ := Prod.mk.inj he
      exact t_X4_pushed  hf  p1 (m := (i0, l0)) hq hK
    · cases hG

/-! == X4_joined == -/
noncomputable def f_X4_joined (p1 : Int32) (p2 : Int32) (p3 : Int32) (m : fm_) : Option (Int32 × fm_) :=
  (if (-p1) = 43 then
((some ((p2 + p3), m)))
else
(if (-p1) = 45 then
((some ((p2 - p3), m)))
else
(if (-p1) = 60 then
(if p3 ≤ p2 then
((some (0, m)))
else
((some (1, m))))
else
(if (-p1) = 61 then
(if p2 = p3 then
((some (1, m)))
else
((some (0, m))))
else
(if (-p1) = 62 then
(if p2 ≤ p3 then
((some (0, m)))
else
((some (1, m))))
else
(if (-p1) = 112 then
((some ((p2 ||| p3), m)))
else
(if (-p1) = 113 then
((some ((p2 &&& p3), m)))
else
((some (0, m))))))))))
def sp_X4_joined : am_S := fn_sp []
theorem sm_X4_joined : am_Smono (sp_X4_joined) := fn_sp_mono _
set_option maxRecDepth 100000 in
theorem t_X4_joined {n : Nat} {r : Nat → Nat → Option Nat} (hf : fn_0 n r) {q : Int32 × fm_} (p1 : Int32) (p2 : Int32) (p3 : Int32) {m : fm_}
  (h : f_X4_joined p1 p2 p3 m = some q) {Q : Option Value → am_W → Prop} (hQ : Q (en_i q).1 (mk_ n r q.2)) : am_T m_X4_joined sp_X4_joined n Q 0 [some (.int p1), some (.int p2), some (.int p3)] [] (mk_ n r m) :=
  am_T.wp sm_X4_joined (K := am_T m_X4_joined sp_X4_joined n Q) (cuts := []) (fun _ _ _ _ h => h) 10
    (⟨fun c1 => have h2 := fh_t h c1; ⟨rfl, fh_rt h2 hQ⟩, fun c1 => have h2 := fh_f h c1; am_swc (fh_if h2 (fun c3 h4 => ⟨rfl, fh_rt h4 hQ⟩) (fun c3 h4 => am_swc (fh_if h4 (fun c5 h6 => fh_if h6 (fun c7 h8 => ⟨rfl, fh_rt h8 hQ⟩) (fun c7 h8 => ⟨rfl, fh_rt h8 hQ⟩)) (fun c5 h6 => am_swc (fh_if h6 (fun c9 h10 => fh_in h10 (fun c11 h12 => ⟨rfl, fh_rt h12 hQ⟩) (fun c11 h12 => ⟨rfl, fh_rt h12 hQ⟩)) (fun c9 h10 => am_swc (fh_if h10 (fun c13 h14 => fh_if h14 (fun c15 h16 => ⟨rfl, fh_rt h16 hQ⟩) (fun c15 h16 => ⟨rfl, fh_rt h16 hQ⟩)) (fun c13 h14 => am_swc (fh_if h14 (fun c17 h18 => ⟨rfl, fh_rt h18 hQ⟩) (fun c17 h18 => am_swc (fh_if h18 (fun c19 h20 => ⟨rfl, fh_rt h20 hQ⟩) (fun c19 h20 => am_swn (⟨rfl, fh_rt h20 hQ⟩)))))))))))))⟩)
noncomputable def G_X4_joined (n : Nat) (r : Nat → Nat → Option Nat) (as : List Value) (m : fm_) : Option (Option Value × fm_) := match as with
  | [.int p1, .int p2, .int p3] => (f_X4_joined p1 p2 p3 m).map en_i
  | _ => none
set_option maxRecDepth 100000 in
theorem gp_X4_joined {n : Nat} {r : Nat → Nat → Option Nat}  {p1 : Int32} {p2 : Int32} {p3 : Int32} {m : fm_} {q : Int32 × fm_}  (e : f_X4_joined p1 p2 p3 m = some q) : G_X4_joined n r [.int p1, .int p2, .int p3] m = some (en_i q) := by
  show ((f_X4_joined p1 p2 p3 m).map en_i) = _
  exact fn_mp e
set_option maxRecDepth 100000 in
theorem ok_X4_joined : am_mok 4 45 m_X4_joined = true := by decide +kernel
set_option maxRecDepth 100000 in
theorem c_X4_joined (l : Launch) {g : am_G} (hg : fx_ l g) : am_Met l g 0 45 (fn_s fn_0 G_X4_joined) := by
  refine am_sound (own := 4) (M := m_X4_joined) (SP := sp_X4_joined) hg.1 (by decide +kernel) ok_X4_joined (by decide +kernel) ?_ (fun q hq hk => absurd hk (am_no61 (M := m_X4_joined) (by decide +kernel) q hq)) (fn_ext l _ rfl g 4) (Or.inl (by decide +kernel)) ?_ ?_
  · intro q hq hk
    have hm : q.2.2.2.1 ∈ am_cs m_X4_joined := am_cs_in hq hk
    rw [show am_cs m_X4_joined = [] by decide +kernel] at hm
    cases hm
  · intro as w K h
    obtain ⟨hf, y, m1, hG, hK⟩ := h
    unfold G_X4_joined at hG
    split at hG
    · exact Nat.le_of_ble_eq_true rfl
    · cases hG
  · intro as w K h
    obtain ⟨n, i0, l0, r⟩ := w
    obtain ⟨hf, y, m1, hG, hK⟩ := h
    unfold G_X4_joined at hG
    split at hG
    · next p1 p2 p3 =>
      obtain ⟨q, hq, he⟩ := fn_mu hG
      obtain ⟨rfl, rfl⟩ := Prod.mk.inj he
      exact t_X4_joined  hf  p1 p2 p3 (m := (i0, l0)) hq hK
    · cases hG

/-! == X4_holds == -/
abbrev S_X4_holds : Type := (Int32 × Int32 × Int32 × fm_)
noncomputable def st_X4_holds (o : Nat) (s : S_X4_holds) : Option (S_X4_holds ⊕ (Int32 × fm_)) := match s with
  | (x1, x3, x4, m) =>
    (if (gi_ m o 2) ≤ x4 then
(if x3 = 1 then
(gd_ (ix_ 0 51)
(if (gi_ m (o + 5) (Int32.toNatClampNeg 0)) = 1 then
((some (Sum.inr (1, m))))
else
((some (Sum.inr (0, m))))))
else
((some (Sum.inr (0, m)))))
else
(gd_ (ix_ x4 400)
(if (gi_ m (o + 1) (Int32.toNatClampNeg x4)) = (-100) then
(if x3 = 1 then
(gd_ (ix_ 0 51)
(if (gi_ m (o + 5) (Int32.toNatClampNeg 0)) = 1 then
((some (Sum.inr (1, m))))
else
((some (Sum.inr (0, m))))))
else
((some (Sum.inr (0, m)))))
else
(gd_ (ix_ x4 400)
(Option.bind (f_X4_isPush (gi_ m (o + 1) (Int32.toNatClampNeg x4)) m) fun q21 =>
(if q21.1 = 0 then
(if (gi_ m (o + 1) (Int32.toNatClampNeg x4)) = (-114) then
(if 1 ≤ x3 then
(gd_ (ix_ (x3 - 1) 51)
(gd_ (ix_ (x3 - 1) 51)
((some (Sum.inl ((x1, x3, (x4 + 1), (si_ q21.2 (o + 5) (Int32.toNatClampNeg (x3 - 1)) (1 - (gi_ q21.2 (o + 5) (Int32.toNatClampNeg (x3 - 1))))))))))))
else
((some (Sum.inr (0, q21.2)))))
else
(if 2 ≤ x3 then
(gd_ (ix_ ((x3 + (-1)) - 1) 51)
(gd_ (ix_ (x3 + (-1)) 51)
(Option.bind (f_X4_joined (gi_ m (o + 1) (Int32.toNatClampNeg x4)) (gi_ q21.2 (o + 5) (Int32.toNatClampNeg ((x3 + (-1)) - 1))) (gi_ q21.2 (o + 5) (Int32.toNatClampNeg (x3 + (-1)))) q21.2) fun q34 =>
(gd_ (ix_ ((x3 + (-1)) - 1) 51)
((some (Sum.inl ((x1, (x3 + (-1)), (x4 + 1), (si_ q34.2 (o + 5) (Int32.toNatClampNeg ((x3 + (-1)) - 1)) q34.1))))))))))
else
((some (Sum.inr (0, q21.2))))))
else
(if x3 < (Int32.ofNat 51) then
(Option.bind (f_X4_pushed (gi_ m (o + 1) (Int32.toNatClampNeg x4)) q21.2) fun q47 =>
(gd_ (ix_ x3 51)
((some (Sum.inl ((x1, (x3 + 1), (x4 + 1), (si_ q47.2 (o + 5) (Int32.toNatClampNeg x3) q47.1))))))))
else
((some (Sum.inr (0, q21.2)))))))))))
noncomputable def f_X4_holds_11 (o : Nat) (x1 : Int32) (x3 : Int32) (x4 : Int32) (m : fm_) : Option (Int32 × fm_) := am_lp (st_X4_holds o) ((x1, x3, x4, m))
theorem e_X4_holds_11 (o : Nat) (x1 : Int32) (x3 : Int32) (x4 : Int32) (m : fm_) : f_X4_holds_11 o x1 x3 x4 m =
(if (gi_ m o 2) ≤ x4 then
(if x3 = 1 then
(gd_ (ix_ 0 51)
(if (gi_ m (o + 5) (Int32.toNatClampNeg 0)) = 1 then
((some (1, m)))
else
((some (0, m)))))
else
((some (0, m))))
else
(gd_ (ix_ x4 400)
(if (gi_ m (o + 1) (Int32.toNatClampNeg x4)) = (-100) then
(if x3 = 1 then
(gd_ (ix_ 0 51)
(if (gi_ m (o + 5) (Int32.toNatClampNeg 0)) = 1 then
((some (1, m)))
else
((some (0, m)))))
else
((some (0, m))))
else
(gd_ (ix_ x4 400)
(Option.bind (f_X4_isPush (gi_ m (o + 1) (Int32.toNatClampNeg x4)) m) fun q21 =>
(if q21.1 = 0 then
(if (gi_ m (o + 1) (Int32.toNatClampNeg x4)) = (-114) then
(if 1 ≤ x3 then
(gd_ (ix_ (x3 - 1) 51)
(gd_ (ix_ (x3 - 1) 51)
((f_X4_holds_11 o x1 x3 (x4 + 1) (si_ q21.2 (o + 5) (Int32.toNatClampNeg (x3 - 1)) (1 - (gi_ q21.2 (o + 5) (Int32.toNatClampNeg (x3 - 1)))))))))
else
((some (0, q21.2))))
else
(if 2 ≤ x3 then
(gd_ (ix_ ((x3 + (-1)) - 1) 51)
(gd_ (ix_ (x3 + (-1)) 51)
(Option.bind (f_X4_joined (gi_ m (o + 1) (Int32.toNatClampNeg x4)) (gi_ q21.2 (o + 5) (Int32.toNatClampNeg ((x3 + (-1)) - 1))) (gi_ q21.2 (o + 5) (Int32.toNatClampNeg (x3 + (-1)))) q21.2) fun q34 =>
(gd_ (ix_ ((x3 + (-1)) - 1) 51)
((f_X4_holds_11 o x1 (x3 + (-1)) (x4 + 1) (si_ q34.2 (o + 5) (Int32.toNatClampNeg ((x3 + (-1)) - 1)) q34.1)))))))
else
((some (0, q21.2)))))
else
(if x3 < (Int32.ofNat 51) then
(Option.bind (f_X4_pushed (gi_ m (o + 1) (Int32.toNatClampNeg x4)) q21.2) fun q47 =>
(gd_ (ix_ x3 51)
((f_X4_holds_11 o x1 (x3 + 1) (x4 + 1) (si_ q47.2 (o + 5) (Int32.toNatClampNeg x3) q47.1)))))
else
((some (0, q21.2)))))))))) :=
  (am_lp_eq _ _).trans (fe_if (fe_if (fe_gd (fe_if (rfl) (rfl))) (rfl)) (fe_gd (fe_if (fe_if (fe_gd (fe_if (rfl) (rfl))) (rfl)) (fe_gd (fe_bd fun q21 => (fe_if (fe_if (fe_if (fe_gd (fe_gd (rfl))) (rfl)) (fe_if (fe_gd (fe_gd (fe_bd fun q34 => (fe_gd (rfl))))) (rfl))) (fe_if (fe_bd fun q47 => (fe_gd (rfl))) (rfl))))))))
noncomputable def f_X4_holds (o : Nat) (p1 : Int32) (m : fm_) : Option (Int32 × fm_) :=
  (if 0 ≤ p1 then
((f_X4_holds_11 o p1 0 p1 m))
else
((some (0, m))))
def sp_X4_holds : am_S := fn_sp [(43, fn_0, G_X4_isPush), (44, fn_F, G_X4_pushed), (45, fn_0, G_X4_joined)]
theorem sm_X4_holds : am_Smono (sp_X4_holds) := fn_sp_mono _
def P_X4_holds (o : Nat) (n : Nat) (r : Nat → Nat → Option Nat) (s : S_X4_holds) (q : Int32 × fm_) : Prop := match s with
  | (x1, x3, x4, m) => ∀ (Q : Option Value → am_W → Prop) (y5 : Option Value), Q (en_i q).1 (mk_ n r q.2) → am_T m_X4_holds sp_X4_holds n Q 11 [some (.ref o), some (.int x1), some (.ref 93), some (.int x3), some (.int x4), y5] [] (mk_ n r m)
set_option maxRecDepth 100000 in
theorem t_X4_holds_11 (o : Nat) {n : Nat} {r : Nat → Nat → Option Nat} (hf : fn_F n r) (ho : is_O o = true) {K : S_X4_holds → Option (Int32 × fm_)} {q : Int32 × fm_} (hK : ∀ s, K s = some q → P_X4_holds o n r s q) (x1 : Int32) (x3 : Int32) (x4 : Int32) (m : fm_)
  (h : am_k K (st_X4_holds o ((x1, x3, x4, m))) = some q) : P_X4_holds o n r ((x1, x3, x4, m)) q := fun Q y5 hQ =>
  am_T.wp sm_X4_holds (K := am_T m_X4_holds sp_X4_holds n Q) (cuts := [11]) (fun _ _ _ _ h => h) 47
    (⟨fn_aO0 hf ho rfl, fj_if h (fun c1 h2 => fj_in h2 (fun c3 h4 => ⟨rfl, Or.inl rfl, fj_rt h4 hQ⟩) (fun c3 h4 => ⟨fn_aO0 hf ho rfl, Or.inl ⟨_, fn_rO12 hf ho, fj_gd h4 fun g6 h5 => ⟨51, fn_aO5 hf ho rfl, ix_t g6, fj_in h5 (fun c7 h8 => ⟨rfl, Or.inl rfl, fj_rt h8 hQ⟩) (fun c7 h8 => ⟨rfl, Or.inr rfl, fj_rt h8 hQ⟩)⟩⟩⟩)) (fun c1 h2 => ⟨fn_aO0 hf ho rfl, Or.inl ⟨_, fn_rO1 hf ho, fj_gd h2 fun g10 h9 => ⟨400, fn_aO1 hf ho rfl, ix_t g10, fj_if h9 (fun c11 h12 => fj_in h12 (fun c13 h14 => ⟨rfl, Or.inl rfl, fj_rt h14 hQ⟩) (fun c13 h14 => ⟨fn_aO0 hf ho rfl, Or.inl ⟨_, fn_rO12 hf ho, fj_gd h14 fun g16 h15 => ⟨51, fn_aO5 hf ho rfl, ix_t g16, fj_in h15 (fun c17 h18 => ⟨rfl, Or.inl rfl, fj_rt h18 hQ⟩) (fun c17 h18 => ⟨rfl, Or.inr rfl, fj_rt h18 hQ⟩)⟩⟩⟩)) (fun c11 h12 => ⟨fn_aO0 hf ho rfl, Or.inl ⟨_, fn_rO1 hf ho, fj_gd h12 fun g20 h19 => ⟨400, fn_aO1 hf ho rfl, ix_t g20, fj_bd h19 fun q21 e22 h23 => ⟨Nat.le_of_ble_eq_true rfl, trivial, ⟨trivial, some (.int q21.1), q21.2, gp_X4_isPush (n := n) (r := r)  e22, fun _ => fj_if h23 (fun c24 h25 => fj_in h25 (fun c26 h27 => fj_if h27 (fun c28 h29 => ⟨fn_aO0 hf ho rfl, Or.inl ⟨_, fn_rO12 hf ho, ⟨fn_aO0 hf ho rfl, Or.inl ⟨_, fn_rO12 hf ho, fj_gd h29 fun g31 h30 => ⟨51, fn_aO5 hf ho rfl, ix_t g31, ⟨fn_aO0 hf ho rfl, Or.inl ⟨_, fn_rO12 hf ho, fj_gd h30 fun g33 h32 => ⟨51, fn_aO5 hf ho rfl, ix_t g33, fj_bd h32 fun q34 e35 h36 => ⟨Nat.le_of_ble_eq_true rfl, trivial, ⟨trivial, some (.int q34.1), q34.2, gp_X4_joined (n := n) (r := r)  e35, fun _ => fj_gd h36 fun g38 h37 => ⟨51, fn_aO5 hf ho rfl, ix_t g38, hK _ h37 _ _ hQ⟩⟩⟩⟩⟩⟩⟩⟩⟩⟩⟩) (fun c28 h29 => ⟨rfl, Or.inl rfl, fj_rt h29 hQ⟩)) (fun c26 h27 => fj_if h27 (fun c39 h40 => ⟨fn_aO0 hf ho rfl, Or.inl ⟨_, fn_rO12 hf ho, ⟨fn_aO0 hf ho rfl, Or.inl ⟨_, fn_rO12 hf ho, fj_gd h40 fun g42 h41 => ⟨51, fn_aO5 hf ho rfl, ix_t g42, fj_gd h41 fun g44 h43 => ⟨51, fn_aO5 hf ho rfl, ix_t g44, hK _ h43 _ _ hQ⟩⟩⟩⟩⟩⟩) (fun c39 h40 => ⟨rfl, Or.inl rfl, fj_rt h40 hQ⟩))) (fun c24 h25 => ⟨fn_aO0 hf ho rfl, Or.inl ⟨_, fn_rO12 hf ho, ⟨0, 51, fn_aO5 hf ho rfl, Nat.le_of_ble_eq_true rfl, fj_if h25 (fun c45 h46 => ⟨fn_aO0 hf ho rfl, Or.inl ⟨_, fn_rO12 hf ho, fj_bd h46 fun q47 e48 h49 => ⟨Nat.le_of_ble_eq_true rfl, trivial, ⟨hf, some (.int q47.1), q47.2, (by
 have hz := gp_X4_pushed (n := n) (r := r)  e48
 have a5 : [Value.int (am_gi (mk_ n r m) (o + 1) x4.toNatClampNeg), Value.ref 93] = [Value.int (gi_ m (o + 1) x4.toNatClampNeg), Value.ref 93] := rfl
 simp only []
 rw [a5]
 exact hz), fun _ => fj_gd h49 fun g51 h50 => ⟨51, fn_aO5 hf ho rfl, ix_t g51, hK _ h50 _ _ hQ⟩⟩⟩⟩⟩) (fun c45 h46 => ⟨rfl, Or.inl rfl, fj_rt h46 hQ⟩)⟩⟩⟩)⟩⟩⟩⟩⟩)⟩⟩⟩)⟩)
theorem l_X4_holds (o : Nat) {n : Nat} {r : Nat → Nat → Option Nat} (hf : fn_F n r) (ho : is_O o = true) (s : S_X4_holds) (q : Int32 × fm_) (h : am_lp (st_X4_holds o) s = some q) : P_X4_holds o n r s q :=
  am_lp_snd (P := P_X4_holds o n r) (fun K hK s q h => match s, h with
    | (x1, x3, x4, m), h => t_X4_holds_11 o hf ho (fun s => hK s q) x1 x3 x4 m h) s q h
set_option maxRecDepth 100000 in
theorem t_X4_holds (o : Nat) {n : Nat} {r : Nat → Nat → Option Nat} (hf : fn_F n r) (ho : is_O o = true) {q : Int32 × fm_} (p1 : Int32) {m : fm_}
  (h : f_X4_holds o p1 m = some q) {Q : Option Value → am_W → Prop} (hQ : Q (en_i q).1 (mk_ n r q.2)) : am_T m_X4_holds sp_X4_holds n Q 0 [some (.ref o), some (.int p1), some (.ref 93), none, none, none] [] (mk_ n r m) :=
  am_T.wp sm_X4_holds (K := am_T m_X4_holds sp_X4_holds n Q) (cuts := [11]) (fun _ _ _ _ h => h) 8
    (fh_if h (fun c1 h2 => l_X4_holds o hf ho _ _ h2 _ _ hQ) (fun c1 h2 => ⟨rfl, Or.inl rfl, fh_rt h2 hQ⟩))
noncomputable def G_X4_holds (n : Nat) (r : Nat → Nat → Option Nat) (as : List Value) (m : fm_) : Option (Option Value × fm_) := match as with
  | [.ref o, .int p1, .ref z2] => gd_ (is_O o) (gd_ (Nat.beq z2 93) ((f_X4_holds o p1 m).map en_i))
  | _ => none
set_option maxRecDepth 100000 in
theorem gp_X4_holds {n : Nat} {r : Nat → Nat → Option Nat} {o : Nat} {p1 : Int32} {m : fm_} {q : Int32 × fm_} (ho : is_O o = true) (e : f_X4_holds o p1 m = some q) : G_X4_holds n r [.ref o, .int p1, .ref 93] m = some (en_i q) := by
  show (gd_ (is_O o) (gd_ (Nat.beq 93 93) ((f_X4_holds o p1 m).map en_i))) = _
  exact fn_gd ho (fn_gd rfl (fn_mp e))
set_option maxRecDepth 100000 in
theorem ok_X4_holds : am_mok 4 42 m_X4_holds = true := by decide +kernel
set_option maxRecDepth 100000 in
theorem c_X4_holds (l : Launch) {g : am_G} (hg : fx_ l g) : am_Met l g 1 42 (fn_s fn_F G_X4_holds) := by
  refine am_sound (own := 4) (M := m_X4_holds) (SP := sp_X4_holds) hg.1 (by decide +kernel) ok_X4_holds (by decide +kernel) ?_ (fun q hq hk => absurd hk (am_no61 (M := m_X4_holds) (by decide +kernel) q hq)) (fn_ext l _ rfl g 4) (Or.inl (by decide +kernel)) ?_ ?_
  · intro q hq hk
    have hm : q.2.2.2.1 ∈ am_cs m_X4_holds := am_cs_in hq hk
    rw [show am_cs m_X4_holds = [43, 44, 45] by decide +kernel] at hm
    have hm : q.2.2.2.1 ∈ [43, 44, 45] := (List.all_eq_true.mp (show ([43, 44, 45] : List Nat).all (fun a => decide (a ∈ ([43, 44, 45] : List Nat))) = true by decide +kernel) _ hm |> of_decide_eq_true)
    simp only [List.mem_cons, List.not_mem_nil, or_false] at hm
    rcases hm with hm | hm | hm
    · rw [hm]; exact ⟨0, by omega, c_X4_isPush l hg⟩
    · rw [hm]; exact ⟨0, by omega, c_X4_pushed l hg⟩
    · rw [hm]; exact ⟨0, by omega, c_X4_joined l hg⟩
  · intro as w K h
    obtain ⟨hf, y, m1, hG, hK⟩ := h
    unfold G_X4_holds at hG
    split at hG
    · exact Nat.le_of_ble_eq_true rfl
    · cases hG
  · intro as w K h
    obtain ⟨n, i0, l0, r⟩ := w
    obtain ⟨hf, y, m1, hG, hK⟩ := h
    unfold G_X4_holds at hG
    split at hG
    · next o p1 z2 =>
      obtain ⟨ho, hG1⟩ := gd_u hG
      obtain ⟨hx2, hG2⟩ := gd_u hG1
      obtain rfl := Nat.eq_of_beq_eq_true hx2
      obtain ⟨q, hq, he⟩ := fn_mu hG2
      obtain ⟨rfl, rfl⟩ := Prod.mk.inj he
      exact t_X4_holds o hf ho p1 (m := (i0, l0)) hq hK
    · cases hG

/-! == X4_classBy == -/
abbrev S_X4_classBy : Type := (Int32 × fm_)
noncomputable def st_X4_classBy (o : Nat) (s : S_X4_classBy) : Option (S_X4_classBy ⊕ (Int32 × fm_)) := match s with
  | (x2, m) =>
    (if (gi_ m o 5) ≤ x2 then
((some (Sum.inr (0, m))))
else
(if 6 ≤ x2 then
((some (Sum.inr (0, m))))
else
(gd_ (ix_ x2 6)
(Option.bind (f_X4_holds o (gi_ m (o + 3) (Int32.toNatClampNeg x2)) m) fun q7 =>
(if q7.1 = 0 then
((some (Sum.inl (((x2 + 1), q7.2)))))
else
(gd_ (ix_ x2 6)
((some (Sum.inr ((gi_ q7.2 (o + 2) (Int32.toNatClampNeg x2)), q7.2))))))))))
noncomputable def f_X4_classBy_2 (o : Nat) (x2 : Int32) (m : fm_) : Option (Int32 × fm_) := am_lp (st_X4_classBy o) ((x2, m))
theorem e_X4_classBy_2 (o : Nat) (x2 : Int32) (m : fm_) : f_X4_classBy_2 o x2 m =
(if (gi_ m o 5) ≤ x2 then
((some (0, m)))
else
(if 6 ≤ x2 then
((some (0, m)))
else
(gd_ (ix_ x2 6)
(Option.bind (f_X4_holds o (gi_ m (o + 3) (Int32.toNatClampNeg x2)) m) fun q7 =>
(if q7.1 = 0 then
((f_X4_classBy_2 o (x2 + 1) q7.2))
else
(gd_ (ix_ x2 6)
((some ((gi_ q7.2 (o + 2) (Int32.toNatClampNeg x2)), q7.2))))))))) :=
  (am_lp_eq _ _).trans (fe_if (rfl) (fe_if (rfl) (fe_gd (fe_bd fun q7 => (fe_if (rfl) (fe_gd (rfl)))))))
noncomputable def f_X4_classBy (o : Nat)  (m : fm_) : Option (Int32 × fm_) :=
  ((f_X4_classBy_2 o 0 m))
def sp_X4_classBy : am_S := fn_sp [(42, fn_F, G_X4_holds)]
theorem sm_X4_classBy : am_Smono (sp_X4_classBy) := fn_sp_mono _
def P_X4_classBy (o : Nat) (n : Nat) (r : Nat → Nat → Option Nat) (s : S_X4_classBy) (q : Int32 × fm_) : Prop := match s with
  | (x2, m) => ∀ (Q : Option Value → am_W → Prop), Q (en_i q).1 (mk_ n r q.2) → am_T m_X4_classBy sp_X4_classBy n Q 2 [some (.ref o), some (.ref 93), some (.int x2)] [] (mk_ n r m)
set_option maxRecDepth 100000 in
theorem t_X4_classBy_2 (o : Nat) {n : Nat} {r : Nat → Nat → Option Nat} (hf : fn_F n r) (ho : is_O o = true) {K : S_X4_classBy → Option (Int32 × fm_)} {q : Int32 × fm_} (hK : ∀ s, K s = some q → P_X4_classBy o n r s q) (x2 : Int32) (m : fm_)
  (h : am_k K (st_X4_classBy o ((x2, m))) = some q) : P_X4_classBy o n r ((x2, m)) q := fun Q hQ =>
  am_T.wp sm_X4_classBy (K := am_T m_X4_classBy sp_X4_classBy n Q) (cuts := [2]) (fun _ _ _ _ h => h) 21
    (⟨fn_aO0 hf ho rfl, fj_if h (fun c1 h2 => ⟨rfl, fj_rt h2 hQ⟩) (fun c1 h2 => fj_if h2 (fun c3 h4 => ⟨rfl, fj_rt h4 hQ⟩) (fun c3 h4 => ⟨fn_aO0 hf ho rfl, Or.inl ⟨_, fn_rO4 hf ho, fj_gd h4 fun g6 h5 => ⟨6, fn_aO3 hf ho rfl, ix_t g6, fj_bd h5 fun q7 e8 h9 => ⟨Nat.le_of_ble_eq_true rfl, fn_aO0 hf ho rfl, ⟨hf, some (.int q7.1), q7.2, gp_X4_holds (n := n) (r := r) ho e8, fun _ => fj_if h9 (fun c10 h11 => hK _ h11 _ hQ) (fun c10 h11 => ⟨fn_aO0 hf ho rfl, Or.inl ⟨_, fn_rO3 hf ho, fj_gd h11 fun g13 h12 => ⟨6, fn_aO2 hf ho rfl, ix_t g13, ⟨rfl, fj_rt h12 hQ⟩⟩⟩⟩)⟩⟩⟩⟩⟩))⟩)
theorem l_X4_classBy (o : Nat) {n : Nat} {r : Nat → Nat → Option Nat} (hf : fn_F n r) (ho : is_O o = true) (s : S_X4_classBy) (q : Int32 × fm_) (h : am_lp (st_X4_classBy o) s = some q) : P_X4_classBy o n r s q :=
  am_lp_snd (P := P_X4_classBy o n r) (fun K hK s q h => match s, h with
    | (x2, m), h => t_X4_classBy_2 o hf ho (fun s => hK s q) x2 m h) s q h
set_option maxRecDepth 100000 in
theorem t_X4_classBy (o : Nat) {n : Nat} {r : Nat → Nat → Option Nat} (hf : fn_F n r) (ho : is_O o = true) {q : Int32 × fm_}  {m : fm_}
  (h : f_X4_classBy o  m = some q) {Q : Option Value → am_W → Prop} (hQ : Q (en_i q).1 (mk_ n r q.2)) : am_T m_X4_classBy sp_X4_classBy n Q 0 [some (.ref o), some (.ref 93), none] [] (mk_ n r m) :=
  am_T.wp sm_X4_classBy (K := am_T m_X4_classBy sp_X4_classBy n Q) (cuts := [2]) (fun _ _ _ _ h => h) 4
    (l_X4_classBy o hf ho _ _ h _ hQ)
noncomputable def G_X4_classBy (n : Nat) (r : Nat → Nat → Option Nat) (as : List Value) (m : fm_) : Option (Option Value × fm_) := match as with
  | [.ref o, .ref z1] => gd_ (is_O o) (gd_ (Nat.beq z1 93) ((f_X4_classBy o m).map en_i))
  | _ => none
set_option maxRecDepth 100000 in
theorem gp_X4_classBy {n : Nat} {r : Nat → Nat → Option Nat} {o : Nat}  {m : fm_} {q : Int32 × fm_} (ho : is_O o = true) (e : f_X4_classBy o m = some q) : G_X4_classBy n r [.ref o, .ref 93] m = some (en_i q) := by
  show (gd_ (is_O o) (gd_ (Nat.beq 93 93) ((f_X4_classBy o m).map en_i))) = _
  exact fn_gd ho (fn_gd rfl (fn_mp e))
set_option maxRecDepth 100000 in
theorem ok_X4_classBy : am_mok 4 39 m_X4_classBy = true := by decide +kernel
set_option maxRecDepth 100000 in
theorem c_X4_classBy (l : Launch) {g : am_G} (hg : fx_ l g) : am_Met l g 2 39 (fn_s fn_F G_X4_classBy) := by
  refine am_sound (own := 4) (M := m_X4_classBy) (SP := sp_X4_classBy) hg.1 (by decide +kernel) ok_X4_classBy (by decide +kernel) ?_ (fun q hq hk => absurd hk (am_no61 (M := m_X4_classBy) (by decide +kernel) q hq)) (fn_ext l _ rfl g 4) (Or.inl (by decide +kernel)) ?_ ?_
  · intro q hq hk
    have hm : q.2.2.2.1 ∈ am_cs m_X4_classBy := am_cs_in hq hk
    rw [show am_cs m_X4_classBy = [42] by decide +kernel] at hm
    have hm : q.2.2.2.1 ∈ [42] := (List.all_eq_true.mp (show ([42] : List Nat).all (fun a => decide (a ∈ ([42] : List Nat))) = true by decide +kernel) _ hm |> of_decide_eq_true)
    simp only [List.mem_cons, List.not_mem_nil, or_false] at hm
    rcases hm with hm
    · rw [hm]; exact ⟨1, by omega, c_X4_holds l hg⟩
  · intro as w K h
    obtain ⟨hf, y, m1, hG, hK⟩ := h
    unfold G_X4_classBy at hG
    split at hG
    · exact Nat.le_of_ble_eq_true rfl
    · cases hG
  · intro as w K h
    obtain ⟨n, i0, l0, r⟩ := w
    obtain ⟨hf, y, m1, hG, hK⟩ := h
    unfold G_X4_classBy at hG
    split at hG
    · next o z1 =>
      obtain ⟨ho, hG1⟩ := gd_u hG
      obtain ⟨hx2, hG2⟩ := gd_u hG1
      obtain rfl := Nat.eq_of_beq_eq_true hx2
      obtain ⟨q, hq, he⟩ := fn_mu hG2
      obtain ⟨rfl, rfl⟩ := Prod.mk.inj he
      exact t_X4_classBy o hf ho  (m := (i0, l0)) hq hK
    · cases hG

/-! == X4_isFree == -/
noncomputable def f_X4_isFree (o : Nat)  (m : fm_) : Option (Int32 × fm_) :=
  (Option.bind (f_X4_holds o (gi_ m o 10) m) fun q1 =>
(gd_ (bl_ q1.1)
((some (q1.1, q1.2)))))
def sp_X4_isFree : am_S := fn_sp [(42, fn_F, G_X4_holds)]
theorem sm_X4_isFree : am_Smono (sp_X4_isFree) := fn_sp_mono _
set_option maxRecDepth 100000 in
theorem t_X4_isFree (o : Nat) {n : Nat} {r : Nat → Nat → Option Nat} (hf : fn_F n r) (ho : is_O o = true) {q : Int32 × fm_}  {m : fm_}
  (h : f_X4_isFree o  m = some q) {Q : Option Value → am_W → Prop} (hQ : Q (en_i q).1 (mk_ n r q.2)) : am_T m_X4_isFree sp_X4_isFree n Q 0 [some (.ref o), some (.ref 93)] [] (mk_ n r m) :=
  am_T.wp sm_X4_isFree (K := am_T m_X4_isFree sp_X4_isFree n Q) (cuts := []) (fun _ _ _ _ h => h) 7
    (⟨fn_aO0 hf ho rfl, fh_bd h fun q1 e2 h3 => ⟨Nat.le_of_ble_eq_true rfl, fn_aO0 hf ho rfl, ⟨hf, some (.int q1.1), q1.2, gp_X4_holds (n := n) (r := r) ho e2, fun _ => fh_gd h3 fun g5 h4 => ⟨rfl, bl_t g5, fh_rt h4 hQ⟩⟩⟩⟩)
noncomputable def G_X4_isFree (n : Nat) (r : Nat → Nat → Option Nat) (as : List Value) (m : fm_) : Option (Option Value × fm_) := match as with
  | [.ref o, .ref z1] => gd_ (is_O o) (gd_ (Nat.beq z1 93) ((f_X4_isFree o m).map en_i))
  | _ => none
set_option maxRecDepth 100000 in
theorem gp_X4_isFree {n : Nat} {r : Nat → Nat → Option Nat} {o : Nat}  {m : fm_} {q : Int32 × fm_} (ho : is_O o = true) (e : f_X4_isFree o m = some q) : G_X4_isFree n r [.ref o, .ref 93] m = some (en_i q) := by
  show (gd_ (is_O o) (gd_ (Nat.beq 93 93) ((f_X4_isFree o m).map en_i))) = _
  exact fn_gd ho (fn_gd rfl (fn_mp e))
set_option maxRecDepth 100000 in
theorem ok_X4_isFree : am_mok 4 40 m_X4_isFree = true := by decide +kernel
set_option maxRecDepth 100000 in
theorem c_X4_isFree (l : Launch) {g : am_G} (hg : fx_ l g) : am_Met l g 2 40 (fn_s fn_F G_X4_isFree) := by
  refine am_sound (own := 4) (M := m_X4_isFree) (SP := sp_X4_isFree) hg.1 (by decide +kernel) ok_X4_isFree (by decide +kernel) ?_ (fun q hq hk => absurd hk (am_no61 (M := m_X4_isFree) (by decide +kernel) q hq)) (fn_ext l _ rfl g 4) (Or.inl (by decide +kernel)) ?_ ?_
  · intro q hq hk
    have hm : q.2.2.2.1 ∈ am_cs m_X4_isFree := am_cs_in hq hk
    rw [show am_cs m_X4_isFree = [42] by decide +kernel] at hm
    have hm : q.2.2.2.1 ∈ [42] := (List.all_eq_true.mp (show ([42] : List Nat).all (fun a => decide (a ∈ ([42] : List Nat))) = true by decide +kernel) _ hm |> of_decide_eq_true)
    simp only [List.mem_cons, List.not_mem_nil, or_false] at hm
    rcases hm with hm
    · rw [hm]; exact ⟨1, by omega, c_X4_holds l hg⟩
  · intro as w K h
    obtain ⟨hf, y, m1, hG, hK⟩ := h
    unfold G_X4_isFree at hG
    split at hG
    · exact Nat.le_of_ble_eq_true rfl
    · cases hG
  · intro as w K h
    obtain ⟨n, i0, l0, r⟩ := w
    obtain ⟨hf, y, m1, hG, hK⟩ := h
    unfold G_X4_isFree at hG
    split at hG
    · next o z1 =>
      obtain ⟨ho, hG1⟩ := gd_u hG
      obtain ⟨hx2, hG2⟩ := gd_u hG1
      obtain rfl := Nat.eq_of_beq_eq_true hx2
      obtain ⟨q, hq, he⟩ := fn_mu hG2
      obtain ⟨rfl, rfl⟩ := Prod.mk.inj he
      exact t_X4_isFree o hf ho  (m := (i0, l0)) hq hK
    · cases hG

/-! == X4_letsOff == -/
noncomputable def f_X4_letsOff (o : Nat)  (m : fm_) : Option (Int32 × fm_) :=
  (Option.bind (f_X4_holds o (gi_ m o 11) m) fun q1 =>
(gd_ (bl_ q1.1)
((some (q1.1, q1.2)))))
def sp_X4_letsOff : am_S := fn_sp [(42, fn_F, G_X4_holds)]
theorem sm_X4_letsOff : am_Smono (sp_X4_letsOff) := fn_sp_mono _
set_option maxRecDepth 100000 in
theorem t_X4_letsOff (o : Nat) {n : Nat} {r : Nat → Nat → Option Nat} (hf : fn_F n r) (ho : is_O o = true) {q : Int32 × fm_}  {m : fm_}
  (h : f_X4_letsOff o  m = some q) {Q : Option Value → am_W → Prop} (hQ : Q (en_i q).1 (mk_ n r q.2)) : am_T m_X4_letsOff sp_X4_letsOff n Q 0 [some (.ref o), some (.ref 93)] [] (mk_ n r m) :=
  am_T.wp sm_X4_letsOff (K := am_T m_X4_letsOff sp_X4_letsOff n Q) (cuts := []) (fun _ _ _ _ h => h) 7
    (⟨fn_aO0 hf ho rfl, fh_bd h fun q1 e2 h3 => ⟨Nat.le_of_ble_eq_true rfl, fn_aO0 hf ho rfl, ⟨hf, some (.int q1.1), q1.2, gp_X4_holds (n := n) (r := r) ho e2, fun _ => fh_gd h3 fun g5 h4 => ⟨rfl, bl_t g5, fh_rt h4 hQ⟩⟩⟩⟩)
noncomputable def G_X4_letsOff (n : Nat) (r : Nat → Nat → Option Nat) (as : List Value) (m : fm_) : Option (Option Value × fm_) := match as with
  | [.ref o, .ref z1] => gd_ (is_O o) (gd_ (Nat.beq z1 93) ((f_X4_letsOff o m).map en_i))
  | _ => none
set_option maxRecDepth 100000 in
theorem gp_X4_letsOff {n : Nat} {r : Nat → Nat → Option Nat} {o : Nat}  {m : fm_} {q : Int32 × fm_} (ho : is_O o = true) (e : f_X4_letsOff o m = some q) : G_X4_letsOff n r [.ref o, .ref 93] m = some (en_i q) := by
  show (gd_ (is_O o) (gd_ (Nat.beq 93 93) ((f_X4_letsOff o m).map en_i))) = _
  exact fn_gd ho (fn_gd rfl (fn_mp e))
set_option maxRecDepth 100000 in
theorem ok_X4_letsOff : am_mok 4 41 m_X4_letsOff = true := by decide +kernel
set_option maxRecDepth 100000 in
theorem c_X4_letsOff (l : Launch) {g : am_G} (hg : fx_ l g) : am_Met l g 2 41 (fn_s fn_F G_X4_letsOff) := by
  refine am_sound (own := 4) (M := m_X4_letsOff) (SP := sp_X4_letsOff) hg.1 (by decide +kernel) ok_X4_letsOff (by decide +kernel) ?_ (fun q hq hk => absurd hk (am_no61 (M := m_X4_letsOff) (by decide +kernel) q hq)) (fn_ext l _ rfl g 4) (Or.inl (by decide +kernel)) ?_ ?_
  · intro q hq hk
    have hm : q.2.2.2.1 ∈ am_cs m_X4_letsOff := am_cs_in hq hk
    rw [show am_cs m_X4_letsOff = [42] by decide +kernel] at hm
    have hm : q.2.2.2.1 ∈ [42] := (List.all_eq_true.mp (show ([42] : List Nat).all (fun a => decide (a ∈ ([42] : List Nat))) = true by decide +kernel) _ hm |> of_decide_eq_true)
    simp only [List.mem_cons, List.not_mem_nil, or_false] at hm
    rcases hm with hm
    · rw [hm]; exact ⟨1, by omega, c_X4_holds l hg⟩
  · intro as w K h
    obtain ⟨hf, y, m1, hG, hK⟩ := h
    unfold G_X4_letsOff at hG
    split at hG
    · exact Nat.le_of_ble_eq_true rfl
    · cases hG
  · intro as w K h
    obtain ⟨n, i0, l0, r⟩ := w
    obtain ⟨hf, y, m1, hG, hK⟩ := h
    unfold G_X4_letsOff at hG
    split at hG
    · next o z1 =>
      obtain ⟨ho, hG1⟩ := gd_u hG
      obtain ⟨hx2, hG2⟩ := gd_u hG1
      obtain rfl := Nat.eq_of_beq_eq_true hx2
      obtain ⟨q, hq, he⟩ := fn_mu hG2
      obtain ⟨rfl, rfl⟩ := Prod.mk.inj he
      exact t_X4_letsOff o hf ho  (m := (i0, l0)) hq hK
    · cases hG

