/-! == X12_go == -/
noncomputable def f_X12_go (p1 : Int32) (p2 : Int32) (p3 : Int32) (m : fm_) : Option (Int32 × fm_) :=
  (if p1 < 0 then
((some (0, m)))
else
(if (gi_ m 106 87) ≤ p1 then
((some (0, m)))
else
(Option.bind (f_X12_isDay p2 m) fun q5 =>
(if q5.1 = 0 then
((some (0, q5.2)))
else
(Option.bind (f_X12_inForce p2 q5.2) fun q10 =>
(if p3 = 0 then
(Option.bind (f_X12_travel p1 0 q10.2) fun q15 =>
((some (1, q15.2))))
else
(if 0 ≤ q10.1 then
(gd_ (ix_ p1 20)
(gd_ (ix_ ((10 * q10.1) + (gi_ q10.2 164 (Int32.toNatClampNeg p1))) 70)
(Option.bind (f_X12_travel p1 (gi_ q10.2 128 (Int32.toNatClampNeg ((10 * q10.1) + (gi_ q10.2 164 (Int32.toNatClampNeg p1))))) q10.2) fun q24 =>
((some (1, q24.2))))))
else
(Option.bind (f_X12_travel p1 0 q10.2) fun q27 =>
((some (1, q27.2)))))))))))
def sp_X12_go : am_S := fn_sp [(219, fn_0, G_X12_isDay), (222, fn_F, G_X12_inForce), (271, fn_F, G_X12_travel)]
theorem sm_X12_go : am_Smono (sp_X12_go) := fn_sp_mono _
set_option maxRecDepth 100000 in
theorem t_X12_go {n : Nat} {r : Nat → Nat → Option Nat} (hf : fn_F n r) {q : Int32 × fm_} (p1 : Int32) (p2 : Int32) (p3 : Int32) {m : fm_}
  (h : f_X12_go p1 p2 p3 m = some q) {Q : Option Value → am_W → Prop} (hQ : Q (en_i q).1 (mk_ n r q.2)) : am_T m_X12_go sp_X12_go n Q 0 [some (.ref 106), some (.int p1), some (.int p2), some (.int p3), none] [] (mk_ n r m) :=
  am_T.wp sm_X12_go (K := am_T m_X12_go sp_X12_go n Q) (cuts := []) (fun _ _ _ _ h => h) 34
    (fh_if h (fun c1 h2 => ⟨rfl, Or.inl rfl, fh_rt h2 hQ⟩) (fun c1 h2 => ⟨fn_aF hf rfl rfl, fh_if h2 (fun c3 h4 => ⟨rfl, Or.inl rfl, fh_rt h4 hQ⟩) (fun c3 h4 => fh_bd h4 fun q5 e6 h7 => ⟨Nat.le_of_ble_eq_true rfl, trivial, ⟨trivial, some (.int q5.1), q5.2, gp_X12_isDay (n := n) (r := r)  e6, fun _ => fh_in h7 (fun c8 h9 => fh_bd h9 fun q10 e11 h12 => ⟨Nat.le_of_ble_eq_true rfl, fn_aF hf rfl rfl, ⟨hf, some (.int q10.1), q10.2, gp_X12_inForce (n := n) (r := r)  e11, fun _ => fh_if h12 (fun c13 h14 => fh_bd h14 fun q15 e16 h17 => ⟨Nat.le_of_ble_eq_true rfl, fn_aF hf rfl rfl, ⟨hf, none, q15.2, gp_X12_travel (n := n) (r := r)  e16, fun _ => ⟨rfl, ⟨rfl, Or.inr rfl, fh_rt h17 hQ⟩⟩⟩⟩) (fun c13 h14 => fh_if h14 (fun c18 h19 => ⟨fn_aF hf rfl rfl, Or.inl ⟨_, hf.2 106 40 128 rfl, ⟨fn_aF hf rfl rfl, Or.inl ⟨_, hf.2 106 92 164 rfl, fh_gd h19 fun g21 h20 => ⟨20, fn_aF hf rfl rfl, ix_t g21, fh_gd h20 fun g23 h22 => ⟨70, fn_aF hf rfl rfl, ix_t g23, fh_bd h22 fun q24 e25 h26 => ⟨Nat.le_of_ble_eq_true rfl, fn_aF hf rfl rfl, ⟨hf, none, q24.2, gp_X12_travel (n := n) (r := r)  e25, fun _ => ⟨rfl, ⟨rfl, Or.inr rfl, fh_rt h26 hQ⟩⟩⟩⟩⟩⟩⟩⟩⟩⟩) (fun c18 h19 => fh_bd h19 fun q27 e28 h29 => ⟨Nat.le_of_ble_eq_true rfl, fn_aF hf rfl rfl, ⟨hf, none, q27.2, gp_X12_travel (n := n) (r := r)  e28, fun _ => ⟨rfl, ⟨rfl, Or.inr rfl, fh_rt h29 hQ⟩⟩⟩⟩))⟩⟩) (fun c8 h9 => ⟨rfl, Or.inl rfl, fh_rt h9 hQ⟩)⟩⟩)⟩))
noncomputable def G_X12_go (n : Nat) (r : Nat → Nat → Option Nat) (as : List Value) (m : fm_) : Option (Option Value × fm_) := match as with
  | [.ref x0, .int p1, .int p2, .int p3] => gd_ (Nat.beq x0 106) ((f_X12_go p1 p2 p3 m).map en_i)
  | _ => none
set_option maxRecDepth 100000 in
theorem gp_X12_go {n : Nat} {r : Nat → Nat → Option Nat}  {p1 : Int32} {p2 : Int32} {p3 : Int32} {m : fm_} {q : Int32 × fm_}  (e : f_X12_go p1 p2 p3 m = some q) : G_X12_go n r [.ref 106, .int p1, .int p2, .int p3] m = some (en_i q) := by
  show (gd_ (Nat.beq 106 106) ((f_X12_go p1 p2 p3 m).map en_i)) = _
  exact fn_gd rfl (fn_mp e)
set_option maxRecDepth 100000 in
theorem ok_X12_go : am_mok 12 272 m_X12_go = true := by decide +kernel
set_option maxRecDepth 100000 in
theorem c_X12_go (l : Launch) {g : am_G} (hg : fx_ l g) : am_Met l g 3 272 (fn_s fn_F G_X12_go) := by
  refine am_sound (own := 12) (M := m_X12_go) (SP := sp_X12_go) hg.1 (by decide +kernel) ok_X12_go (by decide +kernel) ?_ (fun q hq hk => absurd hk (am_no61 (M := m_X12_go) (by decide +kernel) q hq)) (fn_ext l _ rfl g 12) (Or.inl (by decide +kernel)) ?_ ?_
  · intro q hq hk
    have hm : q.2.2.2.1 ∈ am_cs m_X12_go := am_cs_in hq hk
    rw [show am_cs m_X12_go = [219, 222, 271] by decide +kernel] at hm
    have hm : q.2.2.2.1 ∈ [219, 222, 271] := (List.all_eq_true.mp (show ([219, 222, 271] : List Nat).all (fun a => decide (a ∈ ([219, 222, 271] : List Nat))) = true by decide +kernel) _ hm |> of_decide_eq_true)
    simp only [List.mem_cons, List.not_mem_nil, or_false] at hm
    rcases hm with hm | hm | hm
    · rw [hm]; exact ⟨0, by omega, c_X12_isDay l hg⟩
    · rw [hm]; exact ⟨0, by omega, c_X12_inForce l hg⟩
    · rw [hm]; exact ⟨2, by omega, c_X12_travel l hg⟩
  · intro as w K h
    obtain ⟨hf, y, m1, hG, hK⟩ := h
    unfold G_X12_go at hG
    split at hG
    · exact Nat.le_of_ble_eq_true rfl
    · cases hG
  · intro as w K h
    obtain ⟨n, i0, l0, r⟩ := w
    obtain ⟨hf, y, m1, hG, hK⟩ := h
    unfold G_X12_go at hG
    split at hG
    · next x0 p1 p2 p3 =>
      obtain ⟨hx1, hG1⟩ := gd_u hG
      obtain rfl := Nat.eq_of_beq_eq_true hx1
      obtain ⟨q, hq, he⟩ := fn_mu hG1
      obtain ⟨rfl, rfl⟩ := Prod.mk.inj he
      exact t_X12_go  hf  p1 p2 p3 (m := (i0, l0)) hq hK
    · cases hG

/-! == X12_minutes == -/
abbrev S_X12_minutes : Type := (Int32 × Int32 × Int32 × Int32 × Int32 × fm_)
noncomputable def st_X12_minutes (s : S_X12_minutes) : Option (S_X12_minutes ⊕ (Int32 × fm_)) := match s with
  | (x1, x2, x3, x4, x5, m) =>
    (if (gi_ m 106 95) ≤ x5 then
((some (Sum.inr (x4, m))))
else
(gd_ (ix_ (x5 - 1) 13)
(gd_ (ix_ x5 13)
(gd_ (ix_ ((12 * (gi_ m 166 (Int32.toNatClampNeg (x5 - 1)))) + (gi_ m 166 (Int32.toNatClampNeg x5))) 144)
((some (Sum.inl ((x1, x2, x3, (x4 + (gi_ m 121 (Int32.toNatClampNeg ((12 * (gi_ m 166 (Int32.toNatClampNeg (x5 - 1)))) + (gi_ m 166 (Int32.toNatClampNeg x5)))))), (x5 + 1), m)))))))))
noncomputable def f_X12_minutes_18 (x1 : Int32) (x2 : Int32) (x3 : Int32) (x4 : Int32) (x5 : Int32) (m : fm_) : Option (Int32 × fm_) := am_lp (st_X12_minutes) ((x1, x2, x3, x4, x5, m))
theorem e_X12_minutes_18 (x1 : Int32) (x2 : Int32) (x3 : Int32) (x4 : Int32) (x5 : Int32) (m : fm_) : f_X12_minutes_18 x1 x2 x3 x4 x5 m =
(if (gi_ m 106 95) ≤ x5 then
((some (x4, m)))
else
(gd_ (ix_ (x5 - 1) 13)
(gd_ (ix_ x5 13)
(gd_ (ix_ ((12 * (gi_ m 166 (Int32.toNatClampNeg (x5 - 1)))) + (gi_ m 166 (Int32.toNatClampNeg x5))) 144)
((f_X12_minutes_18 x1 x2 x3 (x4 + (gi_ m 121 (Int32.toNatClampNeg ((12 * (gi_ m 166 (Int32.toNatClampNeg (x5 - 1)))) + (gi_ m 166 (Int32.toNatClampNeg x5)))))) (x5 + 1) m)))))) :=
  (am_lp_eq _ _).trans (fe_if (rfl) (fe_gd (fe_gd (fe_gd (rfl)))))
noncomputable def f_X12_minutes (p1 : Int32) (p2 : Int32) (p3 : Int32) (m : fm_) : Option (Int32 × fm_) :=
  (Option.bind (f_X12_go p1 p2 p3 m) fun q1 =>
(if q1.1 = 0 then
((some ((-1), q1.2)))
else
((f_X12_minutes_18 p1 p2 p3 0 1 q1.2))))
def sp_X12_minutes : am_S := fn_sp [(272, fn_F, G_X12_go)]
theorem sm_X12_minutes : am_Smono (sp_X12_minutes) := fn_sp_mono _
def P_X12_minutes (n : Nat) (r : Nat → Nat → Option Nat) (s : S_X12_minutes) (q : Int32 × fm_) : Prop := match s with
  | (x1, x2, x3, x4, x5, m) => ∀ (Q : Option Value → am_W → Prop), Q (en_i q).1 (mk_ n r q.2) → am_T m_X12_minutes sp_X12_minutes n Q 18 [some (.ref 106), some (.int x1), some (.int x2), some (.int x3), some (.int x4), some (.int x5)] [] (mk_ n r m)
set_option maxRecDepth 100000 in
theorem t_X12_minutes_18 {n : Nat} {r : Nat → Nat → Option Nat} (hf : fn_F n r) {K : S_X12_minutes → Option (Int32 × fm_)} {q : Int32 × fm_} (hK : ∀ s, K s = some q → P_X12_minutes n r s q) (x1 : Int32) (x2 : Int32) (x3 : Int32) (x4 : Int32) (x5 : Int32) (m : fm_)
  (h : am_k K (st_X12_minutes ((x1, x2, x3, x4, x5, m))) = some q) : P_X12_minutes n r ((x1, x2, x3, x4, x5, m)) q := fun Q hQ =>
  am_T.wp sm_X12_minutes (K := am_T m_X12_minutes sp_X12_minutes n Q) (cuts := [18]) (fun _ _ _ _ h => h) 27
    (⟨fn_aF hf rfl rfl, fj_if h (fun c1 h2 => ⟨rfl, fj_rt h2 hQ⟩) (fun c1 h2 => ⟨fn_aF hf rfl rfl, Or.inl ⟨_, hf.2 106 28 121 rfl, ⟨fn_aF hf rfl rfl, Or.inl ⟨_, hf.2 106 94 166 rfl, fj_gd h2 fun g4 h3 => ⟨13, fn_aF hf rfl rfl, ix_t g4, ⟨fn_aF hf rfl rfl, Or.inl ⟨_, hf.2 106 94 166 rfl, fj_gd h3 fun g6 h5 => ⟨13, fn_aF hf rfl rfl, ix_t g6, fj_gd h5 fun g8 h7 => ⟨144, fn_aF hf rfl rfl, ix_t g8, hK _ h7 _ hQ⟩⟩⟩⟩⟩⟩⟩⟩⟩)⟩)
theorem l_X12_minutes {n : Nat} {r : Nat → Nat → Option Nat} (hf : fn_F n r) (s : S_X12_minutes) (q : Int32 × fm_) (h : am_lp (st_X12_minutes) s = some q) : P_X12_minutes n r s q :=
  am_lp_snd (P := P_X12_minutes n r) (fun K hK s q h => match s, h with
    | (x1, x2, x3, x4, x5, m), h => t_X12_minutes_18 hf (fun s => hK s q) x1 x2 x3 x4 x5 m h) s q h
set_option maxRecDepth 100000 in
theorem t_X12_minutes {n : Nat} {r : Nat → Nat → Option Nat} (hf : fn_F n r) {q : Int32 × fm_} (p1 : Int32) (p2 : Int32) (p3 : Int32) {m : fm_}
  (h : f_X12_minutes p1 p2 p3 m = some q) {Q : Option Value → am_W → Prop} (hQ : Q (en_i q).1 (mk_ n r q.2)) : am_T m_X12_minutes sp_X12_minutes n Q 0 [some (.ref 106), some (.int p1), some (.int p2), some (.int p3), none, none] [] (mk_ n r m) :=
  am_T.wp sm_X12_minutes (K := am_T m_X12_minutes sp_X12_minutes n Q) (cuts := [18]) (fun _ _ _ _ h => h) 12
    (fh_bd h fun q1 e2 h3 => ⟨Nat.le_of_ble_eq_true rfl, fn_aF hf rfl rfl, ⟨hf, some (.int q1.1), q1.2, gp_X12_go (n := n) (r := r)  e2, fun _ => fh_in h3 (fun c4 h5 => l_X12_minutes hf _ _ h5 _ hQ) (fun c4 h5 => ⟨rfl, fh_rt h5 hQ⟩)⟩⟩)
noncomputable def G_X12_minutes (n : Nat) (r : Nat → Nat → Option Nat) (as : List Value) (m : fm_) : Option (Option Value × fm_) := match as with
  | [.ref x0, .int p1, .int p2, .int p3] => gd_ (Nat.beq x0 106) ((f_X12_minutes p1 p2 p3 m).map en_i)
  | _ => none
set_option maxRecDepth 100000 in
theorem gp_X12_minutes {n : Nat} {r : Nat → Nat → Option Nat}  {p1 : Int32} {p2 : Int32} {p3 : Int32} {m : fm_} {q : Int32 × fm_}  (e : f_X12_minutes p1 p2 p3 m = some q) : G_X12_minutes n r [.ref 106, .int p1, .int p2, .int p3] m = some (en_i q) := by
  show (gd_ (Nat.beq 106 106) ((f_X12_minutes p1 p2 p3 m).map en_i)) = _
  exact fn_gd rfl (fn_mp e)
set_option maxRecDepth 100000 in
theorem ok_X12_minutes : am_mok 12 273 m_X12_minutes = true := by decide +kernel
set_option maxRecDepth 100000 in
theorem c_X12_minutes (l : Launch) {g : am_G} (hg : fx_ l g) : am_Met l g 4 273 (fn_s fn_F G_X12_minutes) := by
  refine am_sound (own := 12) (M := m_X12_minutes) (SP := sp_X12_minutes) hg.1 (by decide +kernel) ok_X12_minutes (by decide +kernel) ?_ (fun q hq hk => absurd hk (am_no61 (M := m_X12_minutes) (by decide +kernel) q hq)) (fn_ext l _ rfl g 12) (Or.inl (by decide +kernel)) ?_ ?_
  · intro q hq hk
    have hm : q.2.2.2.1 ∈ am_cs m_X12_minutes := am_cs_in hq hk
    rw [show am_cs m_X12_minutes = [272] by decide +kernel] at hm
    have hm : q.2.2.2.1 ∈ [272] := (List.all_eq_true.mp (show ([272] : List Nat).all (fun a => decide (a ∈ ([272] : List Nat))) = true by decide +kernel) _ hm |> of_decide_eq_true)
    simp only [List.mem_cons, List.not_mem_nil, or_false] at hm
    rcases hm with hm
    · rw [hm]; exact ⟨3, by omega, c_X12_go l hg⟩
  · intro as w K h
    obtain ⟨hf, y, m1, hG, hK⟩ := h
    unfold G_X12_minutes at hG
    split at hG
    · exact Nat.le_of_ble_eq_true rfl
    · cases hG
  · intro as w K h
    obtain ⟨n, i0, l0, r⟩ := w
    obtain ⟨hf, y, m1, hG, hK⟩ := h
    unfold G_X12_minutes at hG
    split at hG
    · next x0 p1 p2 p3 =>
      obtain ⟨hx1, hG1⟩ := gd_u hG
      obtain rfl := Nat.eq_of_beq_eq_true hx1
      obtain ⟨q, hq, he⟩ := fn_mu hG1
      obtain ⟨rfl, rfl⟩ := Prod.mk.inj he
      exact t_X12_minutes  hf  p1 p2 p3 (m := (i0, l0)) hq hK
    · cases hG

/-! == X12_via == -/
noncomputable def f_X12_via (p1 : Int32) (p2 : Int32) (p3 : Int32) (p4 : Int32) (m : fm_) : Option (Int32 × fm_) :=
  (Option.bind (f_X12_go p1 p2 p3 m) fun q1 =>
(if q1.1 = 0 then
((some ((-1), q1.2)))
else
(if p4 < 0 then
((some ((-1), q1.2)))
else
(if (gi_ q1.2 106 95) ≤ p4 then
((some ((-1), q1.2)))
else
(gd_ (ix_ p4 13)
((some ((gi_ q1.2 166 (Int32.toNatClampNeg p4)), q1.2))))))))
def sp_X12_via : am_S := fn_sp [(272, fn_F, G_X12_go)]
theorem sm_X12_via : am_Smono (sp_X12_via) := fn_sp_mono _
set_option maxRecDepth 100000 in
theorem t_X12_via {n : Nat} {r : Nat → Nat → Option Nat} (hf : fn_F n r) {q : Int32 × fm_} (p1 : Int32) (p2 : Int32) (p3 : Int32) (p4 : Int32) {m : fm_}
  (h : f_X12_via p1 p2 p3 p4 m = some q) {Q : Option Value → am_W → Prop} (hQ : Q (en_i q).1 (mk_ n r q.2)) : am_T m_X12_via sp_X12_via n Q 0 [some (.ref 106), some (.int p1), some (.int p2), some (.int p3), some (.int p4)] [] (mk_ n r m) :=
  am_T.wp sm_X12_via (K := am_T m_X12_via sp_X12_via n Q) (cuts := []) (fun _ _ _ _ h => h) 19
    (fh_bd h fun q1 e2 h3 => ⟨Nat.le_of_ble_eq_true rfl, fn_aF hf rfl rfl, ⟨hf, some (.int q1.1), q1.2, gp_X12_go (n := n) (r := r)  e2, fun _ => fh_if h3 (fun c4 h5 => ⟨rfl, fh_rt h5 hQ⟩) (fun c4 h5 => fh_if h5 (fun c6 h7 => ⟨rfl, fh_rt h7 hQ⟩) (fun c6 h7 => ⟨fn_aF hf rfl rfl, fh_if h7 (fun c8 h9 => ⟨rfl, fh_rt h9 hQ⟩) (fun c8 h9 => ⟨fn_aF hf rfl rfl, Or.inl ⟨_, hf.2 106 94 166 rfl, fh_gd h9 fun g11 h10 => ⟨13, fn_aF hf rfl rfl, ix_t g11, ⟨rfl, fh_rt h10 hQ⟩⟩⟩⟩)⟩))⟩⟩)
noncomputable def G_X12_via (n : Nat) (r : Nat → Nat → Option Nat) (as : List Value) (m : fm_) : Option (Option Value × fm_) := match as with
  | [.ref x0, .int p1, .int p2, .int p3, .int p4] => gd_ (Nat.beq x0 106) ((f_X12_via p1 p2 p3 p4 m).map en_i)
  | _ => none
set_option maxRecDepth 100000 in
theorem gp_X12_via {n : Nat} {r : Nat → Nat → Option Nat}  {p1 : Int32} {p2 : Int32} {p3 : Int32} {p4 : Int32} {m : fm_} {q : Int32 × fm_}  (e : f_X12_via p1 p2 p3 p4 m = some q) : G_X12_via n r [.ref 106, .int p1, .int p2, .int p3, .int p4] m = some (en_i q) := by
  show (gd_ (Nat.beq 106 106) ((f_X12_via p1 p2 p3 p4 m).map en_i)) = _
  exact fn_gd rfl (fn_mp e)
set_option maxRecDepth 100000 in
theorem ok_X12_via : am_mok 12 274 m_X12_via = true := by decide +kernel
set_option maxRecDepth 100000 in
theorem c_X12_via (l : Launch) {g : am_G} (hg : fx_ l g) : am_Met l g 4 274 (fn_s fn_F G_X12_via) := by
  refine am_sound (own := 12) (M := m_X12_via) (SP := sp_X12_via) hg.1 (by decide +kernel) ok_X12_via (by decide +kernel) ?_ (fun q hq hk => absurd hk (am_no61 (M := m_X12_via) (by decide +kernel) q hq)) (fn_ext l _ rfl g 12) (Or.inl (by decide +kernel)) ?_ ?_
  · intro q hq hk
    have hm : q.2.2.2.1 ∈ am_cs m_X12_via := am_cs_in hq hk
    rw [show am_cs m_X12_via = [272] by decide +kernel] at hm
    have hm : q.2.2.2.1 ∈ [272] := (List.all_eq_true.mp (show ([272] : List Nat).all (fun a => decide (a ∈ ([272] : List Nat))) = true by decide +kernel) _ hm |> of_decide_eq_true)
    simp only [List.mem_cons, List.not_mem_nil, or_false] at hm
    rcases hm with hm
    · rw [hm]; exact ⟨3, by omega, c_X12_go l hg⟩
  · intro as w K h
    obtain ⟨hf, y, m1, hG, hK⟩ := h
    unfold G_X12_via at hG
    split at hG
    · exact Nat.le_of_ble_eq_true rfl
    · cases hG
  · intro as w K h
    obtain ⟨n, i0, l0, r⟩ := w
    obtain ⟨hf, y, m1, hG, hK⟩ := h
    unfold G_X12_via at hG
    split at hG
    · next x0 p1 p2 p3 p4 =>
      obtain ⟨hx1, hG1⟩ := gd_u hG
      obtain rfl := Nat.eq_of_beq_eq_true hx1
      obtain ⟨q, hq, he⟩ := fn_mu hG1
      obtain ⟨rfl, rfl⟩ := Prod.mk.inj he
      exact t_X12_via  hf  p1 p2 p3 p4 (m := (i0, l0)) hq hK
    · cases hG

/-! == X12_wayOf == -/
abbrev S_X12_wayOf : Type := (Int32 × Int32 × Int32 × fm_)
noncomputable def st_X12_wayOf (s : S_X12_wayOf) : Option (S_X12_wayOf ⊕ (Int32 × fm_)) := match s with
  | (x1, x2, x3, m) =>
    (gd_ (ix_ x3 24)
(gd_ (ix_ ((12 * x1) + x2) 144)
(if (gi_ m 116 (Int32.toNatClampNeg x3)) = (gi_ m 121 (Int32.toNatClampNeg ((12 * x1) + x2))) then
(gd_ (ix_ x3 24)
(if (gi_ m 114 (Int32.toNatClampNeg x3)) = x1 then
(gd_ (ix_ x3 24)
(if (gi_ m 115 (Int32.toNatClampNeg x3)) = x2 then
((some (Sum.inr (x3, m))))
else
(gd_ (ix_ x3 24)
(if (gi_ m 114 (Int32.toNatClampNeg x3)) = x2 then
(gd_ (ix_ x3 24)
(if (gi_ m 115 (Int32.toNatClampNeg x3)) = x1 then
((some (Sum.inr (x3, m))))
else
((some (Sum.inl ((x1, x2, (x3 + 1), m)))))))
else
((some (Sum.inl ((x1, x2, (x3 + 1), m)))))))))
else
(gd_ (ix_ x3 24)
(if (gi_ m 114 (Int32.toNatClampNeg x3)) = x2 then
(gd_ (ix_ x3 24)
(if (gi_ m 115 (Int32.toNatClampNeg x3)) = x1 then
((some (Sum.inr (x3, m))))
else
((some (Sum.inl ((x1, x2, (x3 + 1), m)))))))
else
((some (Sum.inl ((x1, x2, (x3 + 1), m)))))))))
else
((some (Sum.inl ((x1, x2, (x3 + 1), m))))))))
noncomputable def f_X12_wayOf_2 (x1 : Int32) (x2 : Int32) (x3 : Int32) (m : fm_) : Option (Int32 × fm_) := am_lp (st_X12_wayOf) ((x1, x2, x3, m))
theorem e_X12_wayOf_2 (x1 : Int32) (x2 : Int32) (x3 : Int32) (m : fm_) : f_X12_wayOf_2 x1 x2 x3 m =
(gd_ (ix_ x3 24)
(gd_ (ix_ ((12 * x1) + x2) 144)
(if (gi_ m 116 (Int32.toNatClampNeg x3)) = (gi_ m 121 (Int32.toNatClampNeg ((12 * x1) + x2))) then
(gd_ (ix_ x3 24)
(if (gi_ m 114 (Int32.toNatClampNeg x3)) = x1 then
(gd_ (ix_ x3 24)
(if (gi_ m 115 (Int32.toNatClampNeg x3)) = x2 then
((some (x3, m)))
else
(gd_ (ix_ x3 24)
(if (gi_ m 114 (Int32.toNatClampNeg x3)) = x2 then
(gd_ (ix_ x3 24)
(if (gi_ m 115 (Int32.toNatClampNeg x3)) = x1 then
((some (x3, m)))
else
((f_X12_wayOf_2 x1 x2 (x3 + 1) m))))
else
((f_X12_wayOf_2 x1 x2 (x3 + 1) m))))))
else
(gd_ (ix_ x3 24)
(if (gi_ m 114 (Int32.toNatClampNeg x3)) = x2 then
(gd_ (ix_ x3 24)
(if (gi_ m 115 (Int32.toNatClampNeg x3)) = x1 then
((some (x3, m)))
else
((f_X12_wayOf_2 x1 x2 (x3 + 1) m))))
else
((f_X12_wayOf_2 x1 x2 (x3 + 1) m))))))
else
((f_X12_wayOf_2 x1 x2 (x3 + 1) m))))) :=
  (am_lp_eq _ _).trans (fe_gd (fe_gd (fe_if (fe_gd (fe_if (fe_gd (fe_if (rfl) (fe_gd (fe_if (fe_gd (fe_if (rfl) (rfl))) (rfl))))) (fe_gd (fe_if (fe_gd (fe_if (rfl) (rfl))) (rfl))))) (rfl))))
noncomputable def f_X12_wayOf (p1 : Int32) (p2 : Int32) (m : fm_) : Option (Int32 × fm_) :=
  ((f_X12_wayOf_2 p1 p2 0 m))
def sp_X12_wayOf : am_S := fn_sp []
theorem sm_X12_wayOf : am_Smono (sp_X12_wayOf) := fn_sp_mono _
def P_X12_wayOf (n : Nat) (r : Nat → Nat → Option Nat) (s : S_X12_wayOf) (q : Int32 × fm_) : Prop := match s with
  | (x1, x2, x3, m) => ∀ (Q : Option Value → am_W → Prop), Q (en_i q).1 (mk_ n r q.2) → am_T m_X12_wayOf sp_X12_wayOf n Q 2 [some (.ref 106), some (.int x1), some (.int x2), some (.int x3)] [] (mk_ n r m)
set_option maxRecDepth 100000 in
theorem t_X12_wayOf_2 {n : Nat} {r : Nat → Nat → Option Nat} (hf : fn_F n r) {K : S_X12_wayOf → Option (Int32 × fm_)} {q : Int32 × fm_} (hK : ∀ s, K s = some q → P_X12_wayOf n r s q) (x1 : Int32) (x2 : Int32) (x3 : Int32) (m : fm_)
  (h : am_k K (st_X12_wayOf ((x1, x2, x3, m))) = some q) : P_X12_wayOf n r ((x1, x2, x3, m)) q := fun Q hQ =>
  am_T.wp sm_X12_wayOf (K := am_T m_X12_wayOf sp_X12_wayOf n Q) (cuts := [2]) (fun _ _ _ _ h => h) 41
    (⟨fn_aF hf rfl rfl, Or.inl ⟨_, hf.2 106 23 116 rfl, fj_gd h fun g2 h1 => ⟨24, fn_aF hf rfl rfl, ix_t g2, ⟨fn_aF hf rfl rfl, Or.inl ⟨_, hf.2 106 28 121 rfl, fj_gd h1 fun g4 h3 => ⟨144, fn_aF hf rfl rfl, ix_t g4, fj_in h3 (fun c5 h6 => hK _ h6 _ hQ) (fun c5 h6 => ⟨fn_aF hf rfl rfl, Or.inl ⟨_, hf.2 106 21 114 rfl, fj_gd h6 fun g8 h7 => ⟨24, fn_aF hf rfl rfl, ix_t g8, fj_in h7 (fun c9 h10 => ⟨fn_aF hf rfl rfl, Or.inl ⟨_, hf.2 106 21 114 rfl, fj_gd h10 fun g12 h11 => ⟨24, fn_aF hf rfl rfl, ix_t g12, fj_in h11 (fun c13 h14 => hK _ h14 _ hQ) (fun c13 h14 => ⟨fn_aF hf rfl rfl, Or.inl ⟨_, hf.2 106 22 115 rfl, fj_gd h14 fun g16 h15 => ⟨24, fn_aF hf rfl rfl, ix_t g16, fj_if h15 (fun c17 h18 => ⟨rfl, fj_rt h18 hQ⟩) (fun c17 h18 => hK _ h18 _ hQ)⟩⟩⟩)⟩⟩⟩) (fun c9 h10 => ⟨fn_aF hf rfl rfl, Or.inl ⟨_, hf.2 106 22 115 rfl, fj_gd h10 fun g20 h19 => ⟨24, fn_aF hf rfl rfl, ix_t g20, fj_if h19 (fun c21 h22 => ⟨rfl, fj_rt h22 hQ⟩) (fun c21 h22 => ⟨fn_aF hf rfl rfl, Or.inl ⟨_, hf.2 106 21 114 rfl, fj_gd h22 fun g24 h23 => ⟨24, fn_aF hf rfl rfl, ix_t g24, fj_in h23 (fun c25 h26 => hK _ h26 _ hQ) (fun c25 h26 => ⟨fn_aF hf rfl rfl, Or.inl ⟨_, hf.2 106 22 115 rfl, fj_gd h26 fun g28 h27 => ⟨24, fn_aF hf rfl rfl, ix_t g28, fj_if h27 (fun c29 h30 => ⟨rfl, fj_rt h30 hQ⟩) (fun c29 h30 => hK _ h30 _ hQ)⟩⟩⟩)⟩⟩⟩)⟩⟩⟩)⟩⟩⟩)⟩⟩⟩⟩⟩⟩)
theorem l_X12_wayOf {n : Nat} {r : Nat → Nat → Option Nat} (hf : fn_F n r) (s : S_X12_wayOf) (q : Int32 × fm_) (h : am_lp (st_X12_wayOf) s = some q) : P_X12_wayOf n r s q :=
  am_lp_snd (P := P_X12_wayOf n r) (fun K hK s q h => match s, h with
    | (x1, x2, x3, m), h => t_X12_wayOf_2 hf (fun s => hK s q) x1 x2 x3 m h) s q h
set_option maxRecDepth 100000 in
theorem t_X12_wayOf {n : Nat} {r : Nat → Nat → Option Nat} (hf : fn_F n r) {q : Int32 × fm_} (p1 : Int32) (p2 : Int32) {m : fm_}
  (h : f_X12_wayOf p1 p2 m = some q) {Q : Option Value → am_W → Prop} (hQ : Q (en_i q).1 (mk_ n r q.2)) : am_T m_X12_wayOf sp_X12_wayOf n Q 0 [some (.ref 106), some (.int p1), some (.int p2), none] [] (mk_ n r m) :=
  am_T.wp sm_X12_wayOf (K := am_T m_X12_wayOf sp_X12_wayOf n Q) (cuts := [2]) (fun _ _ _ _ h => h) 4
    (l_X12_wayOf hf _ _ h _ hQ)
noncomputable def G_X12_wayOf (n : Nat) (r : Nat → Nat → Option Nat) (as : List Value) (m : fm_) : Option (Option Value × fm_) := match as with
  | [.ref x0, .int p1, .int p2] => gd_ (Nat.beq x0 106) ((f_X12_wayOf p1 p2 m).map en_i)
  | _ => none
set_option maxRecDepth 100000 in
theorem gp_X12_wayOf {n : Nat} {r : Nat → Nat → Option Nat}  {p1 : Int32} {p2 : Int32} {m : fm_} {q : Int32 × fm_}  (e : f_X12_wayOf p1 p2 m = some q) : G_X12_wayOf n r [.ref 106, .int p1, .int p2] m = some (en_i q) := by
  show (gd_ (Nat.beq 106 106) ((f_X12_wayOf p1 p2 m).map en_i)) = _
  exact fn_gd rfl (fn_mp e)
set_option maxRecDepth 100000 in
theorem ok_X12_wayOf : am_mok 12 275 m_X12_wayOf = true := by decide +kernel
set_option maxRecDepth 100000 in
theorem c_X12_wayOf (l : Launch) {g : am_G} (hg : fx_ l g) : am_Met l g 0 275 (fn_s fn_F G_X12_wayOf) := by
  refine am_sound (own := 12) (M := m_X12_wayOf) (SP := sp_X12_wayOf) hg.1 (by decide +kernel) ok_X12_wayOf (by decide +kernel) ?_ (fun q hq hk => absurd hk (am_no61 (M := m_X12_wayOf) (by decide +kernel) q hq)) (fn_ext l _ rfl g 12) (Or.inl (by decide +kernel)) ?_ ?_
  · intro q hq hk
    have hm : q.2.2.2.1 ∈ am_cs m_X12_wayOf := am_cs_in hq hk
    rw [show am_cs m_X12_wayOf = [] by decide +kernel] at hm
    cases hm
  · intro as w K h
    obtain ⟨hf, y, m1, hG, hK⟩ := h
    unfold G_X12_wayOf at hG
    split at hG
    · exact Nat.le_of_ble_eq_true rfl
    · cases hG
  · intro as w K h
    obtain ⟨n, i0, l0, r⟩ := w
    obtain ⟨hf, y, m1, hG, hK⟩ := h
    unfold G_X12_wayOf at hG
    split at hG
    · next x0 p1 p2 =>
      obtain ⟨hx1, hG1⟩ := gd_u hG
      obtain rfl := Nat.eq_of_beq_eq_true hx1
      obtain ⟨q, hq, he⟩ := fn_mu hG1
      obtain ⟨rfl, rfl⟩ := Prod.mk.inj he
      exact t_X12_wayOf  hf  p1 p2 (m := (i0, l0)) hq hK
    · cases hG

/-! == X12_load == -/
abbrev S_X12_load : Type := (Int32 × Int32 × Int32 × Int32 × Int32 × fm_) ⊕ (Int32 × Int32 × Int32 × Int32 × Int32 × Int32 × fm_)
noncomputable def st_X12_load (s : S_X12_load) : Option (S_X12_load ⊕ (Int32 × fm_)) := match s with
  | Sum.inl ((x1, x2, x3, x4, x5, m)) =>
    (if (gi_ m 106 87) ≤ x5 then
((some (Sum.inr (x4, m))))
else
(Option.bind (f_X12_go x5 x2 x3 m) fun q3 =>
((some (Sum.inl (Sum.inr ((x1, x2, x3, x4, x5, 1, q3.2))))))))
  | Sum.inr ((x1, x2, x3, x4, x5, x6, m)) =>
    (if (gi_ m 106 95) ≤ x6 then
((some (Sum.inl (Sum.inl ((x1, x2, x3, x4, (x5 + 1), m))))))
else
(gd_ (ix_ (x6 - 1) 13)
(gd_ (ix_ x6 13)
(Option.bind (f_X12_wayOf (gi_ m 166 (Int32.toNatClampNeg (x6 - 1))) (gi_ m 166 (Int32.toNatClampNeg x6)) m) fun q7 =>
(if q7.1 = x1 then
(gd_ (ix_ x5 20)
((some (Sum.inl (Sum.inr ((x1, x2, x3, (x4 + (gi_ q7.2 162 (Int32.toNatClampNeg x5))), x5, (x6 + 1), q7.2)))))))
else
((some (Sum.inl (Sum.inr ((x1, x2, x3, (x4 + 0), x5, (x6 + 1), q7.2)))))))))))
noncomputable def f_X12_load_27 (x1 : Int32) (x2 : Int32) (x3 : Int32) (x4 : Int32) (x5 : Int32) (m : fm_) : Option (Int32 × fm_) := am_lp (st_X12_load) (Sum.inl ((x1, x2, x3, x4, x5, m)))
noncomputable def f_X12_load_48 (x1 : Int32) (x2 : Int32) (x3 : Int32) (x4 : Int32) (x5 : Int32) (x6 : Int32) (m : fm_) : Option (Int32 × fm_) := am_lp (st_X12_load) (Sum.inr ((x1, x2, x3, x4, x5, x6, m)))
theorem e_X12_load_27 (x1 : Int32) (x2 : Int32) (x3 : Int32) (x4 : Int32) (x5 : Int32) (m : fm_) : f_X12_load_27 x1 x2 x3 x4 x5 m =
(if (gi_ m 106 87) ≤ x5 then
((some (x4, m)))
else
(Option.bind (f_X12_go x5 x2 x3 m) fun q3 =>
((f_X12_load_48 x1 x2 x3 x4 x5 1 q3.2)))) :=
  (am_lp_eq _ _).trans (fe_if (rfl) (fe_bd fun q3 => (rfl)))
theorem e_X12_load_48 (x1 : Int32) (x2 : Int32) (x3 : Int32) (x4 : Int32) (x5 : Int32) (x6 : Int32) (m : fm_) : f_X12_load_48 x1 x2 x3 x4 x5 x6 m =
(if (gi_ m 106 95) ≤ x6 then
((f_X12_load_27 x1 x2 x3 x4 (x5 + 1) m))
else
(gd_ (ix_ (x6 - 1) 13)
(gd_ (ix_ x6 13)
(Option.bind (f_X12_wayOf (gi_ m 166 (Int32.toNatClampNeg (x6 - 1))) (gi_ m 166 (Int32.toNatClampNeg x6)) m) fun q7 =>
(if q7.1 = x1 then
(gd_ (ix_ x5 20)
((f_X12_load_48 x1 x2 x3 (x4 + (gi_ q7.2 162 (Int32.toNatClampNeg x5))) x5 (x6 + 1) q7.2)))
else
((f_X12_load_48 x1 x2 x3 (x4 + 0) x5 (x6 + 1) q7.2))))))) :=
  (am_lp_eq _ _).trans (fe_if (rfl) (fe_gd (fe_gd (fe_bd fun q7 => (fe_if (fe_gd (rfl)) (rfl))))))
noncomputable def f_X12_load (p1 : Int32) (p2 : Int32) (p3 : Int32) (m : fm_) : Option (Int32 × fm_) :=
  (if p1 < 0 then
((some ((-1), m)))
else
(if (gi_ m 106 29) ≤ p1 then
((some ((-1), m)))
else
(Option.bind (f_X12_isDay p2 m) fun q5 =>
(if q5.1 = 0 then
((some ((-1), q5.2)))
else
((f_X12_load_27 p1 p2 p3 0 0 q5.2))))))
def sp_X12_load : am_S := fn_sp [(219, fn_0, G_X12_isDay), (272, fn_F, G_X12_go), (275, fn_F, G_X12_wayOf)]
theorem sm_X12_load : am_Smono (sp_X12_load) := fn_sp_mono _
def P_X12_load (n : Nat) (r : Nat → Nat → Option Nat) (s : S_X12_load) (q : Int32 × fm_) : Prop := match s with
  | Sum.inl ((x1, x2, x3, x4, x5, m)) => ∀ (Q : Option Value → am_W → Prop) (y6 : Option Value), Q (en_i q).1 (mk_ n r q.2) → am_T m_X12_load sp_X12_load n Q 27 [some (.ref 106), some (.int x1), some (.int x2), some (.int x3), some (.int x4), some (.int x5), y6] [] (mk_ n r m)
  | Sum.inr ((x1, x2, x3, x4, x5, x6, m)) => ∀ (Q : Option Value → am_W → Prop), Q (en_i q).1 (mk_ n r q.2) → am_T m_X12_load sp_X12_load n Q 48 [some (.ref 106), some (.int x1), some (.int x2), some (.int x3), some (.int x4), some (.int x5), some (.int x6)] [] (mk_ n r m)
set_option maxRecDepth 100000 in
theorem t_X12_load_27 {n : Nat} {r : Nat → Nat → Option Nat} (hf : fn_F n r) {K : S_X12_load → Option (Int32 × fm_)} {q : Int32 × fm_} (hK : ∀ s, K s = some q → P_X12_load n r s q) (x1 : Int32) (x2 : Int32) (x3 : Int32) (x4 : Int32) (x5 : Int32) (m : fm_)
  (h : am_k K (st_X12_load (Sum.inl ((x1, x2, x3, x4, x5, m)))) = some q) : P_X12_load n r (Sum.inl ((x1, x2, x3, x4, x5, m))) q := fun Q y6 hQ =>
  am_T.wp sm_X12_load (K := am_T m_X12_load sp_X12_load n Q) (cuts := [27, 48]) (fun _ _ _ _ h => h) 14
    (⟨fn_aF hf rfl rfl, fj_if h (fun c1 h2 => ⟨rfl, fj_rt h2 hQ⟩) (fun c1 h2 => fj_bd h2 fun q3 e4 h5 => ⟨Nat.le_of_ble_eq_true rfl, fn_aF hf rfl rfl, ⟨hf, some (.int q3.1), q3.2, gp_X12_go (n := n) (r := r)  e4, fun _ => hK _ h5 _ hQ⟩⟩)⟩)
set_option maxRecDepth 100000 in
theorem t_X12_load_48 {n : Nat} {r : Nat → Nat → Option Nat} (hf : fn_F n r) {K : S_X12_load → Option (Int32 × fm_)} {q : Int32 × fm_} (hK : ∀ s, K s = some q → P_X12_load n r s q) (x1 : Int32) (x2 : Int32) (x3 : Int32) (x4 : Int32) (x5 : Int32) (x6 : Int32) (m : fm_)
  (h : am_k K (st_X12_load (Sum.inr ((x1, x2, x3, x4, x5, x6, m)))) = some q) : P_X12_load n r (Sum.inr ((x1, x2, x3, x4, x5, x6, m))) q := fun Q hQ =>
  am_T.wp sm_X12_load (K := am_T m_X12_load sp_X12_load n Q) (cuts := [27, 48]) (fun _ _ _ _ h => h) 30
    (⟨fn_aF hf rfl rfl, fj_if h (fun c1 h2 => hK _ h2 _ _ hQ) (fun c1 h2 => ⟨fn_aF hf rfl rfl, Or.inl ⟨_, hf.2 106 94 166 rfl, fj_gd h2 fun g4 h3 => ⟨13, fn_aF hf rfl rfl, ix_t g4, ⟨fn_aF hf rfl rfl, Or.inl ⟨_, hf.2 106 94 166 rfl, fj_gd h3 fun g6 h5 => ⟨13, fn_aF hf rfl rfl, ix_t g6, fj_bd h5 fun q7 e8 h9 => ⟨Nat.le_of_ble_eq_true rfl, fn_aF hf rfl rfl, ⟨hf, some (.int q7.1), q7.2, gp_X12_wayOf (n := n) (r := r)  e8, fun _ => fj_in h9 (fun c10 h11 => hK _ h11 _ hQ) (fun c10 h11 => ⟨fn_aF hf rfl rfl, Or.inl ⟨_, hf.2 106 90 162 rfl, fj_gd h11 fun g13 h12 => ⟨20, fn_aF hf rfl rfl, ix_t g13, hK _ h12 _ hQ⟩⟩⟩)⟩⟩⟩⟩⟩⟩⟩⟩)⟩)
theorem l_X12_load {n : Nat} {r : Nat → Nat → Option Nat} (hf : fn_F n r) (s : S_X12_load) (q : Int32 × fm_) (h : am_lp (st_X12_load) s = some q) : P_X12_load n r s q :=
  am_lp_snd (P := P_X12_load n r) (fun K hK s q h => match s, h with
    | Sum.inl ((x1, x2, x3, x4, x5, m)), h => t_X12_load_27 hf (fun s => hK s q) x1 x2 x3 x4 x5 m h
    | Sum.inr ((x1, x2, x3, x4, x5, x6, m)), h => t_X12_load_48 hf (fun s => hK s q) x1 x2 x3 x4 x5 x6 m h) s q h
set_option maxRecDepth 100000 in
theorem t_X12_load {n : Nat} {r : Nat → Nat → Option Nat} (hf : fn_F n r) {q : Int32 × fm_} (p1 : Int32) (p2 : Int32) (p3 : Int32) {m : fm_}
  (h : f_X12_load p1 p2 p3 m = some q) {Q : Option Value → am_W → Prop} (hQ : Q (en_i q).1 (mk_ n r q.2)) : am_T m_X12_load sp_X12_load n Q 0 [some (.ref 106), some (.int p1), some (.int p2), some (.int p3), none, none, none] [] (mk_ n r m) :=
  am_T.wp sm_X12_load (K := am_T m_X12_load sp_X12_load n Q) (cuts := [27, 48]) (fun _ _ _ _ h => h) 15
    (fh_if h (fun c1 h2 => ⟨rfl, fh_rt h2 hQ⟩) (fun c1 h2 => ⟨fn_aF hf rfl rfl, fh_if h2 (fun c3 h4 => ⟨rfl, fh_rt h4 hQ⟩) (fun c3 h4 => fh_bd h4 fun q5 e6 h7 => ⟨Nat.le_of_ble_eq_true rfl, trivial, ⟨trivial, some (.int q5.1), q5.2, gp_X12_isDay (n := n) (r := r)  e6, fun _ => fh_in h7 (fun c8 h9 => l_X12_load hf _ _ h9 _ _ hQ) (fun c8 h9 => ⟨rfl, fh_rt h9 hQ⟩)⟩⟩)⟩))
noncomputable def G_X12_load (n : Nat) (r : Nat → Nat → Option Nat) (as : List Value) (m : fm_) : Option (Option Value × fm_) := match as with
  | [.ref x0, .int p1, .int p2, .int p3] => gd_ (Nat.beq x0 106) ((f_X12_load p1 p2 p3 m).map en_i)
  | _ => none
set_option maxRecDepth 100000 in
theorem gp_X12_load {n : Nat} {r : Nat → Nat → Option Nat}  {p1 : Int32} {p2 : Int32} {p3 : Int32} {m : fm_} {q : Int32 × fm_}  (e : f_X12_load p1 p2 p3 m = some q) : G_X12_load n r [.ref 106, .int p1, .int p2, .int p3] m = some (en_i q) := by
  show (gd_ (Nat.beq 106 106) ((f_X12_load p1 p2 p3 m).map en_i)) = _
  exact fn_gd rfl (fn_mp e)
set_option maxRecDepth 100000 in
theorem ok_X12_load : am_mok 12 276 m_X12_load = true := by decide +kernel
set_option maxRecDepth 100000 in
theorem c_X12_load (l : Launch) {g : am_G} (hg : fx_ l g) : am_Met l g 4 276 (fn_s fn_F G_X12_load) := by
  refine am_sound (own := 12) (M := m_X12_load) (SP := sp_X12_load) hg.1 (by decide +kernel) ok_X12_load (by decide +kernel) ?_ (fun q hq hk => absurd hk (am_no61 (M := m_X12_load) (by decide +kernel) q hq)) (fn_ext l _ rfl g 12) (Or.inl (by decide +kernel)) ?_ ?_
  · intro q hq hk
    have hm : q.2.2.2.1 ∈ am_cs m_X12_load := am_cs_in hq hk
    rw [show am_cs m_X12_load = [219, 272, 275] by decide +kernel] at hm
    have hm : q.2.2.2.1 ∈ [219, 272, 275] := (List.all_eq_true.mp (show ([219, 272, 275] : List Nat).all (fun a => decide (a ∈ ([219, 272, 275] : List Nat))) = true by decide +kernel) _ hm |> of_decide_eq_true)
    simp only [List.mem_cons, List.not_mem_nil, or_false] at hm
    rcases hm with hm | hm | hm
    · rw [hm]; exact ⟨0, by omega, c_X12_isDay l hg⟩
    · rw [hm]; exact ⟨3, by omega, c_X12_go l hg⟩
    · rw [hm]; exact ⟨0, by omega, c_X12_wayOf l hg⟩
  · intro as w K h
    obtain ⟨hf, y, m1, hG, hK⟩ := h
    unfold G_X12_load at hG
    split at hG
    · exact Nat.le_of_ble_eq_true rfl
    · cases hG
  · intro as w K h
    obtain ⟨n, i0, l0, r⟩ := w
    obtain ⟨hf, y, m1, hG, hK⟩ := h
    unfold G_X12_load at hG
    split at hG
    · next x0 p1 p2 p3 =>
      obtain ⟨hx1, hG1⟩ := gd_u hG
      obtain rfl := Nat.eq_of_beq_eq_true hx1
      obtain ⟨q, hq, he⟩ := fn_mu hG1
      obtain ⟨rfl, rfl⟩ := Prod.mk.inj he
      exact t_X12_load  hf  p1 p2 p3 (m := (i0, l0)) hq hK
    · cases hG

/-! == X12_gone == -/
abbrev S_X12_gone : Type := (Int32 × Int32 × fm_)
noncomputable def st_X12_gone (s : S_X12_gone) : Option (S_X12_gone ⊕ (Int32 × fm_)) := match s with
  | (x1, x2, m) =>
    (if (gi_ m 106 95) ≤ x2 then
((some (Sum.inr (x1, m))))
else
(gd_ (ix_ x2 13)
((some (Sum.inl (((x1 ||| (1 <<< ((gi_ m 166 (Int32.toNatClampNeg x2)) &&& 31))), (x2 + 1), m)))))))
noncomputable def f_X12_gone_4 (x1 : Int32) (x2 : Int32) (m : fm_) : Option (Int32 × fm_) := am_lp (st_X12_gone) ((x1, x2, m))
theorem e_X12_gone_4 (x1 : Int32) (x2 : Int32) (m : fm_) : f_X12_gone_4 x1 x2 m =
(if (gi_ m 106 95) ≤ x2 then
((some (x1, m)))
else
(gd_ (ix_ x2 13)
((f_X12_gone_4 (x1 ||| (1 <<< ((gi_ m 166 (Int32.toNatClampNeg x2)) &&& 31))) (x2 + 1) m)))) :=
  (am_lp_eq _ _).trans (fe_if (rfl) (fe_gd (rfl)))
noncomputable def f_X12_gone  (m : fm_) : Option (Int32 × fm_) :=
  ((f_X12_gone_4 0 0 m))
def sp_X12_gone : am_S := fn_sp []
theorem sm_X12_gone : am_Smono (sp_X12_gone) := fn_sp_mono _
def P_X12_gone (n : Nat) (r : Nat → Nat → Option Nat) (s : S_X12_gone) (q : Int32 × fm_) : Prop := match s with
  | (x1, x2, m) => ∀ (Q : Option Value → am_W → Prop), Q (en_i q).1 (mk_ n r q.2) → am_T m_X12_gone sp_X12_gone n Q 4 [some (.ref 106), some (.int x1), some (.int x2)] [] (mk_ n r m)
set_option maxRecDepth 100000 in
theorem t_X12_gone_4 {n : Nat} {r : Nat → Nat → Option Nat} (hf : fn_F n r) {K : S_X12_gone → Option (Int32 × fm_)} {q : Int32 × fm_} (hK : ∀ s, K s = some q → P_X12_gone n r s q) (x1 : Int32) (x2 : Int32) (m : fm_)
  (h : am_k K (st_X12_gone ((x1, x2, m))) = some q) : P_X12_gone n r ((x1, x2, m)) q := fun Q hQ =>
  am_T.wp sm_X12_gone (K := am_T m_X12_gone sp_X12_gone n Q) (cuts := [4]) (fun _ _ _ _ h => h) 17
    (⟨fn_aF hf rfl rfl, fj_if h (fun c1 h2 => ⟨rfl, fj_rt h2 hQ⟩) (fun c1 h2 => ⟨fn_aF hf rfl rfl, Or.inl ⟨_, hf.2 106 94 166 rfl, fj_gd h2 fun g4 h3 => ⟨13, fn_aF hf rfl rfl, ix_t g4, hK _ h3 _ hQ⟩⟩⟩)⟩)
theorem l_X12_gone {n : Nat} {r : Nat → Nat → Option Nat} (hf : fn_F n r) (s : S_X12_gone) (q : Int32 × fm_) (h : am_lp (st_X12_gone) s = some q) : P_X12_gone n r s q :=
  am_lp_snd (P := P_X12_gone n r) (fun K hK s q h => match s, h with
    | (x1, x2, m), h => t_X12_gone_4 hf (fun s => hK s q) x1 x2 m h) s q h
set_option maxRecDepth 100000 in
theorem t_X12_gone {n : Nat} {r : Nat → Nat → Option Nat} (hf : fn_F n r) {q : Int32 × fm_}  {m : fm_}
  (h : f_X12_gone  m = some q) {Q : Option Value → am_W → Prop} (hQ : Q (en_i q).1 (mk_ n r q.2)) : am_T m_X12_gone sp_X12_gone n Q 0 [some (.ref 106), none, none] [] (mk_ n r m) :=
  am_T.wp sm_X12_gone (K := am_T m_X12_gone sp_X12_gone n Q) (cuts := [4]) (fun _ _ _ _ h => h) 6
    (l_X12_gone hf _ _ h _ hQ)
noncomputable def G_X12_gone (n : Nat) (r : Nat → Nat → Option Nat) (as : List Value) (m : fm_) : Option (Option Value × fm_) := match as with
  | [.ref x0] => gd_ (Nat.beq x0 106) ((f_X12_gone  m).map en_i)
  | _ => none
set_option maxRecDepth 100000 in
theorem gp_X12_gone {n : Nat} {r : Nat → Nat → Option Nat}   {m : fm_} {q : Int32 × fm_}  (e : f_X12_gone  m = some q) : G_X12_gone n r [.ref 106] m = some (en_i q) := by
  show (gd_ (Nat.beq 106 106) ((f_X12_gone  m).map en_i)) = _
  exact fn_gd rfl (fn_mp e)
set_option maxRecDepth 100000 in
theorem ok_X12_gone : am_mok 12 277 m_X12_gone = true := by decide +kernel
set_option maxRecDepth 100000 in
theorem c_X12_gone (l : Launch) {g : am_G} (hg : fx_ l g) : am_Met l g 0 277 (fn_s fn_F G_X12_gone) := by
  refine am_sound (own := 12) (M := m_X12_gone) (SP := sp_X12_gone) hg.1 (by decide +kernel) ok_X12_gone (by decide +kernel) ?_ (fun q hq hk => absurd hk (am_no61 (M := m_X12_gone) (by decide +kernel) q hq)) (fn_ext l _ rfl g 12) (Or.inl (by decide +kernel)) ?_ ?_
  · intro q hq hk
    have hm : q.2.2.2.1 ∈ am_cs m_X12_gone := am_cs_in hq hk
    rw [show am_cs m_X12_gone = [] by decide +kernel] at hm
    cases hm
  · intro as w K h
    obtain ⟨hf, y, m1, hG, hK⟩ := h
    unfold G_X12_gone at hG
    split at hG
    · exact Nat.le_of_ble_eq_true rfl
    · cases hG
  · intro as w K h
    obtain ⟨n, i0, l0, r⟩ := w
    obtain ⟨hf, y, m1, hG, hK⟩ := h
    unfold G_X12_gone at hG
    split at hG
    · next x0 =>
      obtain ⟨hx1, hG1⟩ := gd_u hG
      obtain rfl := Nat.eq_of_beq_eq_true hx1
      obtain ⟨q, hq, he⟩ := fn_mu hG1
      obtain ⟨rfl, rfl⟩ := Prod.mk.inj he
      exact t_X12_gone  hf   (m := (i0, l0)) hq hK
    · cases hG

/-! == X12_around == -/
abbrev S_X12_around : Type := (Int32 × Int32 × Int32 × fm_)
noncomputable def st_X12_around (s : S_X12_around) : Option (S_X12_around ⊕ (Int32 × fm_)) := match s with
  | (x1, x2, x3, m) =>
    (if (gi_ m 106 87) ≤ x3 then
((some (Sum.inr (x2, m))))
else
(Option.bind (f_X12_go x3 x1 0 m) fun q3 =>
(Option.bind (f_X12_gone q3.2) fun q6 =>
(if (q6.1 &&& (gi_ q6.2 106 31)) = 0 then
(Option.bind (f_X12_go x3 x1 1 q6.2) fun q11 =>
((some (Sum.inl ((x1, (x2 + 0), (x3 + 1), q11.2))))))
else
(Option.bind (f_X12_go x3 x1 1 q6.2) fun q15 =>
(Option.bind (f_X12_gone q15.2) fun q19 =>
(if (q19.1 &&& (gi_ q19.2 106 31)) = 0 then
(gd_ (ix_ x3 20)
((some (Sum.inl ((x1, (x2 + (gi_ q19.2 162 (Int32.toNatClampNeg x3))), (x3 + 1), q19.2))))))
else
((some (Sum.inl ((x1, (x2 + 0), (x3 + 1), q19.2))))))))))))
noncomputable def f_X12_around_13 (x1 : Int32) (x2 : Int32) (x3 : Int32) (m : fm_) : Option (Int32 × fm_) := am_lp (st_X12_around) ((x1, x2, x3, m))
theorem e_X12_around_13 (x1 : Int32) (x2 : Int32) (x3 : Int32) (m : fm_) : f_X12_around_13 x1 x2 x3 m =
(if (gi_ m 106 87) ≤ x3 then
((some (x2, m)))
else
(Option.bind (f_X12_go x3 x1 0 m) fun q3 =>
(Option.bind (f_X12_gone q3.2) fun q6 =>
(if (q6.1 &&& (gi_ q6.2 106 31)) = 0 then
(Option.bind (f_X12_go x3 x1 1 q6.2) fun q11 =>
((f_X12_around_13 x1 (x2 + 0) (x3 + 1) q11.2)))
else
(Option.bind (f_X12_go x3 x1 1 q6.2) fun q15 =>
(Option.bind (f_X12_gone q15.2) fun q19 =>
(if (q19.1 &&& (gi_ q19.2 106 31)) = 0 then
(gd_ (ix_ x3 20)
((f_X12_around_13 x1 (x2 + (gi_ q19.2 162 (Int32.toNatClampNeg x3))) (x3 + 1) q19.2)))
else
((f_X12_around_13 x1 (x2 + 0) (x3 + 1) q19.2))))))))) :=
  (am_lp_eq _ _).trans (fe_if (rfl) (fe_bd fun q3 => (fe_bd fun q6 => (fe_if (fe_bd fun q11 => (rfl)) (fe_bd fun q15 => (fe_bd fun q19 => (fe_if (fe_gd (rfl)) (rfl))))))))
noncomputable def f_X12_around (p1 : Int32) (m : fm_) : Option (Int32 × fm_) :=
  (Option.bind (f_X12_isDay p1 m) fun q1 =>
(if q1.1 = 0 then
((some ((-1), q1.2)))
else
((f_X12_around_13 p1 0 0 q1.2))))
def sp_X12_around : am_S := fn_sp [(219, fn_0, G_X12_isDay), (272, fn_F, G_X12_go), (277, fn_F, G_X12_gone)]
theorem sm_X12_around : am_Smono (sp_X12_around) := fn_sp_mono _
def P_X12_around (n : Nat) (r : Nat → Nat → Option Nat) (s : S_X12_around) (q : Int32 × fm_) : Prop := match s with
  | (x1, x2, x3, m) => ∀ (Q : Option Value → am_W → Prop) (y4 : Option Value), Q (en_i q).1 (mk_ n r q.2) → am_T m_X12_around sp_X12_around n Q 13 [some (.ref 106), some (.int x1), some (.int x2), some (.int x3), y4] [] (mk_ n r m)
set_option maxRecDepth 100000 in
theorem t_X12_around_13 {n : Nat} {r : Nat → Nat → Option Nat} (hf : fn_F n r) {K : S_X12_around → Option (Int32 × fm_)} {q : Int32 × fm_} (hK : ∀ s, K s = some q → P_X12_around n r s q) (x1 : Int32) (x2 : Int32) (x3 : Int32) (m : fm_)
  (h : am_k K (st_X12_around ((x1, x2, x3, m))) = some q) : P_X12_around n r ((x1, x2, x3, m)) q := fun Q y4 hQ =>
  am_T.wp sm_X12_around (K := am_T m_X12_around sp_X12_around n Q) (cuts := [13]) (fun _ _ _ _ h => h) 45
    (⟨fn_aF hf rfl rfl, fj_if h (fun c1 h2 => ⟨rfl, fj_rt h2 hQ⟩) (fun c1 h2 => fj_bd h2 fun q3 e4 h5 => ⟨Nat.le_of_ble_eq_true rfl, fn_aF hf rfl rfl, ⟨hf, some (.int q3.1), q3.2, gp_X12_go (n := n) (r := r)  e4, fun _ => fj_bd h5 fun q6 e7 h8 => ⟨Nat.le_of_ble_eq_true rfl, fn_aF hf rfl rfl, ⟨hf, some (.int q6.1), q6.2, gp_X12_gone (n := n) (r := r)  e7, fun _ => ⟨fn_aF hf rfl rfl, fj_if h8 (fun c9 h10 => fj_bd h10 fun q11 e12 h13 => ⟨Nat.le_of_ble_eq_true rfl, fn_aF hf rfl rfl, ⟨hf, some (.int q11.1), q11.2, gp_X12_go (n := n) (r := r)  e12, fun _ => ⟨fun c14 => hK _ h13 _ _ hQ, fun c14 => absurd c14 (by decide)⟩⟩⟩) (fun c9 h10 => fj_bd h10 fun q15 e16 h17 => ⟨Nat.le_of_ble_eq_true rfl, fn_aF hf rfl rfl, ⟨hf, some (.int q15.1), q15.2, gp_X12_go (n := n) (r := r)  e16, fun _ => ⟨fun c18 => absurd c18 (by decide), fun c18 => fj_bd h17 fun q19 e20 h21 => ⟨Nat.le_of_ble_eq_true rfl, fn_aF hf rfl rfl, ⟨hf, some (.int q19.1), q19.2, gp_X12_gone (n := n) (r := r)  e20, fun _ => ⟨fn_aF hf rfl rfl, fj_in h21 (fun c22 h23 => hK _ h23 _ _ hQ) (fun c22 h23 => ⟨fn_aF hf rfl rfl, Or.inl ⟨_, hf.2 106 90 162 rfl, fj_gd h23 fun g25 h24 => ⟨20, fn_aF hf rfl rfl, ix_t g25, hK _ h24 _ _ hQ⟩⟩⟩)⟩⟩⟩⟩⟩⟩)⟩⟩⟩⟩⟩)⟩)
theorem l_X12_around {n : Nat} {r : Nat → Nat → Option Nat} (hf : fn_F n r) (s : S_X12_around) (q : Int32 × fm_) (h : am_lp (st_X12_around) s = some q) : P_X12_around n r s q :=
  am_lp_snd (P := P_X12_around n r) (fun K hK s q h => match s, h with
    | (x1, x2, x3, m), h => t_X12_around_13 hf (fun s => hK s q) x1 x2 x3 m h) s q h
set_option maxRecDepth 100000 in
theorem t_X12_around {n : Nat} {r : Nat → Nat → Option Nat} (hf : fn_F n r) {q : Int32 × fm_} (p1 : Int32) {m : fm_}
  (h : f_X12_around p1 m = some q) {Q : Option Value → am_W → Prop} (hQ : Q (en_i q).1 (mk_ n r q.2)) : am_T m_X12_around sp_X12_around n Q 0 [some (.ref 106), some (.int p1), none, none, none] [] (mk_ n r m) :=
  am_T.wp sm_X12_around (K := am_T m_X12_around sp_X12_around n Q) (cuts := [13]) (fun _ _ _ _ h => h) 9
    (fh_bd h fun q1 e2 h3 => ⟨Nat.le_of_ble_eq_true rfl, trivial, ⟨trivial, some (.int q1.1), q1.2, gp_X12_isDay (n := n) (r := r)  e2, fun _ => fh_in h3 (fun c4 h5 => l_X12_around hf _ _ h5 _ _ hQ) (fun c4 h5 => ⟨rfl, fh_rt h5 hQ⟩)⟩⟩)
noncomputable def G_X12_around (n : Nat) (r : Nat → Nat → Option Nat) (as : List Value) (m : fm_) : Option (Option Value × fm_) := match as with
  | [.ref x0, .int p1] => gd_ (Nat.beq x0 106) ((f_X12_around p1 m).map en_i)
  | _ => none
set_option maxRecDepth 100000 in
theorem gp_X12_around {n : Nat} {r : Nat → Nat → Option Nat}  {p1 : Int32} {m : fm_} {q : Int32 × fm_}  (e : f_X12_around p1 m = some q) : G_X12_around n r [.ref 106, .int p1] m = some (en_i q) := by
  show (gd_ (Nat.beq 106 106) ((f_X12_around p1 m).map en_i)) = _
  exact fn_gd rfl (fn_mp e)
set_option maxRecDepth 100000 in
theorem ok_X12_around : am_mok 12 278 m_X12_around = true := by decide +kernel
set_option maxRecDepth 100000 in
theorem c_X12_around (l : Launch) {g : am_G} (hg : fx_ l g) : am_Met l g 4 278 (fn_s fn_F G_X12_around) := by
  refine am_sound (own := 12) (M := m_X12_around) (SP := sp_X12_around) hg.1 (by decide +kernel) ok_X12_around (by decide +kernel) ?_ (fun q hq hk => absurd hk (am_no61 (M := m_X12_around) (by decide +kernel) q hq)) (fn_ext l _ rfl g 12) (Or.inl (by decide +kernel)) ?_ ?_
  · intro q hq hk
    have hm : q.2.2.2.1 ∈ am_cs m_X12_around := am_cs_in hq hk
    rw [show am_cs m_X12_around = [219, 272, 277, 272, 277] by decide +kernel] at hm
    have hm : q.2.2.2.1 ∈ [219, 272, 277] := (List.all_eq_true.mp (show ([219, 272, 277, 272, 277] : List Nat).all (fun a => decide (a ∈ ([219, 272, 277] : List Nat))) = true by decide +kernel) _ hm |> of_decide_eq_true)
    simp only [List.mem_cons, List.not_mem_nil, or_false] at hm
    rcases hm with hm | hm | hm
    · rw [hm]; exact ⟨0, by omega, c_X12_isDay l hg⟩
    · rw [hm]; exact ⟨3, by omega, c_X12_go l hg⟩
    · rw [hm]; exact ⟨0, by omega, c_X12_gone l hg⟩
  · intro as w K h
    obtain ⟨hf, y, m1, hG, hK⟩ := h
    unfold G_X12_around at hG
    split at hG
    · exact Nat.le_of_ble_eq_true rfl
    · cases hG
  · intro as w K h
    obtain ⟨n, i0, l0, r⟩ := w
    obtain ⟨hf, y, m1, hG, hK⟩ := h
    unfold G_X12_around at hG
    split at hG
    · next x0 p1 =>
      obtain ⟨hx1, hG1⟩ := gd_u hG
      obtain rfl := Nat.eq_of_beq_eq_true hx1
      obtain ⟨q, hq, he⟩ := fn_mu hG1
      obtain ⟨rfl, rfl⟩ := Prod.mk.inj he
      exact t_X12_around  hf  p1 (m := (i0, l0)) hq hK
    · cases hG

