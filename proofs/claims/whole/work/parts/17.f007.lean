/-! == X3_inForce == -/
abbrev S_X3_inForce : Type := (Int32 × Option Nat × Int32 × fm_)
noncomputable def st_X3_inForce (s : S_X3_inForce) : Option (S_X3_inForce ⊕ (Option Nat × fm_)) := match s with
  | (x1, x2, x3, m) =>
    (om_ x2
(if (gi_ m 30 1) ≤ x3 then
((some (Sum.inr (none, m))))
else
(if 6 ≤ x3 then
((some (Sum.inr (none, m))))
else
(gd_ (ix_ x3 6)
(let o10 : Nat := 32 + 6 * (Int32.toNatClampNeg x3);
if x1 < (gi_ m o10 0) then
((some (Sum.inl ((x1, none, (x3 + 1), m)))))
else
(gd_ (ix_ x3 6)
(let o15 : Nat := 32 + 6 * (Int32.toNatClampNeg x3);
(some (Sum.inl ((x1, (some o15), (x3 + 1), m))))))))))
fun o1 =>
(if (gi_ m 30 1) ≤ x3 then
((some (Sum.inr (some o1, m))))
else
(if 6 ≤ x3 then
((some (Sum.inr (some o1, m))))
else
(gd_ (ix_ x3 6)
(let o22 : Nat := 32 + 6 * (Int32.toNatClampNeg x3);
if x1 < (gi_ m o22 0) then
((some (Sum.inl ((x1, (some o1), (x3 + 1), m)))))
else
(gd_ (ix_ x3 6)
(let o27 : Nat := 32 + 6 * (Int32.toNatClampNeg x3);
if (gi_ m o27 0) < (gi_ m o1 0) then
((some (Sum.inl ((x1, (some o1), (x3 + 1), m)))))
else
(gd_ (ix_ x3 6)
(let o32 : Nat := 32 + 6 * (Int32.toNatClampNeg x3);
(some (Sum.inl ((x1, (some o32), (x3 + 1), m)))))))))))))
noncomputable def f_X3_inForce_4 (x1 : Int32) (x2 : Option Nat) (x3 : Int32) (m : fm_) : Option (Option Nat × fm_) := am_lp (st_X3_inForce) ((x1, x2, x3, m))
theorem e_X3_inForce_4 (x1 : Int32) (x2 : Option Nat) (x3 : Int32) (m : fm_) : f_X3_inForce_4 x1 x2 x3 m =
(om_ x2
(if (gi_ m 30 1) ≤ x3 then
((some (none, m)))
else
(if 6 ≤ x3 then
((some (none, m)))
else
(gd_ (ix_ x3 6)
(let o10 : Nat := 32 + 6 * (Int32.toNatClampNeg x3);
if x1 < (gi_ m o10 0) then
((f_X3_inForce_4 x1 none (x3 + 1) m))
else
(gd_ (ix_ x3 6)
(let o15 : Nat := 32 + 6 * (Int32.toNatClampNeg x3);
(f_X3_inForce_4 x1 (some o15) (x3 + 1) m)))))))
fun o1 =>
(if (gi_ m 30 1) ≤ x3 then
((some (some o1, m)))
else
(if 6 ≤ x3 then
((some (some o1, m)))
else
(gd_ (ix_ x3 6)
(let o22 : Nat := 32 + 6 * (Int32.toNatClampNeg x3);
if x1 < (gi_ m o22 0) then
((f_X3_inForce_4 x1 (some o1) (x3 + 1) m))
else
(gd_ (ix_ x3 6)
(let o27 : Nat := 32 + 6 * (Int32.toNatClampNeg x3);
if (gi_ m o27 0) < (gi_ m o1 0) then
((f_X3_inForce_4 x1 (some o1) (x3 + 1) m))
else
(gd_ (ix_ x3 6)
(let o32 : Nat := 32 + 6 * (Int32.toNatClampNeg x3);
(f_X3_inForce_4 x1 (some o32) (x3 + 1) m)))))))))) :=
  (am_lp_eq _ _).trans (fe_om (fe_if (rfl) (fe_if (rfl) (fe_gd (fe_if (rfl) (fe_gd (rfl)))))) fun o1 => (fe_if (rfl) (fe_if (rfl) (fe_gd (fe_if (rfl) (fe_gd (fe_if (rfl) (fe_gd (rfl)))))))))
noncomputable def f_X3_inForce (p1 : Int32) (m : fm_) : Option (Option Nat × fm_) :=
  ((f_X3_inForce_4 p1 none 0 m))
def sp_X3_inForce : am_S := fn_sp []
theorem sm_X3_inForce : am_Smono (sp_X3_inForce) := fn_sp_mono _
def P_X3_inForce (n : Nat) (r : Nat → Nat → Option Nat) (s : S_X3_inForce) (q : Option Nat × fm_) : Prop := match s with
  | (x1, x2, x3, m) => ∀ (Q : Option Value → am_W → Prop) (hx2 : ∀ o, x2 = some o → is_O o = true), Q (en_r q).1 (mk_ n r q.2) → am_T m_X3_inForce sp_X3_inForce n Q 4 [some (.ref 30), some (.int x1), some (am_rv x2), some (.int x3)] [] (mk_ n r m)
set_option maxRecDepth 100000 in
theorem t_X3_inForce_4 {n : Nat} {r : Nat → Nat → Option Nat} (hf : fn_F n r) {K : S_X3_inForce → Option (Option Nat × fm_)} {q : Option Nat × fm_} (hK : ∀ s, K s = some q → P_X3_inForce n r s q) (x1 : Int32) (x2 : Option Nat) (x3 : Int32) (m : fm_)
  (h : am_k K (st_X3_inForce ((x1, x2, x3, m))) = some q) : P_X3_inForce n r ((x1, x2, x3, m)) q := fun Q hx2 hQ =>
  am_T.wp sm_X3_inForce (K := am_T m_X3_inForce sp_X3_inForce n Q) (cuts := [4]) (fun _ _ _ _ h => h) 33
    (fj_om h (fun e2 h3 => by subst e2; exact (⟨fn_aF hf rfl rfl, fj_if h3 (fun c4 h5 => ⟨rfl, fj_rt h5 hQ⟩) (fun c4 h5 => fj_if h5 (fun c6 h7 => ⟨rfl, fj_rt h7 hQ⟩) (fun c6 h7 => ⟨fn_aF hf rfl rfl, Or.inl ⟨_, hf.2 30 0 31 rfl, fj_gd h7 fun g9 h8 => ⟨6, fn_aF hf rfl rfl, ix_t g9, Or.inl ⟨_, fn_r31 hf g9, ⟨fn_aO0 hf (fn_o31 g9) rfl, fj_if h8 (fun c11 h12 => hK _ h12 _ (fun _ h => nomatch h) hQ) (fun c11 h12 => ⟨fn_aF hf rfl rfl, Or.inl ⟨_, hf.2 30 0 31 rfl, fj_gd h12 fun g14 h13 => ⟨6, fn_aF hf rfl rfl, ix_t g14, Or.inl ⟨_, fn_r31 hf g14, hK _ h13 _ (fun _ h => Option.some.inj h ▸ (fn_o31 g14)) hQ⟩⟩⟩⟩)⟩⟩⟩⟩⟩))⟩)) (fun o1 e2 h3 => by subst e2; exact (⟨fn_aF hf rfl rfl, fj_if h3 (fun c16 h17 => ⟨rfl, fj_rt h17 hQ⟩) (fun c16 h17 => fj_if h17 (fun c18 h19 => ⟨rfl, fj_rt h19 hQ⟩) (fun c18 h19 => ⟨fn_aF hf rfl rfl, Or.inl ⟨_, hf.2 30 0 31 rfl, fj_gd h19 fun g21 h20 => ⟨6, fn_aF hf rfl rfl, ix_t g21, Or.inl ⟨_, fn_r31 hf g21, ⟨fn_aO0 hf (fn_o31 g21) rfl, fj_if h20 (fun c23 h24 => hK _ h24 _ (fun _ h => Option.some.inj h ▸ (hx2 o1 rfl)) hQ) (fun c23 h24 => ⟨fn_aF hf rfl rfl, Or.inl ⟨_, hf.2 30 0 31 rfl, fj_gd h24 fun g26 h25 => ⟨6, fn_aF hf rfl rfl, ix_t g26, Or.inl ⟨_, fn_r31 hf g26, ⟨fn_aO0 hf (fn_o31 g26) rfl, ⟨fn_aO0 hf (hx2 o1 rfl) rfl, fj_if h25 (fun c28 h29 => hK _ h29 _ (fun _ h => Option.some.inj h ▸ (hx2 o1 rfl)) hQ) (fun c28 h29 => ⟨fn_aF hf rfl rfl, Or.inl ⟨_, hf.2 30 0 31 rfl, fj_gd h29 fun g31 h30 => ⟨6, fn_aF hf rfl rfl, ix_t g31, Or.inl ⟨_, fn_r31 hf g31, hK _ h30 _ (fun _ h => Option.some.inj h ▸ (fn_o31 g31)) hQ⟩⟩⟩⟩)⟩⟩⟩⟩⟩⟩)⟩⟩⟩⟩⟩))⟩)))
theorem l_X3_inForce {n : Nat} {r : Nat → Nat → Option Nat} (hf : fn_F n r) (s : S_X3_inForce) (q : Option Nat × fm_) (h : am_lp (st_X3_inForce) s = some q) : P_X3_inForce n r s q :=
  am_lp_snd (P := P_X3_inForce n r) (fun K hK s q h => match s, h with
    | (x1, x2, x3, m), h => t_X3_inForce_4 hf (fun s => hK s q) x1 x2 x3 m h) s q h
set_option maxRecDepth 100000 in
theorem t_X3_inForce {n : Nat} {r : Nat → Nat → Option Nat} (hf : fn_F n r) {q : Option Nat × fm_} (p1 : Int32) {m : fm_}
  (h : f_X3_inForce p1 m = some q) {Q : Option Value → am_W → Prop} (hQ : Q (en_r q).1 (mk_ n r q.2)) : am_T m_X3_inForce sp_X3_inForce n Q 0 [some (.ref 30), some (.int p1), none, none] [] (mk_ n r m) :=
  am_T.wp sm_X3_inForce (K := am_T m_X3_inForce sp_X3_inForce n Q) (cuts := [4]) (fun _ _ _ _ h => h) 6
    (l_X3_inForce hf _ _ h _ (fun _ h => nomatch h) hQ)
noncomputable def G_X3_inForce (n : Nat) (r : Nat → Nat → Option Nat) (as : List Value) (m : fm_) : Option (Option Value × fm_) := match as with
  | [.ref x0, .int p1] => gd_ (Nat.beq x0 30) ((f_X3_inForce p1 m).map en_r)
  | _ => none
set_option maxRecDepth 100000 in
theorem gp_X3_inForce {n : Nat} {r : Nat → Nat → Option Nat}  {p1 : Int32} {m : fm_} {q : Option Nat × fm_}  (e : f_X3_inForce p1 m = some q) : G_X3_inForce n r [.ref 30, .int p1] m = some (en_r q) := by
  show (gd_ (Nat.beq 30 30) ((f_X3_inForce p1 m).map en_r)) = _
  exact fn_gd rfl (fn_mp e)
set_option maxRecDepth 100000 in
theorem ok_X3_inForce : am_mok 3 32 m_X3_inForce = true := by decide +kernel
set_option maxRecDepth 100000 in
theorem c_X3_inForce (l : Launch) {g : am_G} (hg : fx_ l g) : am_Met l g 0 32 (fn_s fn_F G_X3_inForce) := by
  refine am_sound (own := 3) (M := m_X3_inForce) (SP := sp_X3_inForce) hg.1 (by decide +kernel) ok_X3_inForce (by decide +kernel) ?_ (fun q hq hk => absurd hk (am_no61 (M := m_X3_inForce) (by decide +kernel) q hq)) (fn_ext l _ rfl g 3) (Or.inl (by decide +kernel)) ?_ ?_
  · intro q hq hk
    have hm : q.2.2.2.1 ∈ am_cs m_X3_inForce := am_cs_in hq hk
    rw [show am_cs m_X3_inForce = [] by decide +kernel] at hm
    cases hm
  · intro as w K h
    obtain ⟨hf, y, m1, hG, hK⟩ := h
    unfold G_X3_inForce at hG
    split at hG
    · exact Nat.le_of_ble_eq_true rfl
    · cases hG
  · intro as w K h
    obtain ⟨n, i0, l0, r⟩ := w
    obtain ⟨hf, y, m1, hG, hK⟩ := h
    unfold G_X3_inForce at hG
    split at hG
    · next x0 p1 =>
      obtain ⟨hx1, hG1⟩ := gd_u hG
      obtain rfl := Nat.eq_of_beq_eq_true hx1
      obtain ⟨q, hq, he⟩ := fn_mu hG1
      obtain ⟨rfl, rfl⟩ := Prod.mk.inj he
      exact t_X3_inForce  hf  p1 (m := (i0, l0)) hq hK
    · cases hG

/-! == X3_chargeOn == -/
noncomputable def f_X3_chargeOn (p1 : Int32) (p2 : Int32) (m : fm_) : Option (Int32 × fm_) :=
  (Option.bind (f_X3_inForce p1 m) fun q1 => om_ q1.1
((some (0, q1.2)))
fun o4 => gd_ (is_O o4)
(Option.bind (f_X4_chargeOf o4 p2 q1.2) fun q9 =>
((some (q9.1, q9.2)))))
def sp_X3_chargeOn : am_S := fn_sp [(32, fn_F, G_X3_inForce), (38, fn_F, G_X4_chargeOf)]
theorem sm_X3_chargeOn : am_Smono (sp_X3_chargeOn) := fn_sp_mono _
set_option maxRecDepth 100000 in
theorem t_X3_chargeOn {n : Nat} {r : Nat → Nat → Option Nat} (hf : fn_F n r) {q : Int32 × fm_} (p1 : Int32) (p2 : Int32) {m : fm_}
  (h : f_X3_chargeOn p1 p2 m = some q) {Q : Option Value → am_W → Prop} (hQ : Q (en_i q).1 (mk_ n r q.2)) : am_T m_X3_chargeOn sp_X3_chargeOn n Q 0 [some (.ref 30), some (.int p1), some (.int p2), none] [] (mk_ n r m) :=
  am_T.wp sm_X3_chargeOn (K := am_T m_X3_chargeOn sp_X3_chargeOn n Q) (cuts := []) (fun _ _ _ _ h => h) 11
    (fh_bd h fun q1 e2 h3 => fh_om h3 (fun e8 h7 => ⟨Nat.le_of_ble_eq_true rfl, fn_aF hf rfl rfl, hf, _, _, gp_X3_inForce (n := n) (r := r)  e2, fun _ => am_rv_n e8 (⟨rfl, fh_rt h7 hQ⟩)⟩) (fun o4 e8 h3 => fh_gd h3 fun g5 h6 => ⟨Nat.le_of_ble_eq_true rfl, fn_aF hf rfl rfl, hf, _, _, gp_X3_inForce (n := n) (r := r)  e2, fun _ => am_rv_s e8 (fh_bd h6 fun q9 e10 h11 => ⟨Nat.le_of_ble_eq_true rfl, fn_aO0 hf g5 rfl, ⟨hf, some (.int q9.1), q9.2, gp_X4_chargeOf (n := n) (r := r) g5 e10, fun _ => ⟨rfl, fh_rt h11 hQ⟩⟩⟩)⟩))
noncomputable def G_X3_chargeOn (n : Nat) (r : Nat → Nat → Option Nat) (as : List Value) (m : fm_) : Option (Option Value × fm_) := match as with
  | [.ref x0, .int p1, .int p2] => gd_ (Nat.beq x0 30) ((f_X3_chargeOn p1 p2 m).map en_i)
  | _ => none
set_option maxRecDepth 100000 in
theorem gp_X3_chargeOn {n : Nat} {r : Nat → Nat → Option Nat}  {p1 : Int32} {p2 : Int32} {m : fm_} {q : Int32 × fm_}  (e : f_X3_chargeOn p1 p2 m = some q) : G_X3_chargeOn n r [.ref 30, .int p1, .int p2] m = some (en_i q) := by
  show (gd_ (Nat.beq 30 30) ((f_X3_chargeOn p1 p2 m).map en_i)) = _
  exact fn_gd rfl (fn_mp e)
set_option maxRecDepth 100000 in
theorem ok_X3_chargeOn : am_mok 3 33 m_X3_chargeOn = true := by decide +kernel
set_option maxRecDepth 100000 in
theorem c_X3_chargeOn (l : Launch) {g : am_G} (hg : fx_ l g) : am_Met l g 2 33 (fn_s fn_F G_X3_chargeOn) := by
  refine am_sound (own := 3) (M := m_X3_chargeOn) (SP := sp_X3_chargeOn) hg.1 (by decide +kernel) ok_X3_chargeOn (by decide +kernel) ?_ (fun q hq hk => absurd hk (am_no61 (M := m_X3_chargeOn) (by decide +kernel) q hq)) (fn_ext l _ rfl g 3) (Or.inl (by decide +kernel)) ?_ ?_
  · intro q hq hk
    have hm : q.2.2.2.1 ∈ am_cs m_X3_chargeOn := am_cs_in hq hk
    rw [show am_cs m_X3_chargeOn = [32, 38] by decide +kernel] at hm
    have hm : q.2.2.2.1 ∈ [32, 38] := (List.all_eq_true.mp (show ([32, 38] : List Nat).all (fun a => decide (a ∈ ([32, 38] : List Nat))) = true by decide +kernel) _ hm |> of_decide_eq_true)
    simp only [List.mem_cons, List.not_mem_nil, or_false] at hm
    rcases hm with hm | hm
    · rw [hm]; exact ⟨0, by omega, c_X3_inForce l hg⟩
    · rw [hm]; exact ⟨1, by omega, c_X4_chargeOf l hg⟩
  · intro as w K h
    obtain ⟨hf, y, m1, hG, hK⟩ := h
    unfold G_X3_chargeOn at hG
    split at hG
    · exact Nat.le_of_ble_eq_true rfl
    · cases hG
  · intro as w K h
    obtain ⟨n, i0, l0, r⟩ := w
    obtain ⟨hf, y, m1, hG, hK⟩ := h
    unfold G_X3_chargeOn at hG
    split at hG
    · next x0 p1 p2 =>
      obtain ⟨hx1, hG1⟩ := gd_u hG
      obtain rfl := Nat.eq_of_beq_eq_true hx1
      obtain ⟨q, hq, he⟩ := fn_mu hG1
      obtain ⟨rfl, rfl⟩ := Prod.mk.inj he
      exact t_X3_chargeOn  hf  p1 p2 (m := (i0, l0)) hq hK
    · cases hG

/-! == X5_readClass == -/
noncomputable def f_X5_readClass (o : Nat)  (m : fm_) : Option (Int32 × fm_) :=
  (if (gi_ m o 5) < 6 then
(Option.bind (f_X8_step m) fun q3 =>
(gd_ (ix_ (gi_ m o 5) 6)
(Option.bind (f_X8_takeNumber 0 9 (si_ q3.2 (o + 3) (Int32.toNatClampNeg (gi_ m o 5)) (gi_ q3.2 o 2))) fun q8 =>
(gd_ (ix_ (gi_ m o 5) 6)
(gd_ (ix_ (gi_ m o 5) 6)
(if (gi_ (si_ (si_ q8.2 (o + 2) (Int32.toNatClampNeg (gi_ m o 5)) q8.1) o 5 ((gi_ (si_ q8.2 (o + 2) (Int32.toNatClampNeg (gi_ m o 5)) q8.1) o 5) + 1)) (o + 2) (Int32.toNatClampNeg (gi_ m o 5))) = (-1) then
((some (0, (si_ (si_ q8.2 (o + 2) (Int32.toNatClampNeg (gi_ m o 5)) q8.1) o 5 ((gi_ (si_ q8.2 (o + 2) (Int32.toNatClampNeg (gi_ m o 5)) q8.1) o 5) + 1)))))
else
((some (1, (si_ (si_ q8.2 (o + 2) (Int32.toNatClampNeg (gi_ m o 5)) q8.1) o 5 ((gi_ (si_ q8.2 (o + 2) (Int32.toNatClampNeg (gi_ m o 5)) q8.1) o 5) + 1)))))))))))
else
(Option.bind (f_X8_fail 2 m) fun q17 =>
(gd_ (bl_ q17.1)
((some (q17.1, q17.2))))))
def sp_X5_readClass : am_S := fn_sp [(96, fn_F, G_X8_fail), (95, fn_F, G_X8_step), (98, fn_F, G_X8_takeNumber)]
theorem sm_X5_readClass : am_Smono (sp_X5_readClass) := fn_sp_mono _
set_option maxRecDepth 100000 in
theorem t_X5_readClass (o : Nat) {n : Nat} {r : Nat → Nat → Option Nat} (hf : fn_F n r) (ho : is_O o = true) (hr : r 68 1 = some o) {q : Int32 × fm_}  {m : fm_}
  (h : f_X5_readClass o  m = some q) {Q : Option Value → am_W → Prop} (hQ : Q (en_i q).1 (mk_ n r q.2)) : am_T m_X5_readClass sp_X5_readClass n Q 0 [some (.ref 68), none] [] (mk_ n r m) :=
  am_T.wp sm_X5_readClass (K := am_T m_X5_readClass sp_X5_readClass n Q) (cuts := []) (fun _ _ _ _ h => h) 46
    (⟨fn_aF hf rfl rfl, Or.inl ⟨_, hr, ⟨fn_aO0 hf ho rfl, fh_if h (fun c1 h2 => ⟨fn_aF hf rfl rfl, Or.inl ⟨_, hf.2 68 0 1 rfl, fh_bd h2 fun q3 e4 h5 => ⟨Nat.le_of_ble_eq_true rfl, fn_aF hf rfl rfl, ⟨hf, none, q3.2, gp_X8_step (n := n) (r := r)  e4, fun _ => ⟨rfl, ⟨fn_aF hf rfl rfl, Or.inl ⟨_, hr, ⟨fn_aO0 hf ho rfl, Or.inl ⟨_, fn_rO4 hf ho, ⟨fn_aF hf rfl rfl, Or.inl ⟨_, hr, ⟨fn_aO0 hf ho rfl, fh_gd h5 fun g7 h6 => ⟨6, fn_aO3 hf ho rfl, ix_t g7, ⟨fn_aF hf rfl rfl, Or.inl ⟨_, hr, ⟨fn_aO0 hf ho rfl, Or.inl ⟨_, fn_rO3 hf ho, ⟨fn_aF hf rfl rfl, Or.inl ⟨_, hf.2 68 0 1 rfl, fh_bd h6 fun q8 e9 h10 => ⟨Nat.le_of_ble_eq_true rfl, fn_aF hf rfl rfl, ⟨hf, some (.int q8.1), q8.2, gp_X8_takeNumber (n := n) (r := r)  e9, fun _ => fh_gd h10 fun g12 h11 => ⟨6, fn_aO2 hf ho rfl, ix_t g12, ⟨fn_aF hf rfl rfl, Or.inl ⟨_, hr, ⟨fn_aO0 hf ho rfl, ⟨fn_aO0 hf ho rfl, ⟨fn_aF hf rfl rfl, Or.inl ⟨_, hr, ⟨fn_aO0 hf ho rfl, Or.inl ⟨_, fn_rO3 hf ho, fh_gd h11 fun g14 h13 => ⟨6, fn_aO2 hf ho rfl, ix_t g14, fh_if h13 (fun c15 h16 => ⟨rfl, Or.inl rfl, fh_rt h16 hQ⟩) (fun c15 h16 => ⟨rfl, Or.inr rfl, fh_rt h16 hQ⟩)⟩⟩⟩⟩⟩⟩⟩⟩⟩⟩⟩⟩⟩⟩⟩⟩⟩⟩⟩⟩⟩⟩⟩⟩⟩⟩⟩⟩⟩⟩⟩) (fun c1 h2 => ⟨fn_aF hf rfl rfl, Or.inl ⟨_, hf.2 68 0 1 rfl, fh_bd h2 fun q17 e18 h19 => ⟨Nat.le_of_ble_eq_true rfl, fn_aF hf rfl rfl, ⟨hf, some (.int q17.1), q17.2, gp_X8_fail (n := n) (r := r)  e18, fun _ => fh_gd h19 fun g21 h20 => ⟨rfl, bl_t g21, fh_rt h20 hQ⟩⟩⟩⟩⟩)⟩⟩⟩)
noncomputable def G_X5_readClass (n : Nat) (r : Nat → Nat → Option Nat) (as : List Value) (m : fm_) : Option (Option Value × fm_) := match as with
  | [.ref x0] => gd_ (Nat.beq x0 68) (fn_or (r 68 1) fun o => gd_ (is_O o) ((f_X5_readClass o m).map en_i))
  | _ => none
set_option maxRecDepth 100000 in
theorem gp_X5_readClass {n : Nat} {r : Nat → Nat → Option Nat} {o : Nat}  {m : fm_} {q : Int32 × fm_} (hr : r 68 1 = some o) (ho : is_O o = true) (e : f_X5_readClass o m = some q) : G_X5_readClass n r [.ref 68] m = some (en_i q) := by
  show (gd_ (Nat.beq 68 68) (fn_or (r 68 1) fun o => gd_ (is_O o) ((f_X5_readClass o m).map en_i))) = _
  exact fn_gd rfl (fn_68 hr (fn_gd ho (fn_mp e)))
set_option maxRecDepth 100000 in
theorem ok_X5_readClass : am_mok 5 49 m_X5_readClass = true := by decide +kernel
set_option maxRecDepth 100000 in
theorem c_X5_readClass (l : Launch) {g : am_G} (hg : fx_ l g) : am_Met l g 2 49 (fn_s fn_F G_X5_readClass) := by
  refine am_sound (own := 5) (M := m_X5_readClass) (SP := sp_X5_readClass) hg.1 (by decide +kernel) ok_X5_readClass (by decide +kernel) ?_ (fun q hq hk => absurd hk (am_no61 (M := m_X5_readClass) (by decide +kernel) q hq)) (fn_ext l _ rfl g 5) (Or.inl (by decide +kernel)) ?_ ?_
  · intro q hq hk
    have hm : q.2.2.2.1 ∈ am_cs m_X5_readClass := am_cs_in hq hk
    rw [show am_cs m_X5_readClass = [96, 95, 98] by decide +kernel] at hm
    have hm : q.2.2.2.1 ∈ [95, 96, 98] := (List.all_eq_true.mp (show ([96, 95, 98] : List Nat).all (fun a => decide (a ∈ ([95, 96, 98] : List Nat))) = true by decide +kernel) _ hm |> of_decide_eq_true)
    simp only [List.mem_cons, List.not_mem_nil, or_false] at hm
    rcases hm with hm | hm | hm
    · rw [hm]; exact ⟨0, by omega, c_X8_step l hg⟩
    · rw [hm]; exact ⟨0, by omega, c_X8_fail l hg⟩
    · rw [hm]; exact ⟨1, by omega, c_X8_takeNumber l hg⟩
  · intro as w K h
    obtain ⟨hf, y, m1, hG, hK⟩ := h
    unfold G_X5_readClass at hG
    split at hG
    · exact Nat.le_of_ble_eq_true rfl
    · cases hG
  · intro as w K h
    obtain ⟨n, i0, l0, r⟩ := w
    obtain ⟨hf, y, m1, hG, hK⟩ := h
    unfold G_X5_readClass at hG
    split at hG
    · next x0 =>
      obtain ⟨hx1, hG1⟩ := gd_u hG
      obtain ⟨o, hr, hG8⟩ := fn_or_u hG1
      obtain ⟨ho, hG9⟩ := gd_u hG8
      obtain rfl := Nat.eq_of_beq_eq_true hx1
      obtain ⟨q, hq, he⟩ := fn_mu hG9
      obtain ⟨rfl, rfl⟩ := Prod.mk.inj he
      exact t_X5_readClass o hf ho hr  (m := (i0, l0)) hq hK
    · cases hG

/-! == X5_readCharge == -/
noncomputable def f_X5_readCharge (o : Nat)  (m : fm_) : Option (Int32 × fm_) :=
  (Option.bind (f_X8_step m) fun q1 =>
(Option.bind (f_X8_value q1.2) fun q4 =>
(Option.bind (f_X8_kind q4.2) fun q7 =>
(if q7.1 = 2 then
(Option.bind (f_X11_isUnder q4.1 10 q7.2) fun q31 =>
(if q31.1 = 0 then
(Option.bind (f_X8_takeNumber 0 9 q31.2) fun q36 =>
(if q36.1 = (-1) then
((some (0, q36.2)))
else
(Option.bind (f_X8_take 106 q36.2) fun q41 =>
(if q41.1 = 0 then
((some (0, q41.2)))
else
(Option.bind (f_X8_takeNumber 0 999 q41.2) fun q46 =>
(gd_ (ix_ q36.1 10)
(gd_ (ix_ q36.1 10)
(if (gi_ (si_ q46.2 (o + 4) (Int32.toNatClampNeg q36.1) q46.1) (o + 4) (Int32.toNatClampNeg q36.1)) = (-1) then
((some (0, (si_ q46.2 (o + 4) (Int32.toNatClampNeg q36.1) q46.1))))
else
((some (1, (si_ q46.2 (o + 4) (Int32.toNatClampNeg q36.1) q46.1))))))))))))
else
(gd_ (ix_ q4.1 10)
(if (gi_ q31.2 (o + 4) (Int32.toNatClampNeg q4.1)) = (-1) then
(Option.bind (f_X8_takeNumber 0 9 q31.2) fun q59 =>
(if q59.1 = (-1) then
((some (0, q59.2)))
else
(Option.bind (f_X8_take 106 q59.2) fun q64 =>
(if q64.1 = 0 then
((some (0, q64.2)))
else
(Option.bind (f_X8_takeNumber 0 999 q64.2) fun q69 =>
(gd_ (ix_ q59.1 10)
(gd_ (ix_ q59.1 10)
(if (gi_ (si_ q69.2 (o + 4) (Int32.toNatClampNeg q59.1) q69.1) (o + 4) (Int32.toNatClampNeg q59.1)) = (-1) then
((some (0, (si_ q69.2 (o + 4) (Int32.toNatClampNeg q59.1) q69.1))))
else
((some (1, (si_ q69.2 (o + 4) (Int32.toNatClampNeg q59.1) q69.1))))))))))))
else
(Option.bind (f_X8_fail 2 q31.2) fun q78 =>
(gd_ (bl_ q78.1)
((some (q78.1, q78.2)))))))))
else
(Option.bind (f_X8_takeNumber 0 9 q7.2) fun q12 =>
(if q12.1 = (-1) then
((some (0, q12.2)))
else
(Option.bind (f_X8_take 106 q12.2) fun q17 =>
(if q17.1 = 0 then
((some (0, q17.2)))
else
(Option.bind (f_X8_takeNumber 0 999 q17.2) fun q22 =>
(gd_ (ix_ q12.1 10)
(gd_ (ix_ q12.1 10)
(if (gi_ (si_ q22.2 (o + 4) (Int32.toNatClampNeg q12.1) q22.1) (o + 4) (Int32.toNatClampNeg q12.1)) = (-1) then
((some (0, (si_ q22.2 (o + 4) (Int32.toNatClampNeg q12.1) q22.1))))
else
((some (1, (si_ q22.2 (o + 4) (Int32.toNatClampNeg q12.1) q22.1))))))))))))))))
def sp_X5_readCharge : am_S := fn_sp [(95, fn_F, G_X8_step), (94, fn_F, G_X8_value), (93, fn_F, G_X8_kind), (182, fn_0, G_X11_isUnder), (96, fn_F, G_X8_fail), (98, fn_F, G_X8_takeNumber), (97, fn_F, G_X8_take)]
theorem sm_X5_readCharge : am_Smono (sp_X5_readCharge) := fn_sp_mono _
set_option maxRecDepth 100000 in
theorem t_X5_readCharge (o : Nat) {n : Nat} {r : Nat → Nat → Option Nat} (hf : fn_F n r) (ho : is_O o = true) (hr : r 68 1 = some o) {q : Int32 × fm_}  {m : fm_}
  (h : f_X5_readCharge o  m = some q) {Q : Option Value → am_W → Prop} (hQ : Q (en_i q).1 (mk_ n r q.2)) : am_T m_X5_readCharge sp_X5_readCharge n Q 0 [some (.ref 68), none, none] [] (mk_ n r m) :=
  am_T.wp sm_X5_readCharge (K := am_T m_X5_readCharge sp_X5_readCharge n Q) (cuts := []) (fun _ _ _ _ h => h) 58
    (⟨fn_aF hf rfl rfl, Or.inl ⟨_, hf.2 68 0 1 rfl, fh_bd h fun q1 e2 h3 => ⟨Nat.le_of_ble_eq_true rfl, fn_aF hf rfl rfl, ⟨hf, none, q1.2, gp_X8_step (n := n) (r := r)  e2, fun _ => ⟨rfl, ⟨fn_aF hf rfl rfl, Or.inl ⟨_, hf.2 68 0 1 rfl, fh_bd h3 fun q4 e5 h6 => ⟨Nat.le_of_ble_eq_true rfl, fn_aF hf rfl rfl, ⟨hf, some (.int q4.1), q4.2, gp_X8_value (n := n) (r := r)  e5, fun _ => ⟨fn_aF hf rfl rfl, Or.inl ⟨_, hf.2 68 0 1 rfl, fh_bd h6 fun q7 e8 h9 => ⟨Nat.le_of_ble_eq_true rfl, fn_aF hf rfl rfl, ⟨hf, some (.int q7.1), q7.2, gp_X8_kind (n := n) (r := r)  e8, fun _ => fh_in h9 (fun c10 h11 => ⟨fn_aF hf rfl rfl, Or.inl ⟨_, hf.2 68 0 1 rfl, fh_bd h11 fun q12 e13 h14 => ⟨Nat.le_of_ble_eq_true rfl, fn_aF hf rfl rfl, ⟨hf, some (.int q12.1), q12.2, gp_X8_takeNumber (n := n) (r := r)  e13, fun _ => fh_if h14 (fun c15 h16 => ⟨rfl, Or.inl rfl, fh_rt h16 hQ⟩) (fun c15 h16 => ⟨fn_aF hf rfl rfl, Or.inl ⟨_, hf.2 68 0 1 rfl, fh_bd h16 fun q17 e18 h19 => ⟨Nat.le_of_ble_eq_true rfl, fn_aF hf rfl rfl, ⟨hf, some (.int q17.1), q17.2, gp_X8_take (n := n) (r := r)  e18, fun _ => fh_in h19 (fun c20 h21 => ⟨fn_aF hf rfl rfl, Or.inl ⟨_, hr, ⟨fn_aO0 hf ho rfl, Or.inl ⟨_, fn_rO6 hf ho, ⟨fn_aF hf rfl rfl, Or.inl ⟨_, hf.2 68 0 1 rfl, fh_bd h21 fun q22 e23 h24 => ⟨Nat.le_of_ble_eq_true rfl, fn_aF hf rfl rfl, ⟨hf, some (.int q22.1), q22.2, gp_X8_takeNumber (n := n) (r := r)  e23, fun _ => fh_gd h24 fun g26 h25 => ⟨10, fn_aO4 hf ho rfl, ix_t g26, ⟨fn_aF hf rfl rfl, Or.inl ⟨_, hr, ⟨fn_aO0 hf ho rfl, Or.inl ⟨_, fn_rO6 hf ho, fh_gd h25 fun g28 h27 => ⟨10, fn_aO4 hf ho rfl, ix_t g28, fh_if h27 (fun c29 h30 => ⟨rfl, Or.inl rfl, fh_rt h30 hQ⟩) (fun c29 h30 => ⟨rfl, Or.inr rfl, fh_rt h30 hQ⟩)⟩⟩⟩⟩⟩⟩⟩⟩⟩⟩⟩⟩⟩⟩) (fun c20 h21 => ⟨rfl, Or.inl rfl, fh_rt h21 hQ⟩)⟩⟩⟩⟩)⟩⟩⟩⟩) (fun c10 h11 => fh_bd h11 fun q31 e32 h33 => ⟨Nat.le_of_ble_eq_true rfl, trivial, ⟨trivial, some (.int q31.1), q31.2, gp_X11_isUnder (n := n) (r := r)  e32, fun _ => fh_if h33 (fun c34 h35 => ⟨fn_aF hf rfl rfl, Or.inl ⟨_, hf.2 68 0 1 rfl, fh_bd h35 fun q36 e37 h38 => ⟨Nat.le_of_ble_eq_true rfl, fn_aF hf rfl rfl, ⟨hf, some (.int q36.1), q36.2, gp_X8_takeNumber (n := n) (r := r)  e37, fun _ => fh_if h38 (fun c39 h40 => ⟨rfl, Or.inl rfl, fh_rt h40 hQ⟩) (fun c39 h40 => ⟨fn_aF hf rfl rfl, Or.inl ⟨_, hf.2 68 0 1 rfl, fh_bd h40 fun q41 e42 h43 => ⟨Nat.le_of_ble_eq_true rfl, fn_aF hf rfl rfl, ⟨hf, some (.int q41.1), q41.2, gp_X8_take (n := n) (r := r)  e42, fun _ => fh_in h43 (fun c44 h45 => ⟨fn_aF hf rfl rfl, Or.inl ⟨_, hr, ⟨fn_aO0 hf ho rfl, Or.inl ⟨_, fn_rO6 hf ho, ⟨fn_aF hf rfl rfl, Or.inl ⟨_, hf.2 68 0 1 rfl, fh_bd h45 fun q46 e47 h48 => ⟨Nat.le_of_ble_eq_true rfl, fn_aF hf rfl rfl, ⟨hf, some (.int q46.1), q46.2, gp_X8_takeNumber (n := n) (r := r)  e47, fun _ => fh_gd h48 fun g50 h49 => ⟨10, fn_aO4 hf ho rfl, ix_t g50, ⟨fn_aF hf rfl rfl, Or.inl ⟨_, hr, ⟨fn_aO0 hf ho rfl, Or.inl ⟨_, fn_rO6 hf ho, fh_gd h49 fun g52 h51 => ⟨10, fn_aO4 hf ho rfl, ix_t g52, fh_if h51 (fun c53 h54 => ⟨rfl, Or.inl rfl, fh_rt h54 hQ⟩) (fun c53 h54 => ⟨rfl, Or.inr rfl, fh_rt h54 hQ⟩)⟩⟩⟩⟩⟩⟩⟩⟩⟩⟩⟩⟩⟩⟩) (fun c44 h45 => ⟨rfl, Or.inl rfl, fh_rt h45 hQ⟩)⟩⟩⟩⟩)⟩⟩⟩⟩) (fun c34 h35 => ⟨fn_aF hf rfl rfl, Or.inl ⟨_, hr, ⟨fn_aO0 hf ho rfl, Or.inl ⟨_, fn_rO6 hf ho, fh_gd h35 fun g56 h55 => ⟨10, fn_aO4 hf ho rfl, ix_t g56, fh_if h55 (fun c57 h58 => ⟨fn_aF hf rfl rfl, Or.inl ⟨_, hf.2 68 0 1 rfl, fh_bd h58 fun q59 e60 h61 => ⟨Nat.le_of_ble_eq_true rfl, fn_aF hf rfl rfl, ⟨hf, some (.int q59.1), q59.2, gp_X8_takeNumber (n := n) (r := r)  e60, fun _ => fh_if h61 (fun c62 h63 => ⟨rfl, Or.inl rfl, fh_rt h63 hQ⟩) (fun c62 h63 => ⟨fn_aF hf rfl rfl, Or.inl ⟨_, hf.2 68 0 1 rfl, fh_bd h63 fun q64 e65 h66 => ⟨Nat.le_of_ble_eq_true rfl, fn_aF hf rfl rfl, ⟨hf, some (.int q64.1), q64.2, gp_X8_take (n := n) (r := r)  e65, fun _ => fh_in h66 (fun c67 h68 => ⟨fn_aF hf rfl rfl, Or.inl ⟨_, hr, ⟨fn_aO0 hf ho rfl, Or.inl ⟨_, fn_rO6 hf ho, ⟨fn_aF hf rfl rfl, Or.inl ⟨_, hf.2 68 0 1 rfl, fh_bd h68 fun q69 e70 h71 => ⟨Nat.le_of_ble_eq_true rfl, fn_aF hf rfl rfl, ⟨hf, some (.int q69.1), q69.2, gp_X8_takeNumber (n := n) (r := r)  e70, fun _ => fh_gd h71 fun g73 h72 => ⟨10, fn_aO4 hf ho rfl, ix_t g73, ⟨fn_aF hf rfl rfl, Or.inl ⟨_, hr, ⟨fn_aO0 hf ho rfl, Or.inl ⟨_, fn_rO6 hf ho, fh_gd h72 fun g75 h74 => ⟨10, fn_aO4 hf ho rfl, ix_t g75, fh_if h74 (fun c76 h77 => ⟨rfl, Or.inl rfl, fh_rt h77 hQ⟩) (fun c76 h77 => ⟨rfl, Or.inr rfl, fh_rt h77 hQ⟩)⟩⟩⟩⟩⟩⟩⟩⟩⟩⟩⟩⟩⟩⟩) (fun c67 h68 => ⟨rfl, Or.inl rfl, fh_rt h68 hQ⟩)⟩⟩⟩⟩)⟩⟩⟩⟩) (fun c57 h58 => ⟨fn_aF hf rfl rfl, Or.inl ⟨_, hf.2 68 0 1 rfl, fh_bd h58 fun q78 e79 h80 => ⟨Nat.le_of_ble_eq_true rfl, fn_aF hf rfl rfl, ⟨hf, some (.int q78.1), q78.2, gp_X8_fail (n := n) (r := r)  e79, fun _ => fh_gd h80 fun g82 h81 => ⟨rfl, bl_t g82, fh_rt h81 hQ⟩⟩⟩⟩⟩)⟩⟩⟩⟩⟩)⟩⟩)⟩⟩⟩⟩⟩⟩⟩⟩⟩⟩⟩⟩⟩)
noncomputable def G_X5_readCharge (n : Nat) (r : Nat → Nat → Option Nat) (as : List Value) (m : fm_) : Option (Option Value × fm_) := match as with
  | [.ref x0] => gd_ (Nat.beq x0 68) (fn_or (r 68 1) fun o => gd_ (is_O o) ((f_X5_readCharge o m).map en_i))
  | _ => none
set_option maxRecDepth 100000 in
theorem gp_X5_readCharge {n : Nat} {r : Nat → Nat → Option Nat} {o : Nat}  {m : fm_} {q : Int32 × fm_} (hr : r 68 1 = some o) (ho : is_O o = true) (e : f_X5_readCharge o m = some q) : G_X5_readCharge n r [.ref 68] m = some (en_i q) := by
  show (gd_ (Nat.beq 68 68) (fn_or (r 68 1) fun o => gd_ (is_O o) ((f_X5_readCharge o m).map en_i))) = _
  exact fn_gd rfl (fn_68 hr (fn_gd ho (fn_mp e)))
set_option maxRecDepth 100000 in
theorem ok_X5_readCharge : am_mok 5 50 m_X5_readCharge = true := by decide +kernel
set_option maxRecDepth 100000 in
theorem c_X5_readCharge (l : Launch) {g : am_G} (hg : fx_ l g) : am_Met l g 2 50 (fn_s fn_F G_X5_readCharge) := by
  refine am_sound (own := 5) (M := m_X5_readCharge) (SP := sp_X5_readCharge) hg.1 (by decide +kernel) ok_X5_readCharge (by decide +kernel) ?_ (fun q hq hk => absurd hk (am_no61 (M := m_X5_readCharge) (by decide +kernel) q hq)) (fn_ext l _ rfl g 5) (Or.inl (by decide +kernel)) ?_ ?_
  · intro q hq hk
    have hm : q.2.2.2.1 ∈ am_cs m_X5_readCharge := am_cs_in hq hk
    rw [show am_cs m_X5_readCharge = [95, 94, 93, 182, 96, 98, 97, 98] by decide +kernel] at hm
    have hm : q.2.2.2.1 ∈ [93, 94, 95, 96, 97, 98, 182] := (List.all_eq_true.mp (show ([95, 94, 93, 182, 96, 98, 97, 98] : List Nat).all (fun a => decide (a ∈ ([93, 94, 95, 96, 97, 98, 182] : List Nat))) = true by decide +kernel) _ hm |> of_decide_eq_true)
    simp only [List.mem_cons, List.not_mem_nil, or_false] at hm
    rcases hm with hm | hm | hm | hm | hm | hm | hm
    · rw [hm]; exact ⟨0, by omega, c_X8_kind l hg⟩
    · rw [hm]; exact ⟨0, by omega, c_X8_value l hg⟩
    · rw [hm]; exact ⟨0, by omega, c_X8_step l hg⟩
    · rw [hm]; exact ⟨0, by omega, c_X8_fail l hg⟩
    · rw [hm]; exact ⟨1, by omega, c_X8_take l hg⟩
    · rw [hm]; exact ⟨1, by omega, c_X8_takeNumber l hg⟩
    · rw [hm]; exact ⟨0, by omega, c_X11_isUnder l hg⟩
  · intro as w K h
    obtain ⟨hf, y, m1, hG, hK⟩ := h
    unfold G_X5_readCharge at hG
    split at hG
    · exact Nat.le_of_ble_eq_true rfl
    · cases hG
  · intro as w K h
    obtain ⟨n, i0, l0, r⟩ := w
    obtain ⟨hf, y, m1, hG, hK⟩ := h
    unfold G_X5_readCharge at hG
    split at hG
    · next x0 =>
      obtain ⟨hx1, hG1⟩ := gd_u hG
      obtain ⟨o, hr, hG8⟩ := fn_or_u hG1
      obtain ⟨ho, hG9⟩ := gd_u hG8
      obtain rfl := Nat.eq_of_beq_eq_true hx1
      obtain ⟨q, hq, he⟩ := fn_mu hG9
      obtain ⟨rfl, rfl⟩ := Prod.mk.inj he
      exact t_X5_readCharge o hf ho hr  (m := (i0, l0)) hq hK
    · cases hG

/-! == X5_readHours == -/
noncomputable def f_X5_readHours (o : Nat)  (m : fm_) : Option (Int32 × fm_) :=
  (if (gi_ m o 7) = (-1) then
(Option.bind (f_X8_step m) fun q3 =>
(Option.bind (f_X8_takeNumber 0 1440 q3.2) fun q6 =>
(if (gi_ (si_ q6.2 o 7 q6.1) o 7) = (-1) then
((some (0, (si_ q6.2 o 7 q6.1))))
else
(Option.bind (f_X8_take 104 (si_ q6.2 o 7 q6.1)) fun q11 =>
(if q11.1 = 0 then
((some (0, q11.2)))
else
(Option.bind (f_X8_takeNumber ((gi_ q11.2 o 7) + 1) 1440 q11.2) fun q16 =>
(if (gi_ (si_ q16.2 o 8 q16.1) o 8) = (-1) then
((some (0, (si_ q16.2 o 8 q16.1))))
else
((some (1, (si_ q16.2 o 8 q16.1)))))))))))
else
(Option.bind (f_X8_fail 2 m) fun q21 =>
(gd_ (bl_ q21.1)
((some (q21.1, q21.2))))))
def sp_X5_readHours : am_S := fn_sp [(96, fn_F, G_X8_fail), (95, fn_F, G_X8_step), (98, fn_F, G_X8_takeNumber), (97, fn_F, G_X8_take)]
theorem sm_X5_readHours : am_Smono (sp_X5_readHours) := fn_sp_mono _
set_option maxRecDepth 100000 in
theorem t_X5_readHours (o : Nat) {n : Nat} {r : Nat → Nat → Option Nat} (hf : fn_F n r) (ho : is_O o = true) (hr : r 68 1 = some o) {q : Int32 × fm_}  {m : fm_}
  (h : f_X5_readHours o  m = some q) {Q : Option Value → am_W → Prop} (hQ : Q (en_i q).1 (mk_ n r q.2)) : am_T m_X5_readHours sp_X5_readHours n Q 0 [some (.ref 68)] [] (mk_ n r m) :=
  am_T.wp sm_X5_readHours (K := am_T m_X5_readHours sp_X5_readHours n Q) (cuts := []) (fun _ _ _ _ h => h) 47
    (⟨fn_aF hf rfl rfl, Or.inl ⟨_, hr, ⟨fn_aO0 hf ho rfl, fh_if h (fun c1 h2 => ⟨fn_aF hf rfl rfl, Or.inl ⟨_, hf.2 68 0 1 rfl, fh_bd h2 fun q3 e4 h5 => ⟨Nat.le_of_ble_eq_true rfl, fn_aF hf rfl rfl, ⟨hf, none, q3.2, gp_X8_step (n := n) (r := r)  e4, fun _ => ⟨rfl, ⟨fn_aF hf rfl rfl, Or.inl ⟨_, hr, ⟨fn_aF hf rfl rfl, Or.inl ⟨_, hf.2 68 0 1 rfl, fh_bd h5 fun q6 e7 h8 => ⟨Nat.le_of_ble_eq_true rfl, fn_aF hf rfl rfl, ⟨hf, some (.int q6.1), q6.2, gp_X8_takeNumber (n := n) (r := r)  e7, fun _ => ⟨fn_aO0 hf ho rfl, ⟨fn_aF hf rfl rfl, Or.inl ⟨_, hr, ⟨fn_aO0 hf ho rfl, fh_if h8 (fun c9 h10 => ⟨rfl, Or.inl rfl, fh_rt h10 hQ⟩) (fun c9 h10 => ⟨fn_aF hf rfl rfl, Or.inl ⟨_, hf.2 68 0 1 rfl, fh_bd h10 fun q11 e12 h13 => ⟨Nat.le_of_ble_eq_true rfl, fn_aF hf rfl rfl, ⟨hf, some (.int q11.1), q11.2, gp_X8_take (n := n) (r := r)  e12, fun _ => fh_in h13 (fun c14 h15 => ⟨fn_aF hf rfl rfl, Or.inl ⟨_, hr, ⟨fn_aF hf rfl rfl, Or.inl ⟨_, hf.2 68 0 1 rfl, ⟨fn_aF hf rfl rfl, Or.inl ⟨_, hr, ⟨fn_aO0 hf ho rfl, fh_bd h15 fun q16 e17 h18 => ⟨Nat.le_of_ble_eq_true rfl, fn_aF hf rfl rfl, ⟨hf, some (.int q16.1), q16.2, gp_X8_takeNumber (n := n) (r := r)  e17, fun _ => ⟨fn_aO0 hf ho rfl, ⟨fn_aF hf rfl rfl, Or.inl ⟨_, hr, ⟨fn_aO0 hf ho rfl, fh_if h18 (fun c19 h20 => ⟨rfl, Or.inl rfl, fh_rt h20 hQ⟩) (fun c19 h20 => ⟨rfl, Or.inr rfl, fh_rt h20 hQ⟩)⟩⟩⟩⟩⟩⟩⟩⟩⟩⟩⟩⟩⟩) (fun c14 h15 => ⟨rfl, Or.inl rfl, fh_rt h15 hQ⟩)⟩⟩⟩⟩)⟩⟩⟩⟩⟩⟩⟩⟩⟩⟩⟩⟩⟩⟩⟩) (fun c1 h2 => ⟨fn_aF hf rfl rfl, Or.inl ⟨_, hf.2 68 0 1 rfl, fh_bd h2 fun q21 e22 h23 => ⟨Nat.le_of_ble_eq_true rfl, fn_aF hf rfl rfl, ⟨hf, some (.int q21.1), q21.2, gp_X8_fail (n := n) (r := r)  e22, fun _ => fh_gd h23 fun g25 h24 => ⟨rfl, bl_t g25, fh_rt h24 hQ⟩⟩⟩⟩⟩)⟩⟩⟩)
noncomputable def G_X5_readHours (n : Nat) (r : Nat → Nat → Option Nat) (as : List Value) (m : fm_) : Option (Option Value × fm_) := match as with
  | [.ref x0] => gd_ (Nat.beq x0 68) (fn_or (r 68 1) fun o => gd_ (is_O o) ((f_X5_readHours o m).map en_i))
  | _ => none
set_option maxRecDepth 100000 in
theorem gp_X5_readHours {n : Nat} {r : Nat → Nat → Option Nat} {o : Nat}  {m : fm_} {q : Int32 × fm_} (hr : r 68 1 = some o) (ho : is_O o = true) (e : f_X5_readHours o m = some q) : G_X5_readHours n r [.ref 68] m = some (en_i q) := by
  show (gd_ (Nat.beq 68 68) (fn_or (r 68 1) fun o => gd_ (is_O o) ((f_X5_readHours o m).map en_i))) = _
  exact fn_gd rfl (fn_68 hr (fn_gd ho (fn_mp e)))
set_option maxRecDepth 100000 in
theorem ok_X5_readHours : am_mok 5 51 m_X5_readHours = true := by decide +kernel
set_option maxRecDepth 100000 in
theorem c_X5_readHours (l : Launch) {g : am_G} (hg : fx_ l g) : am_Met l g 2 51 (fn_s fn_F G_X5_readHours) := by
  refine am_sound (own := 5) (M := m_X5_readHours) (SP := sp_X5_readHours) hg.1 (by decide +kernel) ok_X5_readHours (by decide +kernel) ?_ (fun q hq hk => absurd hk (am_no61 (M := m_X5_readHours) (by decide +kernel) q hq)) (fn_ext l _ rfl g 5) (Or.inl (by decide +kernel)) ?_ ?_
  · intro q hq hk
    have hm : q.2.2.2.1 ∈ am_cs m_X5_readHours := am_cs_in hq hk
    rw [show am_cs m_X5_readHours = [96, 95, 98, 97, 98] by decide +kernel] at hm
    have hm : q.2.2.2.1 ∈ [95, 96, 97, 98] := (List.all_eq_true.mp (show ([96, 95, 98, 97, 98] : List Nat).all (fun a => decide (a ∈ ([95, 96, 97, 98] : List Nat))) = true by decide +kernel) _ hm |> of_decide_eq_true)
    simp only [List.mem_cons, List.not_mem_nil, or_false] at hm
    rcases hm with hm | hm | hm | hm
    · rw [hm]; exact ⟨0, by omega, c_X8_step l hg⟩
    · rw [hm]; exact ⟨0, by omega, c_X8_fail l hg⟩
    · rw [hm]; exact ⟨1, by omega, c_X8_take l hg⟩
    · rw [hm]; exact ⟨1, by omega, c_X8_takeNumber l hg⟩
  · intro as w K h
    obtain ⟨hf, y, m1, hG, hK⟩ := h
    unfold G_X5_readHours at hG
    split at hG
    · exact Nat.le_of_ble_eq_true rfl
    · cases hG
  · intro as w K h
    obtain ⟨n, i0, l0, r⟩ := w
    obtain ⟨hf, y, m1, hG, hK⟩ := h
    unfold G_X5_readHours at hG
    split at hG
    · next x0 =>
      obtain ⟨hx1, hG1⟩ := gd_u hG
      obtain ⟨o, hr, hG8⟩ := fn_or_u hG1
      obtain ⟨ho, hG9⟩ := gd_u hG8
      obtain rfl := Nat.eq_of_beq_eq_true hx1
      obtain ⟨q, hq, he⟩ := fn_mu hG9
      obtain ⟨rfl, rfl⟩ := Prod.mk.inj he
      exact t_X5_readHours o hf ho hr  (m := (i0, l0)) hq hK
    · cases hG

/-! == X5_readFree == -/
noncomputable def f_X5_readFree (o : Nat)  (m : fm_) : Option (Int32 × fm_) :=
  (if (gi_ m o 10) = (-1) then
(Option.bind (f_X8_step m) fun q3 =>
((some (1, (si_ q3.2 o 10 (gi_ q3.2 o 2))))))
else
(Option.bind (f_X8_fail 2 m) fun q6 =>
(gd_ (bl_ q6.1)
((some (q6.1, q6.2))))))
def sp_X5_readFree : am_S := fn_sp [(96, fn_F, G_X8_fail), (95, fn_F, G_X8_step)]
theorem sm_X5_readFree : am_Smono (sp_X5_readFree) := fn_sp_mono _
set_option maxRecDepth 100000 in
theorem t_X5_readFree (o : Nat) {n : Nat} {r : Nat → Nat → Option Nat} (hf : fn_F n r) (ho : is_O o = true) (hr : r 68 1 = some o) {q : Int32 × fm_}  {m : fm_}
  (h : f_X5_readFree o  m = some q) {Q : Option Value → am_W → Prop} (hQ : Q (en_i q).1 (mk_ n r q.2)) : am_T m_X5_readFree sp_X5_readFree n Q 0 [some (.ref 68)] [] (mk_ n r m) :=
  am_T.wp sm_X5_readFree (K := am_T m_X5_readFree sp_X5_readFree n Q) (cuts := []) (fun _ _ _ _ h => h) 17
    (⟨fn_aF hf rfl rfl, Or.inl ⟨_, hr, ⟨fn_aO0 hf ho rfl, fh_if h (fun c1 h2 => ⟨fn_aF hf rfl rfl, Or.inl ⟨_, hf.2 68 0 1 rfl, fh_bd h2 fun q3 e4 h5 => ⟨Nat.le_of_ble_eq_true rfl, fn_aF hf rfl rfl, ⟨hf, none, q3.2, gp_X8_step (n := n) (r := r)  e4, fun _ => ⟨rfl, ⟨fn_aF hf rfl rfl, Or.inl ⟨_, hr, ⟨fn_aF hf rfl rfl, Or.inl ⟨_, hr, ⟨fn_aO0 hf ho rfl, ⟨fn_aO0 hf ho rfl, ⟨rfl, Or.inr rfl, fh_rt h5 hQ⟩⟩⟩⟩⟩⟩⟩⟩⟩⟩⟩⟩) (fun c1 h2 => ⟨fn_aF hf rfl rfl, Or.inl ⟨_, hf.2 68 0 1 rfl, fh_bd h2 fun q6 e7 h8 => ⟨Nat.le_of_ble_eq_true rfl, fn_aF hf rfl rfl, ⟨hf, some (.int q6.1), q6.2, gp_X8_fail (n := n) (r := r)  e7, fun _ => fh_gd h8 fun g10 h9 => ⟨rfl, bl_t g10, fh_rt h9 hQ⟩⟩⟩⟩⟩)⟩⟩⟩)
noncomputable def G_X5_readFree (n : Nat) (r : Nat → Nat → Option Nat) (as : List Value) (m : fm_) : Option (Option Value × fm_) := match as with
  | [.ref x0] => gd_ (Nat.beq x0 68) (fn_or (r 68 1) fun o => gd_ (is_O o) ((f_X5_readFree o m).map en_i))
  | _ => none
set_option maxRecDepth 100000 in
theorem gp_X5_readFree {n : Nat} {r : Nat → Nat → Option Nat} {o : Nat}  {m : fm_} {q : Int32 × fm_} (hr : r 68 1 = some o) (ho : is_O o = true) (e : f_X5_readFree o m = some q) : G_X5_readFree n r [.ref 68] m = some (en_i q) := by
  show (gd_ (Nat.beq 68 68) (fn_or (r 68 1) fun o => gd_ (is_O o) ((f_X5_readFree o m).map en_i))) = _
  exact fn_gd rfl (fn_68 hr (fn_gd ho (fn_mp e)))
set_option maxRecDepth 100000 in
theorem ok_X5_readFree : am_mok 5 52 m_X5_readFree = true := by decide +kernel
set_option maxRecDepth 100000 in
theorem c_X5_readFree (l : Launch) {g : am_G} (hg : fx_ l g) : am_Met l g 1 52 (fn_s fn_F G_X5_readFree) := by
  refine am_sound (own := 5) (M := m_X5_readFree) (SP := sp_X5_readFree) hg.1 (by decide +kernel) ok_X5_readFree (by decide +kernel) ?_ (fun q hq hk => absurd hk (am_no61 (M := m_X5_readFree) (by decide +kernel) q hq)) (fn_ext l _ rfl g 5) (Or.inl (by decide +kernel)) ?_ ?_
  · intro q hq hk
    have hm : q.2.2.2.1 ∈ am_cs m_X5_readFree := am_cs_in hq hk
    rw [show am_cs m_X5_readFree = [96, 95] by decide +kernel] at hm
    have hm : q.2.2.2.1 ∈ [95, 96] := (List.all_eq_true.mp (show ([96, 95] : List Nat).all (fun a => decide (a ∈ ([95, 96] : List Nat))) = true by decide +kernel) _ hm |> of_decide_eq_true)
    simp only [List.mem_cons, List.not_mem_nil, or_false] at hm
    rcases hm with hm | hm
    · rw [hm]; exact ⟨0, by omega, c_X8_step l hg⟩
    · rw [hm]; exact ⟨0, by omega, c_X8_fail l hg⟩
  · intro as w K h
    obtain ⟨hf, y, m1, hG, hK⟩ := h
    unfold G_X5_readFree at hG
    split at hG
    · exact Nat.le_of_ble_eq_true rfl
    · cases hG
  · intro as w K h
    obtain ⟨n, i0, l0, r⟩ := w
    obtain ⟨hf, y, m1, hG, hK⟩ := h
    unfold G_X5_readFree at hG
    split at hG
    · next x0 =>
      obtain ⟨hx1, hG1⟩ := gd_u hG
      obtain ⟨o, hr, hG8⟩ := fn_or_u hG1
      obtain ⟨ho, hG9⟩ := gd_u hG8
      obtain rfl := Nat.eq_of_beq_eq_true hx1
      obtain ⟨q, hq, he⟩ := fn_mu hG9
      obtain ⟨rfl, rfl⟩ := Prod.mk.inj he
      exact t_X5_readFree o hf ho hr  (m := (i0, l0)) hq hK
    · cases hG

/-! == X5_readGrace == -/
noncomputable def f_X5_readGrace (o : Nat)  (m : fm_) : Option (Int32 × fm_) :=
  (if (gi_ m o 9) = (-1) then
(Option.bind (f_X8_step m) fun q3 =>
(Option.bind (f_X8_takeNumber 0 20 q3.2) fun q6 =>
(if (gi_ (si_ q6.2 o 9 q6.1) o 9) = (-1) then
((some (0, (si_ q6.2 o 9 q6.1))))
else
((some (1, (si_ q6.2 o 9 q6.1)))))))
else
(Option.bind (f_X8_fail 2 m) fun q11 =>
(gd_ (bl_ q11.1)
((some (q11.1, q11.2))))))
def sp_X5_readGrace : am_S := fn_sp [(96, fn_F, G_X8_fail), (95, fn_F, G_X8_step), (98, fn_F, G_X8_takeNumber)]
theorem sm_X5_readGrace : am_Smono (sp_X5_readGrace) := fn_sp_mono _
set_option maxRecDepth 100000 in
theorem t_X5_readGrace (o : Nat) {n : Nat} {r : Nat → Nat → Option Nat} (hf : fn_F n r) (ho : is_O o = true) (hr : r 68 1 = some o) {q : Int32 × fm_}  {m : fm_}
  (h : f_X5_readGrace o  m = some q) {Q : Option Value → am_W → Prop} (hQ : Q (en_i q).1 (mk_ n r q.2)) : am_T m_X5_readGrace sp_X5_readGrace n Q 0 [some (.ref 68)] [] (mk_ n r m) :=
  am_T.wp sm_X5_readGrace (K := am_T m_X5_readGrace sp_X5_readGrace n Q) (cuts := []) (fun _ _ _ _ h => h) 25
    (⟨fn_aF hf rfl rfl, Or.inl ⟨_, hr, ⟨fn_aO0 hf ho rfl, fh_if h (fun c1 h2 => ⟨fn_aF hf rfl rfl, Or.inl ⟨_, hf.2 68 0 1 rfl, fh_bd h2 fun q3 e4 h5 => ⟨Nat.le_of_ble_eq_true rfl, fn_aF hf rfl rfl, ⟨hf, none, q3.2, gp_X8_step (n := n) (r := r)  e4, fun _ => ⟨rfl, ⟨fn_aF hf rfl rfl, Or.inl ⟨_, hr, ⟨fn_aF hf rfl rfl, Or.inl ⟨_, hf.2 68 0 1 rfl, fh_bd h5 fun q6 e7 h8 => ⟨Nat.le_of_ble_eq_true rfl, fn_aF hf rfl rfl, ⟨hf, some (.int q6.1), q6.2, gp_X8_takeNumber (n := n) (r := r)  e7, fun _ => ⟨fn_aO0 hf ho rfl, ⟨fn_aF hf rfl rfl, Or.inl ⟨_, hr, ⟨fn_aO0 hf ho rfl, fh_if h8 (fun c9 h10 => ⟨rfl, Or.inl rfl, fh_rt h10 hQ⟩) (fun c9 h10 => ⟨rfl, Or.inr rfl, fh_rt h10 hQ⟩)⟩⟩⟩⟩⟩⟩⟩⟩⟩⟩⟩⟩⟩⟩⟩) (fun c1 h2 => ⟨fn_aF hf rfl rfl, Or.inl ⟨_, hf.2 68 0 1 rfl, fh_bd h2 fun q11 e12 h13 => ⟨Nat.le_of_ble_eq_true rfl, fn_aF hf rfl rfl, ⟨hf, some (.int q11.1), q11.2, gp_X8_fail (n := n) (r := r)  e12, fun _ => fh_gd h13 fun g15 h14 => ⟨rfl, bl_t g15, fh_rt h14 hQ⟩⟩⟩⟩⟩)⟩⟩⟩)
noncomputable def G_X5_readGrace (n : Nat) (r : Nat → Nat → Option Nat) (as : List Value) (m : fm_) : Option (Option Value × fm_) := match as with
  | [.ref x0] => gd_ (Nat.beq x0 68) (fn_or (r 68 1) fun o => gd_ (is_O o) ((f_X5_readGrace o m).map en_i))
  | _ => none
set_option maxRecDepth 100000 in
theorem gp_X5_readGrace {n : Nat} {r : Nat → Nat → Option Nat} {o : Nat}  {m : fm_} {q : Int32 × fm_} (hr : r 68 1 = some o) (ho : is_O o = true) (e : f_X5_readGrace o m = some q) : G_X5_readGrace n r [.ref 68] m = some (en_i q) := by
  show (gd_ (Nat.beq 68 68) (fn_or (r 68 1) fun o => gd_ (is_O o) ((f_X5_readGrace o m).map en_i))) = _
  exact fn_gd rfl (fn_68 hr (fn_gd ho (fn_mp e)))
set_option maxRecDepth 100000 in
theorem ok_X5_readGrace : am_mok 5 53 m_X5_readGrace = true := by decide +kernel
set_option maxRecDepth 100000 in
theorem c_X5_readGrace (l : Launch) {g : am_G} (hg : fx_ l g) : am_Met l g 2 53 (fn_s fn_F G_X5_readGrace) := by
  refine am_sound (own := 5) (M := m_X5_readGrace) (SP := sp_X5_readGrace) hg.1 (by decide +kernel) ok_X5_readGrace (by decide +kernel) ?_ (fun q hq hk => absurd hk (am_no61 (M := m_X5_readGrace) (by decide +kernel) q hq)) (fn_ext l _ rfl g 5) (Or.inl (by decide +kernel)) ?_ ?_
  · intro q hq hk
    have hm : q.2.2.2.1 ∈ am_cs m_X5_readGrace := am_cs_in hq hk
    rw [show am_cs m_X5_readGrace = [96, 95, 98] by decide +kernel] at hm
    have hm : q.2.2.2.1 ∈ [95, 96, 98] := (List.all_eq_true.mp (show ([96, 95, 98] : List Nat).all (fun a => decide (a ∈ ([95, 96, 98] : List Nat))) = true by decide +kernel) _ hm |> of_decide_eq_true)
    simp only [List.mem_cons, List.not_mem_nil, or_false] at hm
    rcases hm with hm | hm | hm
    · rw [hm]; exact ⟨0, by omega, c_X8_step l hg⟩
    · rw [hm]; exact ⟨0, by omega, c_X8_fail l hg⟩
    · rw [hm]; exact ⟨1, by omega, c_X8_takeNumber l hg⟩
  · intro as w K h
    obtain ⟨hf, y, m1, hG, hK⟩ := h
    unfold G_X5_readGrace at hG
    split at hG
    · exact Nat.le_of_ble_eq_true rfl
    · cases hG
  · intro as w K h
    obtain ⟨n, i0, l0, r⟩ := w
    obtain ⟨hf, y, m1, hG, hK⟩ := h
    unfold G_X5_readGrace at hG
    split at hG
    · next x0 =>
      obtain ⟨hx1, hG1⟩ := gd_u hG
      obtain ⟨o, hr, hG8⟩ := fn_or_u hG1
      obtain ⟨ho, hG9⟩ := gd_u hG8
      obtain rfl := Nat.eq_of_beq_eq_true hx1
      obtain ⟨q, hq, he⟩ := fn_mu hG9
      obtain ⟨rfl, rfl⟩ := Prod.mk.inj he
      exact t_X5_readGrace o hf ho hr  (m := (i0, l0)) hq hK
    · cases hG

