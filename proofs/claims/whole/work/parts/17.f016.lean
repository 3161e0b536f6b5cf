/-! == X2_entryMinute == -/
abbrev S_X2_entryMinute : Type := (Int32 × Int32 × Nat × Int32 × Int32 × fm_)
noncomputable def st_X2_entryMinute (s : S_X2_entryMinute) : Option (S_X2_entryMinute ⊕ (Int32 × fm_)) := match s with
  | (x1, x2, x3, x4, x5, m) =>
    (Option.bind (f_X1_readingsOn x2 m) fun q1 =>
(if q1.1 ≤ x5 then
((some (Sum.inr (x4, q1.2))))
else
(Option.bind (f_X1_readingOn x2 x5 q1.2) fun q6 =>
(gd_ (ix_ q6.1 200)
(Option.bind (f_X6_isInZone q6.1 q6.2) fun q11 =>
(if q11.1 = 0 then
((some (Sum.inl ((x1, x2, x3, x4, (x5 + 1), q11.2)))))
else
(Option.bind (f_X4_isInHours x3 (gi_ q6.2 78 (Int32.toNatClampNeg q6.1)) q11.2) fun q17 =>
(if q17.1 = 0 then
((some (Sum.inl ((x1, x2, x3, x4, (x5 + 1), q17.2)))))
else
(Option.bind (f_X6_chosenOwner q6.1 q17.2) fun q23 =>
(if q23.1 = x1 then
(if x4 = (-1) then
((some (Sum.inl ((x1, x2, x3, (gi_ q6.2 78 (Int32.toNatClampNeg q6.1)), (x5 + 1), q23.2)))))
else
(if x4 ≤ (gi_ q6.2 78 (Int32.toNatClampNeg q6.1)) then
((some (Sum.inl ((x1, x2, x3, x4, (x5 + 1), q23.2)))))
else
((some (Sum.inl ((x1, x2, x3, (gi_ q6.2 78 (Int32.toNatClampNeg q6.1)), (x5 + 1), q23.2)))))))
else
((some (Sum.inl ((x1, x2, x3, x4, (x5 + 1), q23.2)))))))))))))))
noncomputable def f_X2_entryMinute_21 (x1 : Int32) (x2 : Int32) (x3 : Nat) (x4 : Int32) (x5 : Int32) (m : fm_) : Option (Int32 × fm_) := am_lp (st_X2_entryMinute) ((x1, x2, x3, x4, x5, m))
theorem e_X2_entryMinute_21 (x1 : Int32) (x2 : Int32) (x3 : Nat) (x4 : Int32) (x5 : Int32) (m : fm_) : f_X2_entryMinute_21 x1 x2 x3 x4 x5 m =
(Option.bind (f_X1_readingsOn x2 m) fun q1 =>
(if q1.1 ≤ x5 then
((some (x4, q1.2)))
else
(Option.bind (f_X1_readingOn x2 x5 q1.2) fun q6 =>
(gd_ (ix_ q6.1 200)
(Option.bind (f_X6_isInZone q6.1 q6.2) fun q11 =>
(if q11.1 = 0 then
((f_X2_entryMinute_21 x1 x2 x3 x4 (x5 + 1) q11.2))
else
(Option.bind (f_X4_isInHours x3 (gi_ q6.2 78 (Int32.toNatClampNeg q6.1)) q11.2) fun q17 =>
(if q17.1 = 0 then
((f_X2_entryMinute_21 x1 x2 x3 x4 (x5 + 1) q17.2))
else
(Option.bind (f_X6_chosenOwner q6.1 q17.2) fun q23 =>
(if q23.1 = x1 then
(if x4 = (-1) then
((f_X2_entryMinute_21 x1 x2 x3 (gi_ q6.2 78 (Int32.toNatClampNeg q6.1)) (x5 + 1) q23.2))
else
(if x4 ≤ (gi_ q6.2 78 (Int32.toNatClampNeg q6.1)) then
((f_X2_entryMinute_21 x1 x2 x3 x4 (x5 + 1) q23.2))
else
((f_X2_entryMinute_21 x1 x2 x3 (gi_ q6.2 78 (Int32.toNatClampNeg q6.1)) (x5 + 1) q23.2))))
else
((f_X2_entryMinute_21 x1 x2 x3 x4 (x5 + 1) q23.2)))))))))))) :=
  (am_lp_eq _ _).trans (fe_bd fun q1 => (fe_if (rfl) (fe_bd fun q6 => (fe_gd (fe_bd fun q11 => (fe_if (rfl) (fe_bd fun q17 => (fe_if (rfl) (fe_bd fun q23 => (fe_if (fe_if (rfl) (fe_if (rfl) (rfl))) (rfl)))))))))))
noncomputable def f_X2_entryMinute (p1 : Int32) (p2 : Int32) (m : fm_) : Option (Int32 × fm_) :=
  (Option.bind (f_X3_inForce p2 m) fun q1 => om_ q1.1
((some ((-1), q1.2)))
fun o4 => gd_ (is_O o4)
((f_X2_entryMinute_21 p1 p2 o4 (-1) 0 q1.2)))
def sp_X2_entryMinute : am_S := fn_sp [(32, fn_F, G_X3_inForce), (18, fn_F, G_X1_readingsOn), (19, fn_F, G_X1_readingOn), (69, fn_F, G_X6_isInZone), (37, fn_F, G_X4_isInHours), (64, fn_F, G_X6_chosenOwner)]
theorem sm_X2_entryMinute : am_Smono (sp_X2_entryMinute) := fn_sp_mono _
def P_X2_entryMinute (n : Nat) (r : Nat → Nat → Option Nat) (s : S_X2_entryMinute) (q : Int32 × fm_) : Prop := match s with
  | (x1, x2, x3, x4, x5, m) => ∀ (Q : Option Value → am_W → Prop) (hx3 : is_O x3 = true) (y6 : Option Value) (y7 : Option Value) (y8 : Option Value), Q (en_i q).1 (mk_ n r q.2) → am_T m_X2_entryMinute sp_X2_entryMinute n Q 21 [some (.ref 92), some (.int x1), some (.int x2), some (.ref x3), some (.int x4), some (.int x5), y6, y7, y8] [] (mk_ n r m)
set_option maxRecDepth 100000 in
theorem t_X2_entryMinute_21 {n : Nat} {r : Nat → Nat → Option Nat} (hf : fn_F n r) {K : S_X2_entryMinute → Option (Int32 × fm_)} {q : Int32 × fm_} (hK : ∀ s, K s = some q → P_X2_entryMinute n r s q) (x1 : Int32) (x2 : Int32) (x3 : Nat) (x4 : Int32) (x5 : Int32) (m : fm_)
  (h : am_k K (st_X2_entryMinute ((x1, x2, x3, x4, x5, m))) = some q) : P_X2_entryMinute n r ((x1, x2, x3, x4, x5, m)) q := fun Q hx3 y6 y7 y8 hQ =>
  am_T.wp sm_X2_entryMinute (K := am_T m_X2_entryMinute sp_X2_entryMinute n Q) (cuts := [21]) (fun _ _ _ _ h => h) 50
    (⟨fn_aF hf rfl rfl, Or.inl ⟨_, hf.2 92 1 72 rfl, fj_bd h fun q1 e2 h3 => ⟨Nat.le_of_ble_eq_true rfl, fn_aF hf rfl rfl, ⟨hf, some (.int q1.1), q1.2, gp_X1_readingsOn (n := n) (r := r)  e2, fun _ => fj_if h3 (fun c4 h5 => ⟨rfl, fj_rt h5 hQ⟩) (fun c4 h5 => ⟨fn_aF hf rfl rfl, Or.inl ⟨_, hf.2 92 1 72 rfl, fj_bd h5 fun q6 e7 h8 => ⟨Nat.le_of_ble_eq_true rfl, fn_aF hf rfl rfl, ⟨hf, some (.int q6.1), q6.2, gp_X1_readingOn (n := n) (r := r)  e7, fun _ => ⟨fn_aF hf rfl rfl, Or.inl ⟨_, hf.2 92 1 72 rfl, ⟨fn_aF hf rfl rfl, Or.inl ⟨_, hf.2 72 5 78 rfl, fj_gd h8 fun g10 h9 => ⟨200, fn_aF hf rfl rfl, ix_t g10, ⟨fn_aF hf rfl rfl, Or.inl ⟨_, hf.2 92 3 82 rfl, fj_bd h9 fun q11 e12 h13 => ⟨Nat.le_of_ble_eq_true rfl, fn_aF hf rfl rfl, ⟨hf, some (.int q11.1), q11.2, gp_X6_isInZone (n := n) (r := r)  e12, fun _ => fj_if h13 (fun c14 h15 => ⟨fun c16 => hK _ h15 _ hx3 _ _ _ hQ, fun c16 => absurd c16 (by decide)⟩) (fun c14 h15 => fj_bd h15 fun q17 e18 h19 => ⟨Nat.le_of_ble_eq_true rfl, fn_aO0 hf hx3 rfl, ⟨hf, some (.int q17.1), q17.2, gp_X4_isInHours (n := n) (r := r) hx3 e18, fun _ => fj_if h19 (fun c20 h21 => ⟨fun c22 => hK _ h21 _ hx3 _ _ _ hQ, fun c22 => absurd c22 (by decide)⟩) (fun c20 h21 => ⟨fn_aF hf rfl rfl, Or.inl ⟨_, hf.2 92 3 82 rfl, fj_bd h21 fun q23 e24 h25 => ⟨Nat.le_of_ble_eq_true rfl, fn_aF hf rfl rfl, ⟨hf, some (.int q23.1), q23.2, gp_X6_chosenOwner (n := n) (r := r)  e24, fun _ => fj_in h25 (fun c26 h27 => ⟨fun c28 => hK _ h27 _ hx3 _ _ _ hQ, fun c28 => absurd c28 (by decide)⟩) (fun c26 h27 => ⟨fun c29 => absurd c29 (by decide), fun c29 => fj_if h27 (fun c30 h31 => hK _ h31 _ hx3 _ _ _ hQ) (fun c30 h31 => fj_if h31 (fun c32 h33 => hK _ h33 _ hx3 _ _ _ hQ) (fun c32 h33 => hK _ h33 _ hx3 _ _ _ hQ))⟩)⟩⟩⟩⟩)⟩⟩)⟩⟩⟩⟩⟩⟩⟩⟩⟩⟩⟩⟩⟩)⟩⟩⟩⟩)
theorem l_X2_entryMinute {n : Nat} {r : Nat → Nat → Option Nat} (hf : fn_F n r) (s : S_X2_entryMinute) (q : Int32 × fm_) (h : am_lp (st_X2_entryMinute) s = some q) : P_X2_entryMinute n r s q :=
  am_lp_snd (P := P_X2_entryMinute n r) (fun K hK s q h => match s, h with
    | (x1, x2, x3, x4, x5, m), h => t_X2_entryMinute_21 hf (fun s => hK s q) x1 x2 x3 x4 x5 m h) s q h
set_option maxRecDepth 100000 in
theorem t_X2_entryMinute {n : Nat} {r : Nat → Nat → Option Nat} (hf : fn_F n r) {q : Int32 × fm_} (p1 : Int32) (p2 : Int32) {m : fm_}
  (h : f_X2_entryMinute p1 p2 m = some q) {Q : Option Value → am_W → Prop} (hQ : Q (en_i q).1 (mk_ n r q.2)) : am_T m_X2_entryMinute sp_X2_entryMinute n Q 0 [some (.ref 92), some (.int p1), some (.int p2), none, none, none, none, none, none] [] (mk_ n r m) :=
  am_T.wp sm_X2_entryMinute (K := am_T m_X2_entryMinute sp_X2_entryMinute n Q) (cuts := [21]) (fun _ _ _ _ h => h) 13
    (⟨fn_aF hf rfl rfl, Or.inl ⟨_, hf.2 92 0 30 rfl, fh_bd h fun q1 e2 h3 => fh_om h3 (fun e8 h7 => ⟨Nat.le_of_ble_eq_true rfl, fn_aF hf rfl rfl, hf, _, _, gp_X3_inForce (n := n) (r := r)  e2, fun _ => am_rv_n e8 (⟨rfl, fh_rt h7 hQ⟩)⟩) (fun o4 e8 h3 => fh_gd h3 fun g5 h6 => ⟨Nat.le_of_ble_eq_true rfl, fn_aF hf rfl rfl, hf, _, _, gp_X3_inForce (n := n) (r := r)  e2, fun _ => am_rv_s e8 (l_X2_entryMinute hf _ _ h6 _ g5 _ _ _ hQ)⟩)⟩⟩)
noncomputable def G_X2_entryMinute (n : Nat) (r : Nat → Nat → Option Nat) (as : List Value) (m : fm_) : Option (Option Value × fm_) := match as with
  | [.ref x0, .int p1, .int p2] => gd_ (Nat.beq x0 92) ((f_X2_entryMinute p1 p2 m).map en_i)
  | _ => none
set_option maxRecDepth 100000 in
theorem gp_X2_entryMinute {n : Nat} {r : Nat → Nat → Option Nat}  {p1 : Int32} {p2 : Int32} {m : fm_} {q : Int32 × fm_}  (e : f_X2_entryMinute p1 p2 m = some q) : G_X2_entryMinute n r [.ref 92, .int p1, .int p2] m = some (en_i q) := by
  show (gd_ (Nat.beq 92 92) ((f_X2_entryMinute p1 p2 m).map en_i)) = _
  exact fn_gd rfl (fn_mp e)
set_option maxRecDepth 100000 in
theorem ok_X2_entryMinute : am_mok 2 29 m_X2_entryMinute = true := by decide +kernel
set_option maxRecDepth 100000 in
theorem c_X2_entryMinute (l : Launch) {g : am_G} (hg : fx_ l g) : am_Met l g 3 29 (fn_s fn_F G_X2_entryMinute) := by
  refine am_sound (own := 2) (M := m_X2_entryMinute) (SP := sp_X2_entryMinute) hg.1 (by decide +kernel) ok_X2_entryMinute (by decide +kernel) ?_ (fun q hq hk => absurd hk (am_no61 (M := m_X2_entryMinute) (by decide +kernel) q hq)) (fn_ext l _ rfl g 2) (Or.inl (by decide +kernel)) ?_ ?_
  · intro q hq hk
    have hm : q.2.2.2.1 ∈ am_cs m_X2_entryMinute := am_cs_in hq hk
    rw [show am_cs m_X2_entryMinute = [32, 18, 19, 69, 37, 64] by decide +kernel] at hm
    have hm : q.2.2.2.1 ∈ [18, 19, 32, 37, 64, 69] := (List.all_eq_true.mp (show ([32, 18, 19, 69, 37, 64] : List Nat).all (fun a => decide (a ∈ ([18, 19, 32, 37, 64, 69] : List Nat))) = true by decide +kernel) _ hm |> of_decide_eq_true)
    simp only [List.mem_cons, List.not_mem_nil, or_false] at hm
    rcases hm with hm | hm | hm | hm | hm | hm
    · rw [hm]; exact ⟨1, by omega, c_X1_readingsOn l hg⟩
    · rw [hm]; exact ⟨1, by omega, c_X1_readingOn l hg⟩
    · rw [hm]; exact ⟨0, by omega, c_X3_inForce l hg⟩
    · rw [hm]; exact ⟨0, by omega, c_X4_isInHours l hg⟩
    · rw [hm]; exact ⟨1, by omega, c_X6_chosenOwner l hg⟩
    · rw [hm]; exact ⟨2, by omega, c_X6_isInZone l hg⟩
  · intro as w K h
    obtain ⟨hf, y, m1, hG, hK⟩ := h
    unfold G_X2_entryMinute at hG
    split at hG
    · exact Nat.le_of_ble_eq_true rfl
    · cases hG
  · intro as w K h
    obtain ⟨n, i0, l0, r⟩ := w
    obtain ⟨hf, y, m1, hG, hK⟩ := h
    unfold G_X2_entryMinute at hG
    split at hG
    · next x0 p1 p2 =>
      obtain ⟨hx1, hG1⟩ := gd_u hG
      obtain rfl := Nat.eq_of_beq_eq_true hx1
      obtain ⟨q, hq, he⟩ := fn_mu hG1
      obtain ⟨rfl, rfl⟩ := Prod.mk.inj he
      exact t_X2_entryMinute  hf  p1 p2 (m := (i0, l0)) hq hK
    · cases hG

/-! == X2_entriesAhead == -/
abbrev S_X2_entriesAhead : Type := (Int32 × Int32 × Int32 × Int32 × fm_)
noncomputable def st_X2_entriesAhead (s : S_X2_entriesAhead) : Option (S_X2_entriesAhead ⊕ (Int32 × fm_)) := match s with
  | (x1, x2, x3, x4, m) =>
    (if x2 ≤ x4 then
((some (Sum.inr (x3, m))))
else
(Option.bind (f_X2_entryMinute x1 x4 m) fun q3 =>
(if q3.1 = (-1) then
((some (Sum.inl ((x1, x2, x3, (x4 + 1), q3.2)))))
else
((some (Sum.inl ((x1, x2, (x3 + 1), (x4 + 1), q3.2))))))))
noncomputable def f_X2_entriesAhead_5 (x1 : Int32) (x2 : Int32) (x3 : Int32) (x4 : Int32) (m : fm_) : Option (Int32 × fm_) := am_lp (st_X2_entriesAhead) ((x1, x2, x3, x4, m))
theorem e_X2_entriesAhead_5 (x1 : Int32) (x2 : Int32) (x3 : Int32) (x4 : Int32) (m : fm_) : f_X2_entriesAhead_5 x1 x2 x3 x4 m =
(if x2 ≤ x4 then
((some (x3, m)))
else
(Option.bind (f_X2_entryMinute x1 x4 m) fun q3 =>
(if q3.1 = (-1) then
((f_X2_entriesAhead_5 x1 x2 x3 (x4 + 1) q3.2))
else
((f_X2_entriesAhead_5 x1 x2 (x3 + 1) (x4 + 1) q3.2))))) :=
  (am_lp_eq _ _).trans (fe_if (rfl) (fe_bd fun q3 => (fe_if (rfl) (rfl))))
noncomputable def f_X2_entriesAhead (p1 : Int32) (p2 : Int32) (m : fm_) : Option (Int32 × fm_) :=
  ((f_X2_entriesAhead_5 p1 p2 0 0 m))
def sp_X2_entriesAhead : am_S := fn_sp [(29, fn_F, G_X2_entryMinute)]
theorem sm_X2_entriesAhead : am_Smono (sp_X2_entriesAhead) := fn_sp_mono _
def P_X2_entriesAhead (n : Nat) (r : Nat → Nat → Option Nat) (s : S_X2_entriesAhead) (q : Int32 × fm_) : Prop := match s with
  | (x1, x2, x3, x4, m) => ∀ (Q : Option Value → am_W → Prop), Q (en_i q).1 (mk_ n r q.2) → am_T m_X2_entriesAhead sp_X2_entriesAhead n Q 5 [some (.ref 92), some (.int x1), some (.int x2), some (.int x3), some (.int x4)] [] (mk_ n r m)
set_option maxRecDepth 100000 in
theorem t_X2_entriesAhead_5 {n : Nat} {r : Nat → Nat → Option Nat} (hf : fn_F n r) {K : S_X2_entriesAhead → Option (Int32 × fm_)} {q : Int32 × fm_} (hK : ∀ s, K s = some q → P_X2_entriesAhead n r s q) (x1 : Int32) (x2 : Int32) (x3 : Int32) (x4 : Int32) (m : fm_)
  (h : am_k K (st_X2_entriesAhead ((x1, x2, x3, x4, m))) = some q) : P_X2_entriesAhead n r ((x1, x2, x3, x4, m)) q := fun Q hQ =>
  am_T.wp sm_X2_entriesAhead (K := am_T m_X2_entriesAhead sp_X2_entriesAhead n Q) (cuts := [5]) (fun _ _ _ _ h => h) 14
    (fj_if h (fun c1 h2 => ⟨rfl, fj_rt h2 hQ⟩) (fun c1 h2 => fj_bd h2 fun q3 e4 h5 => ⟨Nat.le_of_ble_eq_true rfl, fn_aF hf rfl rfl, ⟨hf, some (.int q3.1), q3.2, gp_X2_entryMinute (n := n) (r := r)  e4, fun _ => fj_if h5 (fun c6 h7 => hK _ h7 _ hQ) (fun c6 h7 => hK _ h7 _ hQ)⟩⟩))
theorem l_X2_entriesAhead {n : Nat} {r : Nat → Nat → Option Nat} (hf : fn_F n r) (s : S_X2_entriesAhead) (q : Int32 × fm_) (h : am_lp (st_X2_entriesAhead) s = some q) : P_X2_entriesAhead n r s q :=
  am_lp_snd (P := P_X2_entriesAhead n r) (fun K hK s q h => match s, h with
    | (x1, x2, x3, x4, m), h => t_X2_entriesAhead_5 hf (fun s => hK s q) x1 x2 x3 x4 m h) s q h
set_option maxRecDepth 100000 in
theorem t_X2_entriesAhead {n : Nat} {r : Nat → Nat → Option Nat} (hf : fn_F n r) {q : Int32 × fm_} (p1 : Int32) (p2 : Int32) {m : fm_}
  (h : f_X2_entriesAhead p1 p2 m = some q) {Q : Option Value → am_W → Prop} (hQ : Q (en_i q).1 (mk_ n r q.2)) : am_T m_X2_entriesAhead sp_X2_entriesAhead n Q 0 [some (.ref 92), some (.int p1), some (.int p2), none, none] [] (mk_ n r m) :=
  am_T.wp sm_X2_entriesAhead (K := am_T m_X2_entriesAhead sp_X2_entriesAhead n Q) (cuts := [5]) (fun _ _ _ _ h => h) 6
    (l_X2_entriesAhead hf _ _ h _ hQ)
noncomputable def G_X2_entriesAhead (n : Nat) (r : Nat → Nat → Option Nat) (as : List Value) (m : fm_) : Option (Option Value × fm_) := match as with
  | [.ref x0, .int p1, .int p2] => gd_ (Nat.beq x0 92) ((f_X2_entriesAhead p1 p2 m).map en_i)
  | _ => none
set_option maxRecDepth 100000 in
theorem gp_X2_entriesAhead {n : Nat} {r : Nat → Nat → Option Nat}  {p1 : Int32} {p2 : Int32} {m : fm_} {q : Int32 × fm_}  (e : f_X2_entriesAhead p1 p2 m = some q) : G_X2_entriesAhead n r [.ref 92, .int p1, .int p2] m = some (en_i q) := by
  show (gd_ (Nat.beq 92 92) ((f_X2_entriesAhead p1 p2 m).map en_i)) = _
  exact fn_gd rfl (fn_mp e)
set_option maxRecDepth 100000 in
theorem ok_X2_entriesAhead : am_mok 2 25 m_X2_entriesAhead = true := by decide +kernel
set_option maxRecDepth 100000 in
theorem c_X2_entriesAhead (l : Launch) {g : am_G} (hg : fx_ l g) : am_Met l g 4 25 (fn_s fn_F G_X2_entriesAhead) := by
  refine am_sound (own := 2) (M := m_X2_entriesAhead) (SP := sp_X2_entriesAhead) hg.1 (by decide +kernel) ok_X2_entriesAhead (by decide +kernel) ?_ (fun q hq hk => absurd hk (am_no61 (M := m_X2_entriesAhead) (by decide +kernel) q hq)) (fn_ext l _ rfl g 2) (Or.inl (by decide +kernel)) ?_ ?_
  · intro q hq hk
    have hm : q.2.2.2.1 ∈ am_cs m_X2_entriesAhead := am_cs_in hq hk
    rw [show am_cs m_X2_entriesAhead = [29] by decide +kernel] at hm
    have hm : q.2.2.2.1 ∈ [29] := (List.all_eq_true.mp (show ([29] : List Nat).all (fun a => decide (a ∈ ([29] : List Nat))) = true by decide +kernel) _ hm |> of_decide_eq_true)
    simp only [List.mem_cons, List.not_mem_nil, or_false] at hm
    rcases hm with hm
    · rw [hm]; exact ⟨3, by omega, c_X2_entryMinute l hg⟩
  · intro as w K h
    obtain ⟨hf, y, m1, hG, hK⟩ := h
    unfold G_X2_entriesAhead at hG
    split at hG
    · exact Nat.le_of_ble_eq_true rfl
    · cases hG
  · intro as w K h
    obtain ⟨n, i0, l0, r⟩ := w
    obtain ⟨hf, y, m1, hG, hK⟩ := h
    unfold G_X2_entriesAhead at hG
    split at hG
    · next x0 p1 p2 =>
      obtain ⟨hx1, hG1⟩ := gd_u hG
      obtain rfl := Nat.eq_of_beq_eq_true hx1
      obtain ⟨q, hq, he⟩ := fn_mu hG1
      obtain ⟨rfl, rfl⟩ := Prod.mk.inj he
      exact t_X2_entriesAhead  hf  p1 p2 (m := (i0, l0)) hq hK
    · cases hG

/-! == X2_chargeDue == -/
noncomputable def f_X2_chargeDue (p1 : Int32) (p2 : Int32) (p3 : Int32) (m : fm_) : Option (Int32 × fm_) :=
  (Option.bind (f_X3_inForce p2 m) fun q1 => om_ q1.1
((some (0, q1.2)))
fun o4 => gd_ (is_O o4)
(Option.bind (f_X4_classBy o4 q1.2) fun q9 =>
(gd_ (ix_ 7 8)
(Option.bind (f_X4_isFree o4 (si_ q9.2 93 (Int32.toNatClampNeg 7) q9.1)) fun q14 =>
(if q14.1 = 0 then
(gd_ (ix_ 6 8)
(if (gi_ q14.2 o4 9) ≤ (gi_ q14.2 93 (Int32.toNatClampNeg 6)) then
(Option.bind (f_X1_hasAppeal p1 p2 p3 q14.2) fun q23 =>
(if q23.1 = 0 then
(Option.bind (f_X4_chargeOf o4 q9.1 q23.2) fun q28 =>
((some (q28.1, q28.2))))
else
(Option.bind (f_X4_letsOff o4 q23.2) fun q31 =>
(if q31.1 = 0 then
(Option.bind (f_X4_chargeOf o4 q9.1 q31.2) fun q36 =>
((some (q36.1, q36.2))))
else
((some (0, q31.2)))))))
else
((some (0, q14.2)))))
else
((some (0, q14.2))))))))
def sp_X2_chargeDue : am_S := fn_sp [(32, fn_F, G_X3_inForce), (39, fn_F, G_X4_classBy), (40, fn_F, G_X4_isFree), (21, fn_F, G_X1_hasAppeal), (41, fn_F, G_X4_letsOff), (38, fn_F, G_X4_chargeOf)]
theorem sm_X2_chargeDue : am_Smono (sp_X2_chargeDue) := fn_sp_mono _
set_option maxRecDepth 100000 in
theorem t_X2_chargeDue {n : Nat} {r : Nat → Nat → Option Nat} (hf : fn_F n r) {q : Int32 × fm_} (p1 : Int32) (p2 : Int32) (p3 : Int32) {m : fm_}
  (h : f_X2_chargeDue p1 p2 p3 m = some q) {Q : Option Value → am_W → Prop} (hQ : Q (en_i q).1 (mk_ n r q.2)) : am_T m_X2_chargeDue sp_X2_chargeDue n Q 0 [some (.ref 92), some (.int p1), some (.int p2), some (.int p3), none, none] [] (mk_ n r m) :=
  am_T.wp sm_X2_chargeDue (K := am_T m_X2_chargeDue sp_X2_chargeDue n Q) (cuts := []) (fun _ _ _ _ h => h) 46
    (⟨fn_aF hf rfl rfl, Or.inl ⟨_, hf.2 92 0 30 rfl, fh_bd h fun q1 e2 h3 => fh_om h3 (fun e8 h7 => ⟨Nat.le_of_ble_eq_true rfl, fn_aF hf rfl rfl, hf, _, _, gp_X3_inForce (n := n) (r := r)  e2, fun _ => am_rv_n e8 (⟨rfl, fh_rt h7 hQ⟩)⟩) (fun o4 e8 h3 => fh_gd h3 fun g5 h6 => ⟨Nat.le_of_ble_eq_true rfl, fn_aF hf rfl rfl, hf, _, _, gp_X3_inForce (n := n) (r := r)  e2, fun _ => am_rv_s e8 (⟨fn_aF hf rfl rfl, Or.inl ⟨_, hf.2 92 4 93 rfl, fh_bd h6 fun q9 e10 h11 => ⟨Nat.le_of_ble_eq_true rfl, fn_aO0 hf g5 rfl, ⟨hf, some (.int q9.1), q9.2, gp_X4_classBy (n := n) (r := r) g5 e10, fun _ => ⟨fn_aF hf rfl rfl, Or.inl ⟨_, hf.2 92 4 93 rfl, fh_gd h11 fun g13 h12 => ⟨8, fn_aF hf rfl rfl, ix_t g13, ⟨fn_aF hf rfl rfl, Or.inl ⟨_, hf.2 92 4 93 rfl, fh_bd h12 fun q14 e15 h16 => ⟨Nat.le_of_ble_eq_true rfl, fn_aO0 hf g5 rfl, ⟨hf, some (.int q14.1), q14.2, gp_X4_isFree (n := n) (r := r) g5 e15, fun _ => fh_in h16 (fun c17 h18 => ⟨rfl, fh_rt h18 hQ⟩) (fun c17 h18 => ⟨fn_aF hf rfl rfl, Or.inl ⟨_, hf.2 92 4 93 rfl, fh_gd h18 fun g20 h19 => ⟨8, fn_aF hf rfl rfl, ix_t g20, ⟨fn_aO0 hf g5 rfl, fh_if h19 (fun c21 h22 => ⟨fn_aF hf rfl rfl, Or.inl ⟨_, hf.2 92 1 72 rfl, fh_bd h22 fun q23 e24 h25 => ⟨Nat.le_of_ble_eq_true rfl, fn_aF hf rfl rfl, ⟨hf, some (.int q23.1), q23.2, gp_X1_hasAppeal (n := n) (r := r)  e24, fun _ => fh_if h25 (fun c26 h27 => fh_bd h27 fun q28 e29 h30 => ⟨Nat.le_of_ble_eq_true rfl, fn_aO0 hf g5 rfl, ⟨hf, some (.int q28.1), q28.2, gp_X4_chargeOf (n := n) (r := r) g5 e29, fun _ => ⟨rfl, fh_rt h30 hQ⟩⟩⟩) (fun c26 h27 => ⟨fn_aF hf rfl rfl, Or.inl ⟨_, hf.2 92 4 93 rfl, fh_bd h27 fun q31 e32 h33 => ⟨Nat.le_of_ble_eq_true rfl, fn_aO0 hf g5 rfl, ⟨hf, some (.int q31.1), q31.2, gp_X4_letsOff (n := n) (r := r) g5 e32, fun _ => fh_if h33 (fun c34 h35 => fh_bd h35 fun q36 e37 h38 => ⟨Nat.le_of_ble_eq_true rfl, fn_aO0 hf g5 rfl, ⟨hf, some (.int q36.1), q36.2, gp_X4_chargeOf (n := n) (r := r) g5 e37, fun _ => ⟨rfl, fh_rt h38 hQ⟩⟩⟩) (fun c34 h35 => ⟨rfl, fh_rt h35 hQ⟩)⟩⟩⟩⟩)⟩⟩⟩⟩) (fun c21 h22 => ⟨rfl, fh_rt h22 hQ⟩)⟩⟩⟩⟩)⟩⟩⟩⟩⟩⟩⟩⟩⟩⟩⟩)⟩)⟩⟩)
noncomputable def G_X2_chargeDue (n : Nat) (r : Nat → Nat → Option Nat) (as : List Value) (m : fm_) : Option (Option Value × fm_) := match as with
  | [.ref x0, .int p1, .int p2, .int p3] => gd_ (Nat.beq x0 92) ((f_X2_chargeDue p1 p2 p3 m).map en_i)
  | _ => none
set_option maxRecDepth 100000 in
theorem gp_X2_chargeDue {n : Nat} {r : Nat → Nat → Option Nat}  {p1 : Int32} {p2 : Int32} {p3 : Int32} {m : fm_} {q : Int32 × fm_}  (e : f_X2_chargeDue p1 p2 p3 m = some q) : G_X2_chargeDue n r [.ref 92, .int p1, .int p2, .int p3] m = some (en_i q) := by
  show (gd_ (Nat.beq 92 92) ((f_X2_chargeDue p1 p2 p3 m).map en_i)) = _
  exact fn_gd rfl (fn_mp e)
set_option maxRecDepth 100000 in
theorem ok_X2_chargeDue : am_mok 2 28 m_X2_chargeDue = true := by decide +kernel
set_option maxRecDepth 100000 in
theorem c_X2_chargeDue (l : Launch) {g : am_G} (hg : fx_ l g) : am_Met l g 3 28 (fn_s fn_F G_X2_chargeDue) := by
  refine am_sound (own := 2) (M := m_X2_chargeDue) (SP := sp_X2_chargeDue) hg.1 (by decide +kernel) ok_X2_chargeDue (by decide +kernel) ?_ (fun q hq hk => absurd hk (am_no61 (M := m_X2_chargeDue) (by decide +kernel) q hq)) (fn_ext l _ rfl g 2) (Or.inl (by decide +kernel)) ?_ ?_
  · intro q hq hk
    have hm : q.2.2.2.1 ∈ am_cs m_X2_chargeDue := am_cs_in hq hk
    rw [show am_cs m_X2_chargeDue = [32, 39, 40, 21, 41, 38] by decide +kernel] at hm
    have hm : q.2.2.2.1 ∈ [21, 32, 38, 39, 40, 41] := (List.all_eq_true.mp (show ([32, 39, 40, 21, 41, 38] : List Nat).all (fun a => decide (a ∈ ([21, 32, 38, 39, 40, 41] : List Nat))) = true by decide +kernel) _ hm |> of_decide_eq_true)
    simp only [List.mem_cons, List.not_mem_nil, or_false] at hm
    rcases hm with hm | hm | hm | hm | hm | hm
    · rw [hm]; exact ⟨2, by omega, c_X1_hasAppeal l hg⟩
    · rw [hm]; exact ⟨0, by omega, c_X3_inForce l hg⟩
    · rw [hm]; exact ⟨1, by omega, c_X4_chargeOf l hg⟩
    · rw [hm]; exact ⟨2, by omega, c_X4_classBy l hg⟩
    · rw [hm]; exact ⟨2, by omega, c_X4_isFree l hg⟩
    · rw [hm]; exact ⟨2, by omega, c_X4_letsOff l hg⟩
  · intro as w K h
    obtain ⟨hf, y, m1, hG, hK⟩ := h
    unfold G_X2_chargeDue at hG
    split at hG
    · exact Nat.le_of_ble_eq_true rfl
    · cases hG
  · intro as w K h
    obtain ⟨n, i0, l0, r⟩ := w
    obtain ⟨hf, y, m1, hG, hK⟩ := h
    unfold G_X2_chargeDue at hG
    split at hG
    · next x0 p1 p2 p3 =>
      obtain ⟨hx1, hG1⟩ := gd_u hG
      obtain rfl := Nat.eq_of_beq_eq_true hx1
      obtain ⟨q, hq, he⟩ := fn_mu hG1
      obtain ⟨rfl, rfl⟩ := Prod.mk.inj he
      exact t_X2_chargeDue  hf  p1 p2 p3 (m := (i0, l0)) hq hK
    · cases hG

/-! == X2_sumOf == -/
abbrev S_X2_sumOf : Type := (Int32 × Int32 × Int32 × Int32 × Int32 × Int32 × Int32 × fm_)
noncomputable def st_X2_sumOf (s : S_X2_sumOf) : Option (S_X2_sumOf ⊕ (Int32 × fm_)) := match s with
  | (x1, x2, x3, x4, x5, x6, x7, m) =>
    (if x3 < x7 then
((some (Sum.inr (x5, m))))
else
(Option.bind (f_X2_entryMinute x1 x7 m) fun q3 =>
(if q3.1 = (-1) then
((some (Sum.inl ((x1, x2, x3, x4, x5, x6, (x7 + 1), q3.2)))))
else
(if x7 < x2 then
((some (Sum.inl ((x1, x2, x3, x4, x5, (x6 + 1), (x7 + 1), q3.2)))))
else
(Option.bind (f_X2_ask x1 x7 x4 q3.2) fun q10 =>
(gd_ (ix_ 5 8)
(gd_ (ix_ 6 8)
(Option.bind (f_X2_chargeDue x1 x7 x4 (si_ (si_ q10.2 93 (Int32.toNatClampNeg 5) q3.1) 93 (Int32.toNatClampNeg 6) x6)) fun q17 =>
((some (Sum.inl ((x1, x2, x3, x4, (x5 + q17.1), (x6 + 1), (x7 + 1), q17.2)))))))))))))
noncomputable def f_X2_sumOf_9 (x1 : Int32) (x2 : Int32) (x3 : Int32) (x4 : Int32) (x5 : Int32) (x6 : Int32) (x7 : Int32) (m : fm_) : Option (Int32 × fm_) := am_lp (st_X2_sumOf) ((x1, x2, x3, x4, x5, x6, x7, m))
theorem e_X2_sumOf_9 (x1 : Int32) (x2 : Int32) (x3 : Int32) (x4 : Int32) (x5 : Int32) (x6 : Int32) (x7 : Int32) (m : fm_) : f_X2_sumOf_9 x1 x2 x3 x4 x5 x6 x7 m =
(if x3 < x7 then
((some (x5, m)))
else
(Option.bind (f_X2_entryMinute x1 x7 m) fun q3 =>
(if q3.1 = (-1) then
((f_X2_sumOf_9 x1 x2 x3 x4 x5 x6 (x7 + 1) q3.2))
else
(if x7 < x2 then
((f_X2_sumOf_9 x1 x2 x3 x4 x5 (x6 + 1) (x7 + 1) q3.2))
else
(Option.bind (f_X2_ask x1 x7 x4 q3.2) fun q10 =>
(gd_ (ix_ 5 8)
(gd_ (ix_ 6 8)
(Option.bind (f_X2_chargeDue x1 x7 x4 (si_ (si_ q10.2 93 (Int32.toNatClampNeg 5) q3.1) 93 (Int32.toNatClampNeg 6) x6)) fun q17 =>
((f_X2_sumOf_9 x1 x2 x3 x4 (x5 + q17.1) (x6 + 1) (x7 + 1) q17.2)))))))))) :=
  (am_lp_eq _ _).trans (fe_if (rfl) (fe_bd fun q3 => (fe_if (rfl) (fe_if (rfl) (fe_bd fun q10 => (fe_gd (fe_gd (fe_bd fun q17 => (rfl)))))))))
noncomputable def f_X2_sumOf (p1 : Int32) (p2 : Int32) (p3 : Int32) (p4 : Int32) (m : fm_) : Option (Int32 × fm_) :=
  ((f_X2_sumOf_9 p1 p2 p3 p4 0 0 0 m))
def sp_X2_sumOf : am_S := fn_sp [(29, fn_F, G_X2_entryMinute), (30, fn_F, G_X2_ask), (28, fn_F, G_X2_chargeDue)]
theorem sm_X2_sumOf : am_Smono (sp_X2_sumOf) := fn_sp_mono _
def P_X2_sumOf (n : Nat) (r : Nat → Nat → Option Nat) (s : S_X2_sumOf) (q : Int32 × fm_) : Prop := match s with
  | (x1, x2, x3, x4, x5, x6, x7, m) => ∀ (Q : Option Value → am_W → Prop) (y8 : Option Value), Q (en_i q).1 (mk_ n r q.2) → am_T m_X2_sumOf sp_X2_sumOf n Q 9 [some (.ref 92), some (.int x1), some (.int x2), some (.int x3), some (.int x4), some (.int x5), some (.int x6), some (.int x7), y8] [] (mk_ n r m)
set_option maxRecDepth 100000 in
theorem t_X2_sumOf_9 {n : Nat} {r : Nat → Nat → Option Nat} (hf : fn_F n r) {K : S_X2_sumOf → Option (Int32 × fm_)} {q : Int32 × fm_} (hK : ∀ s, K s = some q → P_X2_sumOf n r s q) (x1 : Int32) (x2 : Int32) (x3 : Int32) (x4 : Int32) (x5 : Int32) (x6 : Int32) (x7 : Int32) (m : fm_)
  (h : am_k K (st_X2_sumOf ((x1, x2, x3, x4, x5, x6, x7, m))) = some q) : P_X2_sumOf n r ((x1, x2, x3, x4, x5, x6, x7, m)) q := fun Q y8 hQ =>
  am_T.wp sm_X2_sumOf (K := am_T m_X2_sumOf sp_X2_sumOf n Q) (cuts := [9]) (fun _ _ _ _ h => h) 42
    (fj_if h (fun c1 h2 => ⟨rfl, fj_rt h2 hQ⟩) (fun c1 h2 => fj_bd h2 fun q3 e4 h5 => ⟨Nat.le_of_ble_eq_true rfl, fn_aF hf rfl rfl, ⟨hf, some (.int q3.1), q3.2, gp_X2_entryMinute (n := n) (r := r)  e4, fun _ => fj_in h5 (fun c6 h7 => fj_if h7 (fun c8 h9 => hK _ h9 _ _ hQ) (fun c8 h9 => fj_bd h9 fun q10 e11 h12 => ⟨Nat.le_of_ble_eq_true rfl, fn_aF hf rfl rfl, ⟨hf, none, q10.2, gp_X2_ask (n := n) (r := r)  e11, fun _ => ⟨rfl, ⟨fn_aF hf rfl rfl, Or.inl ⟨_, hf.2 92 4 93 rfl, fj_gd h12 fun g14 h13 => ⟨8, fn_aF hf rfl rfl, ix_t g14, ⟨fn_aF hf rfl rfl, Or.inl ⟨_, hf.2 92 4 93 rfl, fj_gd h13 fun g16 h15 => ⟨8, fn_aF hf rfl rfl, ix_t g16, fj_bd h15 fun q17 e18 h19 => ⟨Nat.le_of_ble_eq_true rfl, fn_aF hf rfl rfl, ⟨hf, some (.int q17.1), q17.2, gp_X2_chargeDue (n := n) (r := r)  e18, fun _ => hK _ h19 _ _ hQ⟩⟩⟩⟩⟩⟩⟩⟩⟩⟩⟩)) (fun c6 h7 => hK _ h7 _ _ hQ)⟩⟩))
theorem l_X2_sumOf {n : Nat} {r : Nat → Nat → Option Nat} (hf : fn_F n r) (s : S_X2_sumOf) (q : Int32 × fm_) (h : am_lp (st_X2_sumOf) s = some q) : P_X2_sumOf n r s q :=
  am_lp_snd (P := P_X2_sumOf n r) (fun K hK s q h => match s, h with
    | (x1, x2, x3, x4, x5, x6, x7, m), h => t_X2_sumOf_9 hf (fun s => hK s q) x1 x2 x3 x4 x5 x6 x7 m h) s q h
set_option maxRecDepth 100000 in
theorem t_X2_sumOf {n : Nat} {r : Nat → Nat → Option Nat} (hf : fn_F n r) {q : Int32 × fm_} (p1 : Int32) (p2 : Int32) (p3 : Int32) (p4 : Int32) {m : fm_}
  (h : f_X2_sumOf p1 p2 p3 p4 m = some q) {Q : Option Value → am_W → Prop} (hQ : Q (en_i q).1 (mk_ n r q.2)) : am_T m_X2_sumOf sp_X2_sumOf n Q 0 [some (.ref 92), some (.int p1), some (.int p2), some (.int p3), some (.int p4), none, none, none, none] [] (mk_ n r m) :=
  am_T.wp sm_X2_sumOf (K := am_T m_X2_sumOf sp_X2_sumOf n Q) (cuts := [9]) (fun _ _ _ _ h => h) 8
    (l_X2_sumOf hf _ _ h _ _ hQ)
noncomputable def G_X2_sumOf (n : Nat) (r : Nat → Nat → Option Nat) (as : List Value) (m : fm_) : Option (Option Value × fm_) := match as with
  | [.ref x0, .int p1, .int p2, .int p3, .int p4] => gd_ (Nat.beq x0 92) ((f_X2_sumOf p1 p2 p3 p4 m).map en_i)
  | _ => none
set_option maxRecDepth 100000 in
theorem gp_X2_sumOf {n : Nat} {r : Nat → Nat → Option Nat}  {p1 : Int32} {p2 : Int32} {p3 : Int32} {p4 : Int32} {m : fm_} {q : Int32 × fm_}  (e : f_X2_sumOf p1 p2 p3 p4 m = some q) : G_X2_sumOf n r [.ref 92, .int p1, .int p2, .int p3, .int p4] m = some (en_i q) := by
  show (gd_ (Nat.beq 92 92) ((f_X2_sumOf p1 p2 p3 p4 m).map en_i)) = _
  exact fn_gd rfl (fn_mp e)
set_option maxRecDepth 100000 in
theorem ok_X2_sumOf : am_mok 2 27 m_X2_sumOf = true := by decide +kernel
set_option maxRecDepth 100000 in
theorem c_X2_sumOf (l : Launch) {g : am_G} (hg : fx_ l g) : am_Met l g 4 27 (fn_s fn_F G_X2_sumOf) := by
  refine am_sound (own := 2) (M := m_X2_sumOf) (SP := sp_X2_sumOf) hg.1 (by decide +kernel) ok_X2_sumOf (by decide +kernel) ?_ (fun q hq hk => absurd hk (am_no61 (M := m_X2_sumOf) (by decide +kernel) q hq)) (fn_ext l _ rfl g 2) (Or.inl (by decide +kernel)) ?_ ?_
  · intro q hq hk
    have hm : q.2.2.2.1 ∈ am_cs m_X2_sumOf := am_cs_in hq hk
    rw [show am_cs m_X2_sumOf = [29, 30, 28] by decide +kernel] at hm
    have hm : q.2.2.2.1 ∈ [28, 29, 30] := (List.all_eq_true.mp (show ([29, 30, 28] : List Nat).all (fun a => decide (a ∈ ([28, 29, 30] : List Nat))) = true by decide +kernel) _ hm |> of_decide_eq_true)
    simp only [List.mem_cons, List.not_mem_nil, or_false] at hm
    rcases hm with hm | hm | hm
    · rw [hm]; exact ⟨3, by omega, c_X2_chargeDue l hg⟩
    · rw [hm]; exact ⟨3, by omega, c_X2_entryMinute l hg⟩
    · rw [hm]; exact ⟨3, by omega, c_X2_ask l hg⟩
  · intro as w K h
    obtain ⟨hf, y, m1, hG, hK⟩ := h
    unfold G_X2_sumOf at hG
    split at hG
    · exact Nat.le_of_ble_eq_true rfl
    · cases hG
  · intro as w K h
    obtain ⟨n, i0, l0, r⟩ := w
    obtain ⟨hf, y, m1, hG, hK⟩ := h
    unfold G_X2_sumOf at hG
    split at hG
    · next x0 p1 p2 p3 p4 =>
      obtain ⟨hx1, hG1⟩ := gd_u hG
      obtain rfl := Nat.eq_of_beq_eq_true hx1
      obtain ⟨q, hq, he⟩ := fn_mu hG1
      obtain ⟨rfl, rfl⟩ := Prod.mk.inj he
      exact t_X2_sumOf  hf  p1 p2 p3 p4 (m := (i0, l0)) hq hK
    · cases hG

/-! == X2_fleetSum == -/
abbrev S_X2_fleetSum : Type := (Int32 × Int32 × Int32 × Int32 × Int32 × Int32 × fm_)
noncomputable def st_X2_fleetSum (s : S_X2_fleetSum) : Option (S_X2_fleetSum ⊕ (Int32 × fm_)) := match s with
  | (x1, x2, x3, x4, x5, x6, m) =>
    (if (gi_ m 69 2) ≤ x6 then
((some (Sum.inr (x5, m))))
else
(gd_ (ix_ x6 10)
(if (gi_ m 71 (Int32.toNatClampNeg x6)) = x1 then
(Option.bind (f_X2_sumOf x6 x2 x3 x4 m) fun q7 =>
((some (Sum.inl ((x1, x2, x3, x4, (x5 + q7.1), (x6 + 1), q7.2))))))
else
((some (Sum.inl ((x1, x2, x3, x4, x5, (x6 + 1), m))))))))
noncomputable def f_X2_fleetSum_6 (x1 : Int32) (x2 : Int32) (x3 : Int32) (x4 : Int32) (x5 : Int32) (x6 : Int32) (m : fm_) : Option (Int32 × fm_) := am_lp (st_X2_fleetSum) ((x1, x2, x3, x4, x5, x6, m))
theorem e_X2_fleetSum_6 (x1 : Int32) (x2 : Int32) (x3 : Int32) (x4 : Int32) (x5 : Int32) (x6 : Int32) (m : fm_) : f_X2_fleetSum_6 x1 x2 x3 x4 x5 x6 m =
(if (gi_ m 69 2) ≤ x6 then
((some (x5, m)))
else
(gd_ (ix_ x6 10)
(if (gi_ m 71 (Int32.toNatClampNeg x6)) = x1 then
(Option.bind (f_X2_sumOf x6 x2 x3 x4 m) fun q7 =>
((f_X2_fleetSum_6 x1 x2 x3 x4 (x5 + q7.1) (x6 + 1) q7.2)))
else
((f_X2_fleetSum_6 x1 x2 x3 x4 x5 (x6 + 1) m))))) :=
  (am_lp_eq _ _).trans (fe_if (rfl) (fe_gd (fe_if (fe_bd fun q7 => (rfl)) (rfl))))
noncomputable def f_X2_fleetSum (p1 : Int32) (p2 : Int32) (p3 : Int32) (p4 : Int32) (m : fm_) : Option (Int32 × fm_) :=
  ((f_X2_fleetSum_6 p1 p2 p3 p4 0 0 m))
def sp_X2_fleetSum : am_S := fn_sp [(27, fn_F, G_X2_sumOf)]
theorem sm_X2_fleetSum : am_Smono (sp_X2_fleetSum) := fn_sp_mono _
def P_X2_fleetSum (n : Nat) (r : Nat → Nat → Option Nat) (s : S_X2_fleetSum) (q : Int32 × fm_) : Prop := match s with
  | (x1, x2, x3, x4, x5, x6, m) => ∀ (Q : Option Value → am_W → Prop), Q (en_i q).1 (mk_ n r q.2) → am_T m_X2_fleetSum sp_X2_fleetSum n Q 6 [some (.ref 92), some (.int x1), some (.int x2), some (.int x3), some (.int x4), some (.int x5), some (.int x6)] [] (mk_ n r m)
set_option maxRecDepth 100000 in
theorem t_X2_fleetSum_6 {n : Nat} {r : Nat → Nat → Option Nat} (hf : fn_F n r) {K : S_X2_fleetSum → Option (Int32 × fm_)} {q : Int32 × fm_} (hK : ∀ s, K s = some q → P_X2_fleetSum n r s q) (x1 : Int32) (x2 : Int32) (x3 : Int32) (x4 : Int32) (x5 : Int32) (x6 : Int32) (m : fm_)
  (h : am_k K (st_X2_fleetSum ((x1, x2, x3, x4, x5, x6, m))) = some q) : P_X2_fleetSum n r ((x1, x2, x3, x4, x5, x6, m)) q := fun Q hQ =>
  am_T.wp sm_X2_fleetSum (K := am_T m_X2_fleetSum sp_X2_fleetSum n Q) (cuts := [6]) (fun _ _ _ _ h => h) 25
    (⟨fn_aF hf rfl rfl, Or.inl ⟨_, hf.2 92 2 69 rfl, ⟨fn_aF hf rfl rfl, fj_if h (fun c1 h2 => ⟨rfl, fj_rt h2 hQ⟩) (fun c1 h2 => ⟨fn_aF hf rfl rfl, Or.inl ⟨_, hf.2 92 2 69 rfl, ⟨fn_aF hf rfl rfl, Or.inl ⟨_, hf.2 69 1 71 rfl, fj_gd h2 fun g4 h3 => ⟨10, fn_aF hf rfl rfl, ix_t g4, fj_in h3 (fun c5 h6 => hK _ h6 _ hQ) (fun c5 h6 => fj_bd h6 fun q7 e8 h9 => ⟨Nat.le_of_ble_eq_true rfl, fn_aF hf rfl rfl, ⟨hf, some (.int q7.1), q7.2, gp_X2_sumOf (n := n) (r := r)  e8, fun _ => hK _ h9 _ hQ⟩⟩)⟩⟩⟩⟩⟩)⟩⟩⟩)
theorem l_X2_fleetSum {n : Nat} {r : Nat → Nat → Option Nat} (hf : fn_F n r) (s : S_X2_fleetSum) (q : Int32 × fm_) (h : am_lp (st_X2_fleetSum) s = some q) : P_X2_fleetSum n r s q :=
  am_lp_snd (P := P_X2_fleetSum n r) (fun K hK s q h => match s, h with
    | (x1, x2, x3, x4, x5, x6, m), h => t_X2_fleetSum_6 hf (fun s => hK s q) x1 x2 x3 x4 x5 x6 m h) s q h
set_option maxRecDepth 100000 in
theorem t_X2_fleetSum {n : Nat} {r : Nat → Nat → Option Nat} (hf : fn_F n r) {q : Int32 × fm_} (p1 : Int32) (p2 : Int32) (p3 : Int32) (p4 : Int32) {m : fm_}
  (h : f_X2_fleetSum p1 p2 p3 p4 m = some q) {Q : Option Value → am_W → Prop} (hQ : Q (en_i q).1 (mk_ n r q.2)) : am_T m_X2_fleetSum sp_X2_fleetSum n Q 0 [some (.ref 92), some (.int p1), some (.int p2), some (.int p3), some (.int p4), none, none] [] (mk_ n r m) :=
  am_T.wp sm_X2_fleetSum (K := am_T m_X2_fleetSum sp_X2_fleetSum n Q) (cuts := [6]) (fun _ _ _ _ h => h) 6
    (l_X2_fleetSum hf _ _ h _ hQ)
noncomputable def G_X2_fleetSum (n : Nat) (r : Nat → Nat → Option Nat) (as : List Value) (m : fm_) : Option (Option Value × fm_) := match as with
  | [.ref x0, .int p1, .int p2, .int p3, .int p4] => gd_ (Nat.beq x0 92) ((f_X2_fleetSum p1 p2 p3 p4 m).map en_i)
  | _ => none
set_option maxRecDepth 100000 in
theorem gp_X2_fleetSum {n : Nat} {r : Nat → Nat → Option Nat}  {p1 : Int32} {p2 : Int32} {p3 : Int32} {p4 : Int32} {m : fm_} {q : Int32 × fm_}  (e : f_X2_fleetSum p1 p2 p3 p4 m = some q) : G_X2_fleetSum n r [.ref 92, .int p1, .int p2, .int p3, .int p4] m = some (en_i q) := by
  show (gd_ (Nat.beq 92 92) ((f_X2_fleetSum p1 p2 p3 p4 m).map en_i)) = _
  exact fn_gd rfl (fn_mp e)
set_option maxRecDepth 100000 in
theorem ok_X2_fleetSum : am_mok 2 26 m_X2_fleetSum = true := by decide +kernel
set_option maxRecDepth 100000 in
theorem c_X2_fleetSum (l : Launch) {g : am_G} (hg : fx_ l g) : am_Met l g 5 26 (fn_s fn_F G_X2_fleetSum) := by
  refine am_sound (own := 2) (M := m_X2_fleetSum) (SP := sp_X2_fleetSum) hg.1 (by decide +kernel) ok_X2_fleetSum (by decide +kernel) ?_ (fun q hq hk => absurd hk (am_no61 (M := m_X2_fleetSum) (by decide +kernel) q hq)) (fn_ext l _ rfl g 2) (Or.inl (by decide +kernel)) ?_ ?_
  · intro q hq hk
    have hm : q.2.2.2.1 ∈ am_cs m_X2_fleetSum := am_cs_in hq hk
    rw [show am_cs m_X2_fleetSum = [27] by decide +kernel] at hm
    have hm : q.2.2.2.1 ∈ [27] := (List.all_eq_true.mp (show ([27] : List Nat).all (fun a => decide (a ∈ ([27] : List Nat))) = true by decide +kernel) _ hm |> of_decide_eq_true)
    simp only [List.mem_cons, List.not_mem_nil, or_false] at hm
    rcases hm with hm
    · rw [hm]; exact ⟨4, by omega, c_X2_sumOf l hg⟩
  · intro as w K h
    obtain ⟨hf, y, m1, hG, hK⟩ := h
    unfold G_X2_fleetSum at hG
    split at hG
    · exact Nat.le_of_ble_eq_true rfl
    · cases hG
  · intro as w K h
    obtain ⟨n, i0, l0, r⟩ := w
    obtain ⟨hf, y, m1, hG, hK⟩ := h
    unfold G_X2_fleetSum at hG
    split at hG
    · next x0 p1 p2 p3 p4 =>
      obtain ⟨hx1, hG1⟩ := gd_u hG
      obtain rfl := Nat.eq_of_beq_eq_true hx1
      obtain ⟨q, hq, he⟩ := fn_mu hG1
      obtain ⟨rfl, rfl⟩ := Prod.mk.inj he
      exact t_X2_fleetSum  hf  p1 p2 p3 p4 (m := (i0, l0)) hq hK
    · cases hG

/-! == X0_add == -/
noncomputable def f_X0_add (p1 : Int32) (p2 : Int32) (p3 : Int32) (p4 : Int32) (m : fm_) : Option (Int32 × fm_) :=
  (if 120 ≤ (gi_ m 94 2) then
((some ((-1), m)))
else
(Option.bind (f_X11_isUnder ((p1 * 100) + p2) 200 m) fun q3 =>
(if q3.1 = 0 then
((some ((-1), q3.2)))
else
(gd_ (ix_ ((p1 * 100) + p2) 200)
(if (gi_ q3.2 96 (Int32.toNatClampNeg ((p1 * 100) + p2))) = (-1) then
(gd_ (ix_ ((p1 * 100) + p2) 200)
(gd_ (ix_ ((p1 * 100) + p2) 200)
((some (((gi_ q3.2 94 2) + 1), (si_ (si_ (si_ q3.2 95 (Int32.toNatClampNeg ((p1 * 100) + p2)) p4) 96 (Int32.toNatClampNeg ((p1 * 100) + p2)) p3) 94 2 ((gi_ q3.2 94 2) + 1)))))))
else
((some ((-1), q3.2))))))))
def sp_X0_add : am_S := fn_sp [(182, fn_0, G_X11_isUnder)]
theorem sm_X0_add : am_Smono (sp_X0_add) := fn_sp_mono _
set_option maxRecDepth 100000 in
theorem t_X0_add {n : Nat} {r : Nat → Nat → Option Nat} (hf : fn_F n r) {q : Int32 × fm_} (p1 : Int32) (p2 : Int32) (p3 : Int32) (p4 : Int32) {m : fm_}
  (h : f_X0_add p1 p2 p3 p4 m = some q) {Q : Option Value → am_W → Prop} (hQ : Q (en_i q).1 (mk_ n r q.2)) : am_T m_X0_add sp_X0_add n Q 0 [some (.ref 94), some (.int p1), some (.int p2), some (.int p3), some (.int p4), none] [] (mk_ n r m) :=
  am_T.wp sm_X0_add (K := am_T m_X0_add sp_X0_add n Q) (cuts := []) (fun _ _ _ _ h => h) 40
    (⟨fn_aF hf rfl rfl, fh_if h (fun c1 h2 => ⟨rfl, fh_rt h2 hQ⟩) (fun c1 h2 => fh_bd h2 fun q3 e4 h5 => ⟨Nat.le_of_ble_eq_true rfl, trivial, ⟨trivial, some (.int q3.1), q3.2, gp_X11_isUnder (n := n) (r := r)  e4, fun _ => fh_if h5 (fun c6 h7 => ⟨rfl, fh_rt h7 hQ⟩) (fun c6 h7 => ⟨fn_aF hf rfl rfl, Or.inl ⟨_, hf.2 94 1 96 rfl, fh_gd h7 fun g9 h8 => ⟨200, fn_aF hf rfl rfl, ix_t g9, fh_if h8 (fun c10 h11 => ⟨fn_aF hf rfl rfl, Or.inl ⟨_, hf.2 94 0 95 rfl, fh_gd h11 fun g13 h12 => ⟨200, fn_aF hf rfl rfl, ix_t g13, ⟨fn_aF hf rfl rfl, Or.inl ⟨_, hf.2 94 1 96 rfl, fh_gd h12 fun g15 h14 => ⟨200, fn_aF hf rfl rfl, ix_t g15, ⟨fn_aF hf rfl rfl, ⟨fn_aF hf rfl rfl, ⟨fn_aF hf rfl rfl, ⟨rfl, fh_rt h14 hQ⟩⟩⟩⟩⟩⟩⟩⟩⟩⟩) (fun c10 h11 => ⟨rfl, fh_rt h11 hQ⟩)⟩⟩⟩)⟩⟩)⟩)
noncomputable def G_X0_add (n : Nat) (r : Nat → Nat → Option Nat) (as : List Value) (m : fm_) : Option (Option Value × fm_) := match as with
  | [.ref x0, .int p1, .int p2, .int p3, .int p4] => gd_ (Nat.beq x0 94) ((f_X0_add p1 p2 p3 p4 m).map en_i)
  | _ => none
set_option maxRecDepth 100000 in
theorem gp_X0_add {n : Nat} {r : Nat → Nat → Option Nat}  {p1 : Int32} {p2 : Int32} {p3 : Int32} {p4 : Int32} {m : fm_} {q : Int32 × fm_}  (e : f_X0_add p1 p2 p3 p4 m = some q) : G_X0_add n r [.ref 94, .int p1, .int p2, .int p3, .int p4] m = some (en_i q) := by
  show (gd_ (Nat.beq 94 94) ((f_X0_add p1 p2 p3 p4 m).map en_i)) = _
  exact fn_gd rfl (fn_mp e)
set_option maxRecDepth 100000 in
theorem ok_X0_add : am_mok 0 1 m_X0_add = true := by decide +kernel
set_option maxRecDepth 100000 in
theorem c_X0_add (l : Launch) {g : am_G} (hg : fx_ l g) : am_Met l g 1 1 (fn_s fn_F G_X0_add) := by
  refine am_sound (own := 0) (M := m_X0_add) (SP := sp_X0_add) hg.1 (by decide +kernel) ok_X0_add (by decide +kernel) ?_ (fun q hq hk => absurd hk (am_no61 (M := m_X0_add) (by decide +kernel) q hq)) (fn_ext l _ rfl g 0) (Or.inl (by decide +kernel)) ?_ ?_
  · intro q hq hk
    have hm : q.2.2.2.1 ∈ am_cs m_X0_add := am_cs_in hq hk
    rw [show am_cs m_X0_add = [182] by decide +kernel] at hm
    have hm : q.2.2.2.1 ∈ [182] := (List.all_eq_true.mp (show ([182] : List Nat).all (fun a => decide (a ∈ ([182] : List Nat))) = true by decide +kernel) _ hm |> of_decide_eq_true)
    simp only [List.mem_cons, List.not_mem_nil, or_false] at hm
    rcases hm with hm
    · rw [hm]; exact ⟨0, by omega, c_X11_isUnder l hg⟩
  · intro as w K h
    obtain ⟨hf, y, m1, hG, hK⟩ := h
    unfold G_X0_add at hG
    split at hG
    · exact Nat.le_of_ble_eq_true rfl
    · cases hG
  · intro as w K h
    obtain ⟨n, i0, l0, r⟩ := w
    obtain ⟨hf, y, m1, hG, hK⟩ := h
    unfold G_X0_add at hG
    split at hG
    · next x0 p1 p2 p3 p4 =>
      obtain ⟨hx1, hG1⟩ := gd_u hG
      obtain rfl := Nat.eq_of_beq_eq_true hx1
      obtain ⟨q, hq, he⟩ := fn_mu hG1
      obtain ⟨rfl, rfl⟩ := Prod.mk.inj he
      exact t_X0_add  hf  p1 p2 p3 p4 (m := (i0, l0)) hq hK
    · cases hG

