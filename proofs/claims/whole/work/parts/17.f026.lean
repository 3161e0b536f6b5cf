/-! == X12_map == -/
abbrev S_X12_map : Type := (fm_) ⊕ (Int32 × fm_) ⊕ (Int32 × fm_) ⊕ (Int32 × fm_)
noncomputable def st_X12_map (s : S_X12_map) : Option (S_X12_map ⊕ (Int32 × fm_)) := match s with
  | Sum.inl ((m)) =>
    (if (gi_ m 106 2) = 0 then
(if (gi_ m 106 6) = 0 then
(if (gi_ m 106 2) ≤ 0 then
((some (Sum.inl (Sum.inr (Sum.inl ((0, m)))))))
else
((some (Sum.inr ((-1), m)))))
else
(Option.bind (f_X12_readLine m) fun q9 =>
((some (Sum.inl (Sum.inl ((q9.2))))))))
else
(if (gi_ m 106 2) ≤ 0 then
((some (Sum.inl (Sum.inr (Sum.inl ((0, m)))))))
else
((some (Sum.inr ((-1), m))))))
  | Sum.inr (Sum.inl ((x1, m))) =>
    (if (gi_ m 106 16) ≤ x1 then
((some (Sum.inl (Sum.inr (Sum.inr (Sum.inl ((0, m))))))))
else
(gd_ (ix_ x1 24)
(gd_ (ix_ x1 24)
(gd_ (ix_ x1 24)
(gd_ (ix_ x1 24)
(gd_ (ix_ x1 24)
(gd_ (ix_ x1 24)
((some (Sum.inl (Sum.inr (Sum.inl (((x1 + 1), (si_ (si_ (si_ m 114 (Int32.toNatClampNeg x1) (gi_ m 108 (Int32.toNatClampNeg x1))) 115 (Int32.toNatClampNeg x1) (gi_ m 109 (Int32.toNatClampNeg x1))) 116 (Int32.toNatClampNeg x1) (gi_ m 110 (Int32.toNatClampNeg x1)))))))))))))))))
  | Sum.inr (Sum.inr (Sum.inl ((x1, m)))) =>
    (if (gi_ m 106 17) ≤ x1 then
((some (Sum.inl (Sum.inr (Sum.inr (Sum.inr ((0, (si_ (si_ (si_ (si_ m 106 29 (gi_ m 106 16)) 106 30 (gi_ m 106 17)) 106 31 (gi_ m 106 18)) 106 32 (gi_ m 106 19))))))))))
else
(gd_ (ix_ x1 8)
(gd_ (ix_ x1 8)
(gd_ (ix_ x1 8)
(gd_ (ix_ x1 8)
(gd_ (ix_ x1 8)
(gd_ (ix_ x1 8)
((some (Sum.inl (Sum.inr (Sum.inr (Sum.inl (((x1 + 1), (si_ (si_ (si_ m 117 (Int32.toNatClampNeg x1) (gi_ m 111 (Int32.toNatClampNeg x1))) 118 (Int32.toNatClampNeg x1) (gi_ m 112 (Int32.toNatClampNeg x1))) 119 (Int32.toNatClampNeg x1) (gi_ m 113 (Int32.toNatClampNeg x1))))))))))))))))))
  | Sum.inr (Sum.inr (Sum.inr ((x1, m)))) =>
    (if (gi_ m 106 58) ≤ x1 then
(Option.bind (f_X12_measure (si_ m 106 87 0)) fun q3 =>
((some (Sum.inr ((gi_ q3.2 106 20), q3.2)))))
else
(gd_ (ix_ x1 200)
(if (gi_ m 141 (Int32.toNatClampNeg x1)) = 1 then
(gd_ (ix_ x1 200)
((some (Sum.inl (Sum.inr (Sum.inr (Sum.inr (((x1 + 1), (si_ m 141 (Int32.toNatClampNeg x1) 3))))))))))
else
((some (Sum.inl (Sum.inr (Sum.inr (Sum.inr (((x1 + 1), m)))))))))))
noncomputable def f_X12_map_29  (m : fm_) : Option (Int32 × fm_) := am_lp (st_X12_map) (Sum.inl ((m)))
noncomputable def f_X12_map_61 (x1 : Int32) (m : fm_) : Option (Int32 × fm_) := am_lp (st_X12_map) (Sum.inr (Sum.inl ((x1, m))))
noncomputable def f_X12_map_113 (x1 : Int32) (m : fm_) : Option (Int32 × fm_) := am_lp (st_X12_map) (Sum.inr (Sum.inr (Sum.inl ((x1, m)))))
noncomputable def f_X12_map_197 (x1 : Int32) (m : fm_) : Option (Int32 × fm_) := am_lp (st_X12_map) (Sum.inr (Sum.inr (Sum.inr ((x1, m)))))
theorem e_X12_map_29  (m : fm_) : f_X12_map_29  m =
(if (gi_ m 106 2) = 0 then
(if (gi_ m 106 6) = 0 then
(if (gi_ m 106 2) ≤ 0 then
((f_X12_map_61 0 m))
else
((some ((-1), m))))
else
(Option.bind (f_X12_readLine m) fun q9 =>
((f_X12_map_29 q9.2))))
else
(if (gi_ m 106 2) ≤ 0 then
((f_X12_map_61 0 m))
else
((some ((-1), m))))) :=
  (am_lp_eq _ _).trans (fe_if (fe_if (fe_if (rfl) (rfl)) (fe_bd fun q9 => (rfl))) (fe_if (rfl) (rfl)))
theorem e_X12_map_61 (x1 : Int32) (m : fm_) : f_X12_map_61 x1 m =
(if (gi_ m 106 16) ≤ x1 then
((f_X12_map_113 0 m))
else
(gd_ (ix_ x1 24)
(gd_ (ix_ x1 24)
(gd_ (ix_ x1 24)
(gd_ (ix_ x1 24)
(gd_ (ix_ x1 24)
(gd_ (ix_ x1 24)
((f_X12_map_61 (x1 + 1) (si_ (si_ (si_ m 114 (Int32.toNatClampNeg x1) (gi_ m 108 (Int32.toNatClampNeg x1))) 115 (Int32.toNatClampNeg x1) (gi_ m 109 (Int32.toNatClampNeg x1))) 116 (Int32.toNatClampNeg x1) (gi_ m 110 (Int32.toNatClampNeg x1)))))))))))) :=
  (am_lp_eq _ _).trans (fe_if (rfl) (fe_gd (fe_gd (fe_gd (fe_gd (fe_gd (fe_gd (rfl))))))))
theorem e_X12_map_113 (x1 : Int32) (m : fm_) : f_X12_map_113 x1 m =
(if (gi_ m 106 17) ≤ x1 then
((f_X12_map_197 0 (si_ (si_ (si_ (si_ m 106 29 (gi_ m 106 16)) 106 30 (gi_ m 106 17)) 106 31 (gi_ m 106 18)) 106 32 (gi_ m 106 19))))
else
(gd_ (ix_ x1 8)
(gd_ (ix_ x1 8)
(gd_ (ix_ x1 8)
(gd_ (ix_ x1 8)
(gd_ (ix_ x1 8)
(gd_ (ix_ x1 8)
((f_X12_map_113 (x1 + 1) (si_ (si_ (si_ m 117 (Int32.toNatClampNeg x1) (gi_ m 111 (Int32.toNatClampNeg x1))) 118 (Int32.toNatClampNeg x1) (gi_ m 112 (Int32.toNatClampNeg x1))) 119 (Int32.toNatClampNeg x1) (gi_ m 113 (Int32.toNatClampNeg x1)))))))))))) :=
  (am_lp_eq _ _).trans (fe_if (rfl) (fe_gd (fe_gd (fe_gd (fe_gd (fe_gd (fe_gd (rfl))))))))
theorem e_X12_map_197 (x1 : Int32) (m : fm_) : f_X12_map_197 x1 m =
(if (gi_ m 106 58) ≤ x1 then
(Option.bind (f_X12_measure (si_ m 106 87 0)) fun q3 =>
((some ((gi_ q3.2 106 20), q3.2))))
else
(gd_ (ix_ x1 200)
(if (gi_ m 141 (Int32.toNatClampNeg x1)) = 1 then
(gd_ (ix_ x1 200)
((f_X12_map_197 (x1 + 1) (si_ m 141 (Int32.toNatClampNeg x1) 3))))
else
((f_X12_map_197 (x1 + 1) m))))) :=
  (am_lp_eq _ _).trans (fe_if (fe_bd fun q3 => (rfl)) (fe_gd (fe_if (fe_gd (rfl)) (rfl))))
noncomputable def f_X12_map  (m : fm_) : Option (Int32 × fm_) :=
  (Option.bind (f_X12_begin (si_ (si_ (si_ (si_ (si_ m 106 16 0) 106 17 0) 106 18 0) 106 19 0) 106 20 0)) fun q1 =>
((f_X12_map_29 q1.2)))
def sp_X12_map : am_S := fn_sp [(199, fn_F, G_X12_begin), (200, fn_F, G_X12_readLine), (202, fn_F, G_X12_measure)]
theorem sm_X12_map : am_Smono (sp_X12_map) := fn_sp_mono _
def P_X12_map (n : Nat) (r : Nat → Nat → Option Nat) (s : S_X12_map) (q : Int32 × fm_) : Prop := match s with
  | Sum.inl ((m)) => ∀ (Q : Option Value → am_W → Prop), Q (en_i q).1 (mk_ n r q.2) → am_T m_X12_map sp_X12_map n Q 29 [some (.ref 106), none] [] (mk_ n r m)
  | Sum.inr (Sum.inl ((x1, m))) => ∀ (Q : Option Value → am_W → Prop), Q (en_i q).1 (mk_ n r q.2) → am_T m_X12_map sp_X12_map n Q 61 [some (.ref 106), some (.int x1)] [] (mk_ n r m)
  | Sum.inr (Sum.inr (Sum.inl ((x1, m)))) => ∀ (Q : Option Value → am_W → Prop), Q (en_i q).1 (mk_ n r q.2) → am_T m_X12_map sp_X12_map n Q 113 [some (.ref 106), some (.int x1)] [] (mk_ n r m)
  | Sum.inr (Sum.inr (Sum.inr ((x1, m)))) => ∀ (Q : Option Value → am_W → Prop), Q (en_i q).1 (mk_ n r q.2) → am_T m_X12_map sp_X12_map n Q 197 [some (.ref 106), some (.int x1)] [] (mk_ n r m)
set_option maxRecDepth 100000 in
theorem t_X12_map_29 {n : Nat} {r : Nat → Nat → Option Nat} (hf : fn_F n r) {K : S_X12_map → Option (Int32 × fm_)} {q : Int32 × fm_} (hK : ∀ s, K s = some q → P_X12_map n r s q)  (m : fm_)
  (h : am_k K (st_X12_map (Sum.inl ((m)))) = some q) : P_X12_map n r (Sum.inl ((m))) q := fun Q hQ =>
  am_T.wp sm_X12_map (K := am_T m_X12_map sp_X12_map n Q) (cuts := [29, 61, 113, 197]) (fun _ _ _ _ h => h) 13
    (⟨fn_aF hf rfl rfl, fj_in h (fun c1 h2 => ⟨fn_aF hf rfl rfl, fj_if h2 (fun c3 h4 => hK _ h4 _ hQ) (fun c3 h4 => ⟨rfl, fj_rt h4 hQ⟩)⟩) (fun c1 h2 => ⟨fn_aF hf rfl rfl, fj_if h2 (fun c5 h6 => ⟨fn_aF hf rfl rfl, fj_if h6 (fun c7 h8 => hK _ h8 _ hQ) (fun c7 h8 => ⟨rfl, fj_rt h8 hQ⟩)⟩) (fun c5 h6 => fj_bd h6 fun q9 e10 h11 => ⟨Nat.le_of_ble_eq_true rfl, fn_aF hf rfl rfl, ⟨hf, none, q9.2, gp_X12_readLine (n := n) (r := r)  e10, fun _ => ⟨rfl, hK _ h11 _ hQ⟩⟩⟩)⟩)⟩)
set_option maxRecDepth 100000 in
theorem t_X12_map_61 {n : Nat} {r : Nat → Nat → Option Nat} (hf : fn_F n r) {K : S_X12_map → Option (Int32 × fm_)} {q : Int32 × fm_} (hK : ∀ s, K s = some q → P_X12_map n r s q) (x1 : Int32) (m : fm_)
  (h : am_k K (st_X12_map (Sum.inr (Sum.inl ((x1, m))))) = some q) : P_X12_map n r (Sum.inr (Sum.inl ((x1, m)))) q := fun Q hQ =>
  am_T.wp sm_X12_map (K := am_T m_X12_map sp_X12_map n Q) (cuts := [29, 61, 113, 197]) (fun _ _ _ _ h => h) 32
    (⟨fn_aF hf rfl rfl, fj_if h (fun c1 h2 => hK _ h2 _ hQ) (fun c1 h2 => ⟨fn_aF hf rfl rfl, Or.inl ⟨_, hf.2 106 21 114 rfl, ⟨fn_aF hf rfl rfl, Or.inl ⟨_, hf.2 106 10 108 rfl, fj_gd h2 fun g4 h3 => ⟨24, fn_aF hf rfl rfl, ix_t g4, fj_gd h3 fun g6 h5 => ⟨24, fn_aF hf rfl rfl, ix_t g6, ⟨fn_aF hf rfl rfl, Or.inl ⟨_, hf.2 106 22 115 rfl, ⟨fn_aF hf rfl rfl, Or.inl ⟨_, hf.2 106 11 109 rfl, fj_gd h5 fun g8 h7 => ⟨24, fn_aF hf rfl rfl, ix_t g8, fj_gd h7 fun g10 h9 => ⟨24, fn_aF hf rfl rfl, ix_t g10, ⟨fn_aF hf rfl rfl, Or.inl ⟨_, hf.2 106 23 116 rfl, ⟨fn_aF hf rfl rfl, Or.inl ⟨_, hf.2 106 12 110 rfl, fj_gd h9 fun g12 h11 => ⟨24, fn_aF hf rfl rfl, ix_t g12, fj_gd h11 fun g14 h13 => ⟨24, fn_aF hf rfl rfl, ix_t g14, hK _ h13 _ hQ⟩⟩⟩⟩⟩⟩⟩⟩⟩⟩⟩⟩⟩⟩⟩⟩⟩⟩)⟩)
set_option maxRecDepth 100000 in
theorem t_X12_map_113 {n : Nat} {r : Nat → Nat → Option Nat} (hf : fn_F n r) {K : S_X12_map → Option (Int32 × fm_)} {q : Int32 × fm_} (hK : ∀ s, K s = some q → P_X12_map n r s q) (x1 : Int32) (m : fm_)
  (h : am_k K (st_X12_map (Sum.inr (Sum.inr (Sum.inl ((x1, m)))))) = some q) : P_X12_map n r (Sum.inr (Sum.inr (Sum.inl ((x1, m))))) q := fun Q hQ =>
  am_T.wp sm_X12_map (K := am_T m_X12_map sp_X12_map n Q) (cuts := [29, 61, 113, 197]) (fun _ _ _ _ h => h) 32
    (⟨fn_aF hf rfl rfl, fj_if h (fun c1 h2 => ⟨fn_aF hf rfl rfl, ⟨fn_aF hf rfl rfl, ⟨fn_aF hf rfl rfl, ⟨fn_aF hf rfl rfl, ⟨fn_aF hf rfl rfl, ⟨fn_aF hf rfl rfl, ⟨fn_aF hf rfl rfl, ⟨fn_aF hf rfl rfl, hK _ h2 _ hQ⟩⟩⟩⟩⟩⟩⟩⟩) (fun c1 h2 => ⟨fn_aF hf rfl rfl, Or.inl ⟨_, hf.2 106 24 117 rfl, ⟨fn_aF hf rfl rfl, Or.inl ⟨_, hf.2 106 13 111 rfl, fj_gd h2 fun g4 h3 => ⟨8, fn_aF hf rfl rfl, ix_t g4, fj_gd h3 fun g6 h5 => ⟨8, fn_aF hf rfl rfl, ix_t g6, ⟨fn_aF hf rfl rfl, Or.inl ⟨_, hf.2 106 25 118 rfl, ⟨fn_aF hf rfl rfl, Or.inl ⟨_, hf.2 106 14 112 rfl, fj_gd h5 fun g8 h7 => ⟨8, fn_aF hf rfl rfl, ix_t g8, fj_gd h7 fun g10 h9 => ⟨8, fn_aF hf rfl rfl, ix_t g10, ⟨fn_aF hf rfl rfl, Or.inl ⟨_, hf.2 106 26 119 rfl, ⟨fn_aF hf rfl rfl, Or.inl ⟨_, hf.2 106 15 113 rfl, fj_gd h9 fun g12 h11 => ⟨8, fn_aF hf rfl rfl, ix_t g12, fj_gd h11 fun g14 h13 => ⟨8, fn_aF hf rfl rfl, ix_t g14, hK _ h13 _ hQ⟩⟩⟩⟩⟩⟩⟩⟩⟩⟩⟩⟩⟩⟩⟩⟩⟩⟩)⟩)
set_option maxRecDepth 100000 in
theorem t_X12_map_197 {n : Nat} {r : Nat → Nat → Option Nat} (hf : fn_F n r) {K : S_X12_map → Option (Int32 × fm_)} {q : Int32 × fm_} (hK : ∀ s, K s = some q → P_X12_map n r s q) (x1 : Int32) (m : fm_)
  (h : am_k K (st_X12_map (Sum.inr (Sum.inr (Sum.inr ((x1, m)))))) = some q) : P_X12_map n r (Sum.inr (Sum.inr (Sum.inr ((x1, m))))) q := fun Q hQ =>
  am_T.wp sm_X12_map (K := am_T m_X12_map sp_X12_map n Q) (cuts := [29, 61, 113, 197]) (fun _ _ _ _ h => h) 19
    (⟨fn_aF hf rfl rfl, fj_if h (fun c1 h2 => ⟨fn_aF hf rfl rfl, fj_bd h2 fun q3 e4 h5 => ⟨Nat.le_of_ble_eq_true rfl, fn_aF hf rfl rfl, ⟨hf, none, q3.2, gp_X12_measure (n := n) (r := r)  e4, fun _ => ⟨rfl, ⟨fn_aF hf rfl rfl, ⟨rfl, fj_rt h5 hQ⟩⟩⟩⟩⟩⟩) (fun c1 h2 => ⟨fn_aF hf rfl rfl, Or.inl ⟨_, hf.2 106 63 141 rfl, fj_gd h2 fun g7 h6 => ⟨200, fn_aF hf rfl rfl, ix_t g7, fj_in h6 (fun c8 h9 => hK _ h9 _ hQ) (fun c8 h9 => ⟨fn_aF hf rfl rfl, Or.inl ⟨_, hf.2 106 63 141 rfl, fj_gd h9 fun g11 h10 => ⟨200, fn_aF hf rfl rfl, ix_t g11, hK _ h10 _ hQ⟩⟩⟩)⟩⟩⟩)⟩)
theorem l_X12_map {n : Nat} {r : Nat → Nat → Option Nat} (hf : fn_F n r) (s : S_X12_map) (q : Int32 × fm_) (h : am_lp (st_X12_map) s = some q) : P_X12_map n r s q :=
  am_lp_snd (P := P_X12_map n r) (fun K hK s q h => match s, h with
    | Sum.inl ((m)), h => t_X12_map_29 hf (fun s => hK s q)  m h
    | Sum.inr (Sum.inl ((x1, m))), h => t_X12_map_61 hf (fun s => hK s q) x1 m h
    | Sum.inr (Sum.inr (Sum.inl ((x1, m)))), h => t_X12_map_113 hf (fun s => hK s q) x1 m h
    | Sum.inr (Sum.inr (Sum.inr ((x1, m)))), h => t_X12_map_197 hf (fun s => hK s q) x1 m h) s q h
set_option maxRecDepth 100000 in
theorem t_X12_map {n : Nat} {r : Nat → Nat → Option Nat} (hf : fn_F n r) {q : Int32 × fm_}  {m : fm_}
  (h : f_X12_map  m = some q) {Q : Option Value → am_W → Prop} (hQ : Q (en_i q).1 (mk_ n r q.2)) : am_T m_X12_map sp_X12_map n Q 0 [some (.ref 106), none] [] (mk_ n r m) :=
  am_T.wp sm_X12_map (K := am_T m_X12_map sp_X12_map n Q) (cuts := [29, 61, 113, 197]) (fun _ _ _ _ h => h) 19
    (⟨fn_aF hf rfl rfl, ⟨fn_aF hf rfl rfl, ⟨fn_aF hf rfl rfl, ⟨fn_aF hf rfl rfl, ⟨fn_aF hf rfl rfl, fh_bd h fun q1 e2 h3 => ⟨Nat.le_of_ble_eq_true rfl, fn_aF hf rfl rfl, ⟨hf, none, q1.2, gp_X12_begin (n := n) (r := r)  e2, fun _ => ⟨rfl, l_X12_map hf _ _ h3 _ hQ⟩⟩⟩⟩⟩⟩⟩⟩)
noncomputable def G_X12_map (n : Nat) (r : Nat → Nat → Option Nat) (as : List Value) (m : fm_) : Option (Option Value × fm_) := match as with
  | [.ref x0] => gd_ (Nat.beq x0 106) ((f_X12_map  m).map en_i)
  | _ => none
set_option maxRecDepth 100000 in
theorem gp_X12_map {n : Nat} {r : Nat → Nat → Option Nat}   {m : fm_} {q : Int32 × fm_}  (e : f_X12_map  m = some q) : G_X12_map n r [.ref 106] m = some (en_i q) := by
  show (gd_ (Nat.beq 106 106) ((f_X12_map  m).map en_i)) = _
  exact fn_gd rfl (fn_mp e)
set_option maxRecDepth 100000 in
theorem ok_X12_map : am_mok 12 201 m_X12_map = true := by decide +kernel
set_option maxRecDepth 100000 in
theorem c_X12_map (l : Launch) {g : am_G} (hg : fx_ l g) : am_Met l g 5 201 (fn_s fn_F G_X12_map) := by
  refine am_sound (own := 12) (M := m_X12_map) (SP := sp_X12_map) hg.1 (by decide +kernel) ok_X12_map (by decide +kernel) ?_ (fun q hq hk => absurd hk (am_no61 (M := m_X12_map) (by decide +kernel) q hq)) (fn_ext l _ rfl g 12) (Or.inl (by decide +kernel)) ?_ ?_
  · intro q hq hk
    have hm : q.2.2.2.1 ∈ am_cs m_X12_map := am_cs_in hq hk
    rw [show am_cs m_X12_map = [199, 200, 202] by decide +kernel] at hm
    have hm : q.2.2.2.1 ∈ [199, 200, 202] := (List.all_eq_true.mp (show ([199, 200, 202] : List Nat).all (fun a => decide (a ∈ ([199, 200, 202] : List Nat))) = true by decide +kernel) _ hm |> of_decide_eq_true)
    simp only [List.mem_cons, List.not_mem_nil, or_false] at hm
    rcases hm with hm | hm | hm
    · rw [hm]; exact ⟨3, by omega, c_X12_begin l hg⟩
    · rw [hm]; exact ⟨4, by omega, c_X12_readLine l hg⟩
    · rw [hm]; exact ⟨0, by omega, c_X12_measure l hg⟩
  · intro as w K h
    obtain ⟨hf, y, m1, hG, hK⟩ := h
    unfold G_X12_map at hG
    split at hG
    · exact Nat.le_of_ble_eq_true rfl
    · cases hG
  · intro as w K h
    obtain ⟨n, i0, l0, r⟩ := w
    obtain ⟨hf, y, m1, hG, hK⟩ := h
    unfold G_X12_map at hG
    split at hG
    · next x0 =>
      obtain ⟨hx1, hG1⟩ := gd_u hG
      obtain rfl := Nat.eq_of_beq_eq_true hx1
      obtain ⟨q, hq, he⟩ := fn_mu hG1
      obtain ⟨rfl, rfl⟩ := Prod.mk.inj he
      exact t_X12_map  hf   (m := (i0, l0)) hq hK
    · cases hG

/-! == X12_isPoint == -/
noncomputable def f_X12_isPoint (p1 : Int32) (m : fm_) : Option (Int32 × fm_) :=
  (if p1 < 0 then
((some (0, m)))
else
(if 12 ≤ p1 then
((some (0, m)))
else
((some (1, m)))))
def sp_X12_isPoint : am_S := fn_sp []
theorem sm_X12_isPoint : am_Smono (sp_X12_isPoint) := fn_sp_mono _
set_option maxRecDepth 100000 in
theorem t_X12_isPoint {n : Nat} {r : Nat → Nat → Option Nat} (hf : fn_0 n r) {q : Int32 × fm_} (p1 : Int32) {m : fm_}
  (h : f_X12_isPoint p1 m = some q) {Q : Option Value → am_W → Prop} (hQ : Q (en_i q).1 (mk_ n r q.2)) : am_T m_X12_isPoint sp_X12_isPoint n Q 0 [some (.int p1)] [] (mk_ n r m) :=
  am_T.wp sm_X12_isPoint (K := am_T m_X12_isPoint sp_X12_isPoint n Q) (cuts := []) (fun _ _ _ _ h => h) 9
    (fh_if h (fun c1 h2 => ⟨rfl, Or.inl rfl, fh_rt h2 hQ⟩) (fun c1 h2 => fh_if h2 (fun c3 h4 => ⟨rfl, Or.inl rfl, fh_rt h4 hQ⟩) (fun c3 h4 => ⟨rfl, Or.inr rfl, fh_rt h4 hQ⟩)))
noncomputable def G_X12_isPoint (n : Nat) (r : Nat → Nat → Option Nat) (as : List Value) (m : fm_) : Option (Option Value × fm_) := match as with
  | [.int p1] => (f_X12_isPoint p1 m).map en_i
  | _ => none
set_option maxRecDepth 100000 in
theorem gp_X12_isPoint {n : Nat} {r : Nat → Nat → Option Nat}  {p1 : Int32} {m : fm_} {q : Int32 × fm_}  (e : f_X12_isPoint p1 m = some q) : G_X12_isPoint n r [.int p1] m = some (en_i q) := by
  show ((f_X12_isPoint p1 m).map en_i) = _
  exact fn_mp e
set_option maxRecDepth 100000 in
theorem ok_X12_isPoint : am_mok 12 203 m_X12_isPoint = true := by decide +kernel
set_option maxRecDepth 100000 in
theorem c_X12_isPoint (l : Launch) {g : am_G} (hg : fx_ l g) : am_Met l g 0 203 (fn_s fn_0 G_X12_isPoint) := by
  refine am_sound (own := 12) (M := m_X12_isPoint) (SP := sp_X12_isPoint) hg.1 (by decide +kernel) ok_X12_isPoint (by decide +kernel) ?_ (fun q hq hk => absurd hk (am_no61 (M := m_X12_isPoint) (by decide +kernel) q hq)) (fn_ext l _ rfl g 12) (Or.inl (by decide +kernel)) ?_ ?_
  · intro q hq hk
    have hm : q.2.2.2.1 ∈ am_cs m_X12_isPoint := am_cs_in hq hk
    rw [show am_cs m_X12_isPoint = [] by decide +kernel] at hm
    cases hm
  · intro as w K h
    obtain ⟨hf, y, m1, hG, hK⟩ := h
    unfold G_X12_isPoint at hG
    split at hG
    · exact Nat.le_of_ble_eq_true rfl
    · cases hG
  · intro as w K h
    obtain ⟨n, i0, l0, r⟩ := w
    obtain ⟨hf, y, m1, hG, hK⟩ := h
    unfold G_X12_isPoint at hG
    split at hG
    · next p1 =>
      obtain ⟨q, hq, he⟩ := fn_mu hG
      obtain ⟨rfl, rfl⟩ := Prod.mk.inj he
      exact t_X12_isPoint  hf  p1 (m := (i0, l0)) hq hK
    · cases hG

/-! == X12_isInZone == -/
noncomputable def f_X12_isInZone (p1 : Int32) (m : fm_) : Option (Int32 × fm_) :=
  (if (((gi_ m 106 31) >>> (p1 &&& 31)) &&& 1) = 1 then
((some (1, m)))
else
((some (0, m))))
def sp_X12_isInZone : am_S := fn_sp []
theorem sm_X12_isInZone : am_Smono (sp_X12_isInZone) := fn_sp_mono _
set_option maxRecDepth 100000 in
theorem t_X12_isInZone {n : Nat} {r : Nat → Nat → Option Nat} (hf : fn_F n r) {q : Int32 × fm_} (p1 : Int32) {m : fm_}
  (h : f_X12_isInZone p1 m = some q) {Q : Option Value → am_W → Prop} (hQ : Q (en_i q).1 (mk_ n r q.2)) : am_T m_X12_isInZone sp_X12_isInZone n Q 0 [some (.ref 106), some (.int p1)] [] (mk_ n r m) :=
  am_T.wp sm_X12_isInZone (K := am_T m_X12_isInZone sp_X12_isInZone n Q) (cuts := []) (fun _ _ _ _ h => h) 12
    (⟨fn_aF hf rfl rfl, fh_in h (fun c1 h2 => ⟨rfl, Or.inl rfl, fh_rt h2 hQ⟩) (fun c1 h2 => ⟨rfl, Or.inr rfl, fh_rt h2 hQ⟩)⟩)
noncomputable def G_X12_isInZone (n : Nat) (r : Nat → Nat → Option Nat) (as : List Value) (m : fm_) : Option (Option Value × fm_) := match as with
  | [.ref x0, .int p1] => gd_ (Nat.beq x0 106) ((f_X12_isInZone p1 m).map en_i)
  | _ => none
set_option maxRecDepth 100000 in
theorem gp_X12_isInZone {n : Nat} {r : Nat → Nat → Option Nat}  {p1 : Int32} {m : fm_} {q : Int32 × fm_}  (e : f_X12_isInZone p1 m = some q) : G_X12_isInZone n r [.ref 106, .int p1] m = some (en_i q) := by
  show (gd_ (Nat.beq 106 106) ((f_X12_isInZone p1 m).map en_i)) = _
  exact fn_gd rfl (fn_mp e)
set_option maxRecDepth 100000 in
theorem ok_X12_isInZone : am_mok 12 204 m_X12_isInZone = true := by decide +kernel
set_option maxRecDepth 100000 in
theorem c_X12_isInZone (l : Launch) {g : am_G} (hg : fx_ l g) : am_Met l g 0 204 (fn_s fn_F G_X12_isInZone) := by
  refine am_sound (own := 12) (M := m_X12_isInZone) (SP := sp_X12_isInZone) hg.1 (by decide +kernel) ok_X12_isInZone (by decide +kernel) ?_ (fun q hq hk => absurd hk (am_no61 (M := m_X12_isInZone) (by decide +kernel) q hq)) (fn_ext l _ rfl g 12) (Or.inl (by decide +kernel)) ?_ ?_
  · intro q hq hk
    have hm : q.2.2.2.1 ∈ am_cs m_X12_isInZone := am_cs_in hq hk
    rw [show am_cs m_X12_isInZone = [] by decide +kernel] at hm
    cases hm
  · intro as w K h
    obtain ⟨hf, y, m1, hG, hK⟩ := h
    unfold G_X12_isInZone at hG
    split at hG
    · exact Nat.le_of_ble_eq_true rfl
    · cases hG
  · intro as w K h
    obtain ⟨n, i0, l0, r⟩ := w
    obtain ⟨hf, y, m1, hG, hK⟩ := h
    unfold G_X12_isInZone at hG
    split at hG
    · next x0 p1 =>
      obtain ⟨hx1, hG1⟩ := gd_u hG
      obtain rfl := Nat.eq_of_beq_eq_true hx1
      obtain ⟨q, hq, he⟩ := fn_mu hG1
      obtain ⟨rfl, rfl⟩ := Prod.mk.inj he
      exact t_X12_isInZone  hf  p1 (m := (i0, l0)) hq hK
    · cases hG

/-! == X12_between == -/
noncomputable def f_X12_between (p1 : Int32) (p2 : Int32) (m : fm_) : Option (Int32 × fm_) :=
  (Option.bind (f_X12_isPoint p1 m) fun q1 =>
(if q1.1 = 0 then
((some ((-1), q1.2)))
else
(Option.bind (f_X12_isPoint p2 q1.2) fun q6 =>
(if q6.1 = 0 then
((some ((-1), q6.2)))
else
(gd_ (ix_ ((12 * p1) + p2) 144)
(if 1000000 ≤ (gi_ q6.2 120 (Int32.toNatClampNeg ((12 * p1) + p2))) then
((some ((-1), q6.2)))
else
(gd_ (ix_ ((12 * p1) + p2) 144)
((some ((gi_ q6.2 120 (Int32.toNatClampNeg ((12 * p1) + p2))), q6.2))))))))))
def sp_X12_between : am_S := fn_sp [(203, fn_0, G_X12_isPoint)]
theorem sm_X12_between : am_Smono (sp_X12_between) := fn_sp_mono _
set_option maxRecDepth 100000 in
theorem t_X12_between {n : Nat} {r : Nat → Nat → Option Nat} (hf : fn_F n r) {q : Int32 × fm_} (p1 : Int32) (p2 : Int32) {m : fm_}
  (h : f_X12_between p1 p2 m = some q) {Q : Option Value → am_W → Prop} (hQ : Q (en_i q).1 (mk_ n r q.2)) : am_T m_X12_between sp_X12_between n Q 0 [some (.ref 106), some (.int p1), some (.int p2)] [] (mk_ n r m) :=
  am_T.wp sm_X12_between (K := am_T m_X12_between sp_X12_between n Q) (cuts := []) (fun _ _ _ _ h => h) 27
    (fh_bd h fun q1 e2 h3 => ⟨Nat.le_of_ble_eq_true rfl, trivial, ⟨trivial, some (.int q1.1), q1.2, gp_X12_isPoint (n := n) (r := r)  e2, fun _ => fh_if h3 (fun c4 h5 => ⟨rfl, fh_rt h5 hQ⟩) (fun c4 h5 => fh_bd h5 fun q6 e7 h8 => ⟨Nat.le_of_ble_eq_true rfl, trivial, ⟨trivial, some (.int q6.1), q6.2, gp_X12_isPoint (n := n) (r := r)  e7, fun _ => fh_if h8 (fun c9 h10 => ⟨rfl, fh_rt h10 hQ⟩) (fun c9 h10 => ⟨fn_aF hf rfl rfl, Or.inl ⟨_, hf.2 106 27 120 rfl, fh_gd h10 fun g12 h11 => ⟨144, fn_aF hf rfl rfl, ix_t g12, fh_if h11 (fun c13 h14 => ⟨rfl, fh_rt h14 hQ⟩) (fun c13 h14 => ⟨fn_aF hf rfl rfl, Or.inl ⟨_, hf.2 106 27 120 rfl, fh_gd h14 fun g16 h15 => ⟨144, fn_aF hf rfl rfl, ix_t g16, ⟨rfl, fh_rt h15 hQ⟩⟩⟩⟩)⟩⟩⟩)⟩⟩)⟩⟩)
noncomputable def G_X12_between (n : Nat) (r : Nat → Nat → Option Nat) (as : List Value) (m : fm_) : Option (Option Value × fm_) := match as with
  | [.ref x0, .int p1, .int p2] => gd_ (Nat.beq x0 106) ((f_X12_between p1 p2 m).map en_i)
  | _ => none
set_option maxRecDepth 100000 in
theorem gp_X12_between {n : Nat} {r : Nat → Nat → Option Nat}  {p1 : Int32} {p2 : Int32} {m : fm_} {q : Int32 × fm_}  (e : f_X12_between p1 p2 m = some q) : G_X12_between n r [.ref 106, .int p1, .int p2] m = some (en_i q) := by
  show (gd_ (Nat.beq 106 106) ((f_X12_between p1 p2 m).map en_i)) = _
  exact fn_gd rfl (fn_mp e)
set_option maxRecDepth 100000 in
theorem ok_X12_between : am_mok 12 205 m_X12_between = true := by decide +kernel
set_option maxRecDepth 100000 in
theorem c_X12_between (l : Launch) {g : am_G} (hg : fx_ l g) : am_Met l g 1 205 (fn_s fn_F G_X12_between) := by
  refine am_sound (own := 12) (M := m_X12_between) (SP := sp_X12_between) hg.1 (by decide +kernel) ok_X12_between (by decide +kernel) ?_ (fun q hq hk => absurd hk (am_no61 (M := m_X12_between) (by decide +kernel) q hq)) (fn_ext l _ rfl g 12) (Or.inl (by decide +kernel)) ?_ ?_
  · intro q hq hk
    have hm : q.2.2.2.1 ∈ am_cs m_X12_between := am_cs_in hq hk
    rw [show am_cs m_X12_between = [203, 203] by decide +kernel] at hm
    have hm : q.2.2.2.1 ∈ [203] := (List.all_eq_true.mp (show ([203, 203] : List Nat).all (fun a => decide (a ∈ ([203] : List Nat))) = true by decide +kernel) _ hm |> of_decide_eq_true)
    simp only [List.mem_cons, List.not_mem_nil, or_false] at hm
    rcases hm with hm
    · rw [hm]; exact ⟨0, by omega, c_X12_isPoint l hg⟩
  · intro as w K h
    obtain ⟨hf, y, m1, hG, hK⟩ := h
    unfold G_X12_between at hG
    split at hG
    · exact Nat.le_of_ble_eq_true rfl
    · cases hG
  · intro as w K h
    obtain ⟨n, i0, l0, r⟩ := w
    obtain ⟨hf, y, m1, hG, hK⟩ := h
    unfold G_X12_between at hG
    split at hG
    · next x0 p1 p2 =>
      obtain ⟨hx1, hG1⟩ := gd_u hG
      obtain rfl := Nat.eq_of_beq_eq_true hx1
      obtain ⟨q, hq, he⟩ := fn_mu hG1
      obtain ⟨rfl, rfl⟩ := Prod.mk.inj he
      exact t_X12_between  hf  p1 p2 (m := (i0, l0)) hq hK
    · cases hG

/-! == X12_step == -/
noncomputable def f_X12_step (p1 : Int32) (p2 : Int32) (m : fm_) : Option (Int32 × fm_) :=
  (gd_ (ix_ ((700 * (gi_ m 106 33)) + (gi_ m 106 49)) 4900)
(gd_ (ix_ ((700 * (gi_ m 106 33)) + (gi_ m 106 49)) 4900)
((some (0, (si_ (si_ (si_ m 122 (Int32.toNatClampNeg ((700 * (gi_ m 106 33)) + (gi_ m 106 49))) p1) 123 (Int32.toNatClampNeg ((700 * (gi_ m 106 33)) + (gi_ m 106 49))) p2) 106 49 ((gi_ m 106 49) + 1)))))))
def sp_X12_step : am_S := fn_sp []
theorem sm_X12_step : am_Smono (sp_X12_step) := fn_sp_mono _
set_option maxRecDepth 100000 in
theorem t_X12_step {n : Nat} {r : Nat → Nat → Option Nat} (hf : fn_F n r) {q : Int32 × fm_} (p1 : Int32) (p2 : Int32) {m : fm_}
  (h : f_X12_step p1 p2 m = some q) {Q : Option Value → am_W → Prop} (hQ : Q (en_v q).1 (mk_ n r q.2)) : am_T m_X12_step sp_X12_step n Q 0 [some (.ref 106), some (.int p1), some (.int p2)] [] (mk_ n r m) :=
  am_T.wp sm_X12_step (K := am_T m_X12_step sp_X12_step n Q) (cuts := []) (fun _ _ _ _ h => h) 30
    (⟨fn_aF hf rfl rfl, Or.inl ⟨_, hf.2 106 34 122 rfl, ⟨fn_aF hf rfl rfl, ⟨fn_aF hf rfl rfl, fh_gd h fun g2 h1 => ⟨4900, fn_aF hf rfl rfl, ix_t g2, ⟨fn_aF hf rfl rfl, Or.inl ⟨_, hf.2 106 35 123 rfl, ⟨fn_aF hf rfl rfl, ⟨fn_aF hf rfl rfl, fh_gd h1 fun g4 h3 => ⟨4900, fn_aF hf rfl rfl, ix_t g4, ⟨fn_aF hf rfl rfl, ⟨fn_aF hf rfl rfl, ⟨rfl, fh_rt h3 hQ⟩⟩⟩⟩⟩⟩⟩⟩⟩⟩⟩⟩⟩)
noncomputable def G_X12_step (n : Nat) (r : Nat → Nat → Option Nat) (as : List Value) (m : fm_) : Option (Option Value × fm_) := match as with
  | [.ref x0, .int p1, .int p2] => gd_ (Nat.beq x0 106) ((f_X12_step p1 p2 m).map en_v)
  | _ => none
set_option maxRecDepth 100000 in
theorem gp_X12_step {n : Nat} {r : Nat → Nat → Option Nat}  {p1 : Int32} {p2 : Int32} {m : fm_} {q : Int32 × fm_}  (e : f_X12_step p1 p2 m = some q) : G_X12_step n r [.ref 106, .int p1, .int p2] m = some (en_v q) := by
  show (gd_ (Nat.beq 106 106) ((f_X12_step p1 p2 m).map en_v)) = _
  exact fn_gd rfl (fn_mp e)
set_option maxRecDepth 100000 in
theorem ok_X12_step : am_mok 12 206 m_X12_step = true := by decide +kernel
set_option maxRecDepth 100000 in
theorem c_X12_step (l : Launch) {g : am_G} (hg : fx_ l g) : am_Met l g 0 206 (fn_s fn_F G_X12_step) := by
  refine am_sound (own := 12) (M := m_X12_step) (SP := sp_X12_step) hg.1 (by decide +kernel) ok_X12_step (by decide +kernel) ?_ (fun q hq hk => absurd hk (am_no61 (M := m_X12_step) (by decide +kernel) q hq)) (fn_ext l _ rfl g 12) (Or.inl (by decide +kernel)) ?_ ?_
  · intro q hq hk
    have hm : q.2.2.2.1 ∈ am_cs m_X12_step := am_cs_in hq hk
    rw [show am_cs m_X12_step = [] by decide +kernel] at hm
    cases hm
  · intro as w K h
    obtain ⟨hf, y, m1, hG, hK⟩ := h
    unfold G_X12_step at hG
    split at hG
    · exact Nat.le_of_ble_eq_true rfl
    · cases hG
  · intro as w K h
    obtain ⟨n, i0, l0, r⟩ := w
    obtain ⟨hf, y, m1, hG, hK⟩ := h
    unfold G_X12_step at hG
    split at hG
    · next x0 p1 p2 =>
      obtain ⟨hx1, hG1⟩ := gd_u hG
      obtain rfl := Nat.eq_of_beq_eq_true hx1
      obtain ⟨q, hq, he⟩ := fn_mu hG1
      obtain ⟨rfl, rfl⟩ := Prod.mk.inj he
      exact t_X12_step  hf  p1 p2 (m := (i0, l0)) hq hK
    · cases hG

/-! == X12_top == -/
noncomputable def f_X12_top  (m : fm_) : Option (Int32 × fm_) :=
  (if (gi_ m 106 52) = 0 then
((some (28, m)))
else
(gd_ (ix_ ((gi_ m 106 52) - 1) 400)
((some ((gi_ m 135 (Int32.toNatClampNeg ((gi_ m 106 52) - 1))), m)))))
def sp_X12_top : am_S := fn_sp []
theorem sm_X12_top : am_Smono (sp_X12_top) := fn_sp_mono _
set_option maxRecDepth 100000 in
theorem t_X12_top {n : Nat} {r : Nat → Nat → Option Nat} (hf : fn_F n r) {q : Int32 × fm_}  {m : fm_}
  (h : f_X12_top  m = some q) {Q : Option Value → am_W → Prop} (hQ : Q (en_i q).1 (mk_ n r q.2)) : am_T m_X12_top sp_X12_top n Q 0 [some (.ref 106)] [] (mk_ n r m) :=
  am_T.wp sm_X12_top (K := am_T m_X12_top sp_X12_top n Q) (cuts := []) (fun _ _ _ _ h => h) 12
    (⟨fn_aF hf rfl rfl, fh_in h (fun c1 h2 => ⟨fn_aF hf rfl rfl, Or.inl ⟨_, hf.2 106 51 135 rfl, ⟨fn_aF hf rfl rfl, fh_gd h2 fun g4 h3 => ⟨400, fn_aF hf rfl rfl, ix_t g4, ⟨rfl, fh_rt h3 hQ⟩⟩⟩⟩⟩) (fun c1 h2 => ⟨rfl, fh_rt h2 hQ⟩)⟩)
noncomputable def G_X12_top (n : Nat) (r : Nat → Nat → Option Nat) (as : List Value) (m : fm_) : Option (Option Value × fm_) := match as with
  | [.ref x0] => gd_ (Nat.beq x0 106) ((f_X12_top  m).map en_i)
  | _ => none
set_option maxRecDepth 100000 in
theorem gp_X12_top {n : Nat} {r : Nat → Nat → Option Nat}   {m : fm_} {q : Int32 × fm_}  (e : f_X12_top  m = some q) : G_X12_top n r [.ref 106] m = some (en_i q) := by
  show (gd_ (Nat.beq 106 106) ((f_X12_top  m).map en_i)) = _
  exact fn_gd rfl (fn_mp e)
set_option maxRecDepth 100000 in
theorem ok_X12_top : am_mok 12 207 m_X12_top = true := by decide +kernel
set_option maxRecDepth 100000 in
theorem c_X12_top (l : Launch) {g : am_G} (hg : fx_ l g) : am_Met l g 0 207 (fn_s fn_F G_X12_top) := by
  refine am_sound (own := 12) (M := m_X12_top) (SP := sp_X12_top) hg.1 (by decide +kernel) ok_X12_top (by decide +kernel) ?_ (fun q hq hk => absurd hk (am_no61 (M := m_X12_top) (by decide +kernel) q hq)) (fn_ext l _ rfl g 12) (Or.inl (by decide +kernel)) ?_ ?_
  · intro q hq hk
    have hm : q.2.2.2.1 ∈ am_cs m_X12_top := am_cs_in hq hk
    rw [show am_cs m_X12_top = [] by decide +kernel] at hm
    cases hm
  · intro as w K h
    obtain ⟨hf, y, m1, hG, hK⟩ := h
    unfold G_X12_top at hG
    split at hG
    · exact Nat.le_of_ble_eq_true rfl
    · cases hG
  · intro as w K h
    obtain ⟨n, i0, l0, r⟩ := w
    obtain ⟨hf, y, m1, hG, hK⟩ := h
    unfold G_X12_top at hG
    split at hG
    · next x0 =>
      obtain ⟨hx1, hG1⟩ := gd_u hG
      obtain rfl := Nat.eq_of_beq_eq_true hx1
      obtain ⟨q, hq, he⟩ := fn_mu hG1
      obtain ⟨rfl, rfl⟩ := Prod.mk.inj he
      exact t_X12_top  hf   (m := (i0, l0)) hq hK
    · cases hG

/-! == X12_hold == -/
noncomputable def f_X12_hold (p1 : Int32) (m : fm_) : Option (Int32 × fm_) :=
  (gd_ (ix_ (gi_ m 106 52) 400)
(if p1 = 28 then
((some (0, (si_ (si_ (si_ m 135 (Int32.toNatClampNeg (gi_ m 106 52)) p1) 106 52 ((gi_ m 106 52) + 1)) 106 53 ((gi_ m 106 53) + 1)))))
else
(if p1 = 20 then
((some (0, (si_ (si_ (si_ m 135 (Int32.toNatClampNeg (gi_ m 106 52)) p1) 106 52 ((gi_ m 106 52) + 1)) 106 53 ((gi_ m 106 53) + 1)))))
else
((some (0, (si_ (si_ m 135 (Int32.toNatClampNeg (gi_ m 106 52)) p1) 106 52 ((gi_ m 106 52) + 1))))))))
def sp_X12_hold : am_S := fn_sp []
theorem sm_X12_hold : am_Smono (sp_X12_hold) := fn_sp_mono _
set_option maxRecDepth 100000 in
theorem t_X12_hold {n : Nat} {r : Nat → Nat → Option Nat} (hf : fn_F n r) {q : Int32 × fm_} (p1 : Int32) {m : fm_}
  (h : f_X12_hold p1 m = some q) {Q : Option Value → am_W → Prop} (hQ : Q (en_v q).1 (mk_ n r q.2)) : am_T m_X12_hold sp_X12_hold n Q 0 [some (.ref 106), some (.int p1)] [] (mk_ n r m) :=
  am_T.wp sm_X12_hold (K := am_T m_X12_hold sp_X12_hold n Q) (cuts := []) (fun _ _ _ _ h => h) 26
    (⟨fn_aF hf rfl rfl, Or.inl ⟨_, hf.2 106 51 135 rfl, ⟨fn_aF hf rfl rfl, fh_gd h fun g2 h1 => ⟨400, fn_aF hf rfl rfl, ix_t g2, ⟨fn_aF hf rfl rfl, ⟨fn_aF hf rfl rfl, fh_if h1 (fun c3 h4 => ⟨fn_aF hf rfl rfl, ⟨fn_aF hf rfl rfl, ⟨rfl, fh_rt h4 hQ⟩⟩⟩) (fun c3 h4 => fh_in h4 (fun c5 h6 => ⟨rfl, fh_rt h6 hQ⟩) (fun c5 h6 => ⟨fn_aF hf rfl rfl, ⟨fn_aF hf rfl rfl, ⟨rfl, fh_rt h6 hQ⟩⟩⟩))⟩⟩⟩⟩⟩⟩)
noncomputable def G_X12_hold (n : Nat) (r : Nat → Nat → Option Nat) (as : List Value) (m : fm_) : Option (Option Value × fm_) := match as with
  | [.ref x0, .int p1] => gd_ (Nat.beq x0 106) ((f_X12_hold p1 m).map en_v)
  | _ => none
set_option maxRecDepth 100000 in
theorem gp_X12_hold {n : Nat} {r : Nat → Nat → Option Nat}  {p1 : Int32} {m : fm_} {q : Int32 × fm_}  (e : f_X12_hold p1 m = some q) : G_X12_hold n r [.ref 106, .int p1] m = some (en_v q) := by
  show (gd_ (Nat.beq 106 106) ((f_X12_hold p1 m).map en_v)) = _
  exact fn_gd rfl (fn_mp e)
set_option maxRecDepth 100000 in
theorem ok_X12_hold : am_mok 12 208 m_X12_hold = true := by decide +kernel
set_option maxRecDepth 100000 in
theorem c_X12_hold (l : Launch) {g : am_G} (hg : fx_ l g) : am_Met l g 0 208 (fn_s fn_F G_X12_hold) := by
  refine am_sound (own := 12) (M := m_X12_hold) (SP := sp_X12_hold) hg.1 (by decide +kernel) ok_X12_hold (by decide +kernel) ?_ (fun q hq hk => absurd hk (am_no61 (M := m_X12_hold) (by decide +kernel) q hq)) (fn_ext l _ rfl g 12) (Or.inl (by decide +kernel)) ?_ ?_
  · intro q hq hk
    have hm : q.2.2.2.1 ∈ am_cs m_X12_hold := am_cs_in hq hk
    rw [show am_cs m_X12_hold = [] by decide +kernel] at hm
    cases hm
  · intro as w K h
    obtain ⟨hf, y, m1, hG, hK⟩ := h
    unfold G_X12_hold at hG
    split at hG
    · exact Nat.le_of_ble_eq_true rfl
    · cases hG
  · intro as w K h
    obtain ⟨n, i0, l0, r⟩ := w
    obtain ⟨hf, y, m1, hG, hK⟩ := h
    unfold G_X12_hold at hG
    split at hG
    · next x0 p1 =>
      obtain ⟨hx1, hG1⟩ := gd_u hG
      obtain rfl := Nat.eq_of_beq_eq_true hx1
      obtain ⟨q, hq, he⟩ := fn_mu hG1
      obtain ⟨rfl, rfl⟩ := Prod.mk.inj he
      exact t_X12_hold  hf  p1 (m := (i0, l0)) hq hK
    · cases hG

/-! == X12_pop == -/
noncomputable def f_X12_pop  (m : fm_) : Option (Int32 × fm_) :=
  (gd_ (ix_ ((gi_ m 106 52) - 1) 400)
(if (gi_ m 135 (Int32.toNatClampNeg ((gi_ m 106 52) - 1))) = 20 then
(gd_ (ix_ ((gi_ m 106 52) - 1) 400)
(Option.bind (f_X12_step (gi_ m 135 (Int32.toNatClampNeg ((gi_ m 106 52) - 1))) 0 (si_ (si_ m 106 52 ((gi_ m 106 52) - 1)) 106 53 ((gi_ m 106 53) - 1))) fun q12 =>
((some (0, q12.2)))))
else
(gd_ (ix_ ((gi_ m 106 52) - 1) 400)
(Option.bind (f_X12_step (gi_ m 135 (Int32.toNatClampNeg ((gi_ m 106 52) - 1))) 0 (si_ m 106 52 ((gi_ m 106 52) - 1))) fun q7 =>
((some (0, q7.2)))))))
def sp_X12_pop : am_S := fn_sp [(206, fn_F, G_X12_step)]
theorem sm_X12_pop : am_Smono (sp_X12_pop) := fn_sp_mono _
set_option maxRecDepth 100000 in
theorem t_X12_pop {n : Nat} {r : Nat → Nat → Option Nat} (hf : fn_F n r) {q : Int32 × fm_}  {m : fm_}
  (h : f_X12_pop  m = some q) {Q : Option Value → am_W → Prop} (hQ : Q (en_v q).1 (mk_ n r q.2)) : am_T m_X12_pop sp_X12_pop n Q 0 [some (.ref 106)] [] (mk_ n r m) :=
  am_T.wp sm_X12_pop (K := am_T m_X12_pop sp_X12_pop n Q) (cuts := []) (fun _ _ _ _ h => h) 29
    (⟨fn_aF hf rfl rfl, ⟨fn_aF hf rfl rfl, ⟨fn_aF hf rfl rfl, Or.inl ⟨_, hf.2 106 51 135 rfl, ⟨fn_aF hf rfl rfl, fh_gd h fun g2 h1 => ⟨400, fn_aF hf rfl rfl, ix_t g2, fh_in h1 (fun c3 h4 => ⟨fn_aF hf rfl rfl, Or.inl ⟨_, hf.2 106 51 135 rfl, ⟨fn_aF hf rfl rfl, fh_gd h4 fun g6 h5 => ⟨400, fn_aF hf rfl rfl, ix_t g6, fh_bd h5 fun q7 e8 h9 => ⟨Nat.le_of_ble_eq_true rfl, fn_aF hf rfl rfl, ⟨hf, none, q7.2, gp_X12_step (n := n) (r := r)  e8, fun _ => ⟨rfl, ⟨rfl, fh_rt h9 hQ⟩⟩⟩⟩⟩⟩⟩⟩) (fun c3 h4 => ⟨fn_aF hf rfl rfl, ⟨fn_aF hf rfl rfl, ⟨fn_aF hf rfl rfl, Or.inl ⟨_, hf.2 106 51 135 rfl, ⟨fn_aF hf rfl rfl, fh_gd h4 fun g11 h10 => ⟨400, fn_aF hf rfl rfl, ix_t g11, fh_bd h10 fun q12 e13 h14 => ⟨Nat.le_of_ble_eq_true rfl, fn_aF hf rfl rfl, ⟨hf, none, q12.2, gp_X12_step (n := n) (r := r)  e13, fun _ => ⟨rfl, ⟨rfl, fh_rt h14 hQ⟩⟩⟩⟩⟩⟩⟩⟩⟩⟩)⟩⟩⟩⟩⟩⟩)
noncomputable def G_X12_pop (n : Nat) (r : Nat → Nat → Option Nat) (as : List Value) (m : fm_) : Option (Option Value × fm_) := match as with
  | [.ref x0] => gd_ (Nat.beq x0 106) ((f_X12_pop  m).map en_v)
  | _ => none
set_option maxRecDepth 100000 in
theorem gp_X12_pop {n : Nat} {r : Nat → Nat → Option Nat}   {m : fm_} {q : Int32 × fm_}  (e : f_X12_pop  m = some q) : G_X12_pop n r [.ref 106] m = some (en_v q) := by
  show (gd_ (Nat.beq 106 106) ((f_X12_pop  m).map en_v)) = _
  exact fn_gd rfl (fn_mp e)
set_option maxRecDepth 100000 in
theorem ok_X12_pop : am_mok 12 209 m_X12_pop = true := by decide +kernel
set_option maxRecDepth 100000 in
theorem c_X12_pop (l : Launch) {g : am_G} (hg : fx_ l g) : am_Met l g 1 209 (fn_s fn_F G_X12_pop) := by
  refine am_sound (own := 12) (M := m_X12_pop) (SP := sp_X12_pop) hg.1 (by decide +kernel) ok_X12_pop (by decide +kernel) ?_ (fun q hq hk => absurd hk (am_no61 (M := m_X12_pop) (by decide +kernel) q hq)) (fn_ext l _ rfl g 12) (Or.inl (by decide +kernel)) ?_ ?_
  · intro q hq hk
    have hm : q.2.2.2.1 ∈ am_cs m_X12_pop := am_cs_in hq hk
    rw [show am_cs m_X12_pop = [206] by decide +kernel] at hm
    have hm : q.2.2.2.1 ∈ [206] := (List.all_eq_true.mp (show ([206] : List Nat).all (fun a => decide (a ∈ ([206] : List Nat))) = true by decide +kernel) _ hm |> of_decide_eq_true)
    simp only [List.mem_cons, List.not_mem_nil, or_false] at hm
    rcases hm with hm
    · rw [hm]; exact ⟨0, by omega, c_X12_step l hg⟩
  · intro as w K h
    obtain ⟨hf, y, m1, hG, hK⟩ := h
    unfold G_X12_pop at hG
    split at hG
    · exact Nat.le_of_ble_eq_true rfl
    · cases hG
  · intro as w K h
    obtain ⟨n, i0, l0, r⟩ := w
    obtain ⟨hf, y, m1, hG, hK⟩ := h
    unfold G_X12_pop at hG
    split at hG
    · next x0 =>
      obtain ⟨hx1, hG1⟩ := gd_u hG
      obtain rfl := Nat.eq_of_beq_eq_true hx1
      obtain ⟨q, hq, he⟩ := fn_mu hG1
      obtain ⟨rfl, rfl⟩ := Prod.mk.inj he
      exact t_X12_pop  hf   (m := (i0, l0)) hq hK
    · cases hG

/-! == X12_settle == -/
abbrev S_X12_settle : Type := (Int32 × fm_)
noncomputable def st_X12_settle (s : S_X12_settle) : Option (S_X12_settle ⊕ (Int32 × fm_)) := match s with
  | (x1, m) =>
    (Option.bind (f_X12_top m) fun q1 =>
(if q1.1 = 28 then
((some (Sum.inr (0, q1.2))))
else
(Option.bind (f_X12_top q1.2) fun q6 =>
(if q6.1 < x1 then
((some (Sum.inr (0, q6.2))))
else
(Option.bind (f_X12_pop q6.2) fun q11 =>
((some (Sum.inl ((x1, q11.2))))))))))
noncomputable def f_X12_settle_0 (x1 : Int32) (m : fm_) : Option (Int32 × fm_) := am_lp (st_X12_settle) ((x1, m))
theorem e_X12_settle_0 (x1 : Int32) (m : fm_) : f_X12_settle_0 x1 m =
(Option.bind (f_X12_top m) fun q1 =>
(if q1.1 = 28 then
((some (0, q1.2)))
else
(Option.bind (f_X12_top q1.2) fun q6 =>
(if q6.1 < x1 then
((some (0, q6.2)))
else
(Option.bind (f_X12_pop q6.2) fun q11 =>
((f_X12_settle_0 x1 q11.2))))))) :=
  (am_lp_eq _ _).trans (fe_bd fun q1 => (fe_if (rfl) (fe_bd fun q6 => (fe_if (rfl) (fe_bd fun q11 => (rfl))))))
noncomputable def f_X12_settle (p1 : Int32) (m : fm_) : Option (Int32 × fm_) :=
  ((f_X12_settle_0 p1 m))
def sp_X12_settle : am_S := fn_sp [(207, fn_F, G_X12_top), (209, fn_F, G_X12_pop)]
theorem sm_X12_settle : am_Smono (sp_X12_settle) := fn_sp_mono _
def P_X12_settle (n : Nat) (r : Nat → Nat → Option Nat) (s : S_X12_settle) (q : Int32 × fm_) : Prop := match s with
  | (x1, m) => ∀ (Q : Option Value → am_W → Prop), Q (en_v q).1 (mk_ n r q.2) → am_T m_X12_settle sp_X12_settle n Q 0 [some (.ref 106), some (.int x1)] [] (mk_ n r m)
set_option maxRecDepth 100000 in
theorem t_X12_settle_0 {n : Nat} {r : Nat → Nat → Option Nat} (hf : fn_F n r) {K : S_X12_settle → Option (Int32 × fm_)} {q : Int32 × fm_} (hK : ∀ s, K s = some q → P_X12_settle n r s q) (x1 : Int32) (m : fm_)
  (h : am_k K (st_X12_settle ((x1, m))) = some q) : P_X12_settle n r ((x1, m)) q := fun Q hQ =>
  am_T.wp sm_X12_settle (K := am_T m_X12_settle sp_X12_settle n Q) (cuts := [0]) (fun _ _ _ _ h => h) 13
    (fj_bd h fun q1 e2 h3 => ⟨Nat.le_of_ble_eq_true rfl, fn_aF hf rfl rfl, ⟨hf, some (.int q1.1), q1.2, gp_X12_top (n := n) (r := r)  e2, fun _ => fj_if h3 (fun c4 h5 => ⟨rfl, fj_rt h5 hQ⟩) (fun c4 h5 => fj_bd h5 fun q6 e7 h8 => ⟨Nat.le_of_ble_eq_true rfl, fn_aF hf rfl rfl, ⟨hf, some (.int q6.1), q6.2, gp_X12_top (n := n) (r := r)  e7, fun _ => fj_if h8 (fun c9 h10 => ⟨rfl, fj_rt h10 hQ⟩) (fun c9 h10 => fj_bd h10 fun q11 e12 h13 => ⟨Nat.le_of_ble_eq_true rfl, fn_aF hf rfl rfl, ⟨hf, none, q11.2, gp_X12_pop (n := n) (r := r)  e12, fun _ => ⟨rfl, hK _ h13 _ hQ⟩⟩⟩)⟩⟩)⟩⟩)
theorem l_X12_settle {n : Nat} {r : Nat → Nat → Option Nat} (hf : fn_F n r) (s : S_X12_settle) (q : Int32 × fm_) (h : am_lp (st_X12_settle) s = some q) : P_X12_settle n r s q :=
  am_lp_snd (P := P_X12_settle n r) (fun K hK s q h => match s, h with
    | (x1, m), h => t_X12_settle_0 hf (fun s => hK s q) x1 m h) s q h
set_option maxRecDepth 100000 in
theorem t_X12_settle {n : Nat} {r : Nat → Nat → Option Nat} (hf : fn_F n r) {q : Int32 × fm_} (p1 : Int32) {m : fm_}
  (h : f_X12_settle p1 m = some q) {Q : Option Value → am_W → Prop} (hQ : Q (en_v q).1 (mk_ n r q.2)) : am_T m_X12_settle sp_X12_settle n Q 0 [some (.ref 106), some (.int p1)] [] (mk_ n r m) :=
  am_T.wp sm_X12_settle (K := am_T m_X12_settle sp_X12_settle n Q) (cuts := [0]) (fun _ _ _ _ h => h) 0
    (l_X12_settle hf _ _ h _ hQ)
noncomputable def G_X12_settle (n : Nat) (r : Nat → Nat → Option Nat) (as : List Value) (m : fm_) : Option (Option Value × fm_) := match as with
  | [.ref x0, .int p1] => gd_ (Nat.beq x0 106) ((f_X12_settle p1 m).map en_v)
  | _ => none
set_option maxRecDepth 100000 in
theorem gp_X12_settle {n : Nat} {r : Nat → Nat → Option Nat}  {p1 : Int32} {m : fm_} {q : Int32 × fm_}  (e : f_X12_settle p1 m = some q) : G_X12_settle n r [.ref 106, .int p1] m = some (en_v q) := by
  show (gd_ (Nat.beq 106 106) ((f_X12_settle p1 m).map en_v)) = _
  exact fn_gd rfl (fn_mp e)
set_option maxRecDepth 100000 in
theorem ok_X12_settle : am_mok 12 210 m_X12_settle = true := by decide +kernel
set_option maxRecDepth 100000 in
theorem c_X12_settle (l : Launch) {g : am_G} (hg : fx_ l g) : am_Met l g 2 210 (fn_s fn_F G_X12_settle) := by
  refine am_sound (own := 12) (M := m_X12_settle) (SP := sp_X12_settle) hg.1 (by decide +kernel) ok_X12_settle (by decide +kernel) ?_ (fun q hq hk => absurd hk (am_no61 (M := m_X12_settle) (by decide +kernel) q hq)) (fn_ext l _ rfl g 12) (Or.inl (by decide +kernel)) ?_ ?_
  · intro q hq hk
    have hm : q.2.2.2.1 ∈ am_cs m_X12_settle := am_cs_in hq hk
    rw [show am_cs m_X12_settle = [207, 207, 209] by decide +kernel] at hm
    have hm : q.2.2.2.1 ∈ [207, 209] := (List.all_eq_true.mp (show ([207, 207, 209] : List Nat).all (fun a => decide (a ∈ ([207, 209] : List Nat))) = true by decide +kernel) _ hm |> of_decide_eq_true)
    simp only [List.mem_cons, List.not_mem_nil, or_false] at hm
    rcases hm with hm | hm
    · rw [hm]; exact ⟨0, by omega, c_X12_top l hg⟩
    · rw [hm]; exact ⟨1, by omega, c_X12_pop l hg⟩
  · intro as w K h
    obtain ⟨hf, y, m1, hG, hK⟩ := h
    unfold G_X12_settle at hG
    split at hG
    · exact Nat.le_of_ble_eq_true rfl
    · cases hG
  · intro as w K h
    obtain ⟨n, i0, l0, r⟩ := w
    obtain ⟨hf, y, m1, hG, hK⟩ := h
    unfold G_X12_settle at hG
    split at hG
    · next x0 p1 =>
      obtain ⟨hx1, hG1⟩ := gd_u hG
      obtain rfl := Nat.eq_of_beq_eq_true hx1
      obtain ⟨q, hq, he⟩ := fn_mu hG1
      obtain ⟨rfl, rfl⟩ := Prod.mk.inj he
      exact t_X12_settle  hf  p1 (m := (i0, l0)) hq hK
    · cases hG

