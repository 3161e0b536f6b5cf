/-! == X1_papersOn == -/
abbrev S_X1_papersOn : Type := (Int32 × Int32 × Int32 × Int32 × Int32 × fm_)
noncomputable def st_X1_papersOn (s : S_X1_papersOn) : Option (S_X1_papersOn ⊕ (Int32 × fm_)) := match s with
  | (x1, x2, x3, x4, x5, m) =>
    (if (gi_ m 72 7) ≤ x5 then
(if x4 = (-1) then
((some (Sum.inr (0, m))))
else
(gd_ (ix_ x4 200)
((some (Sum.inr ((gi_ m 78 (Int32.toNatClampNeg x4)), m))))))
else
(gd_ (ix_ x5 200)
(if (gi_ m 73 (Int32.toNatClampNeg x5)) = 1 then
(gd_ (ix_ x5 200)
(if (gi_ m 76 (Int32.toNatClampNeg x5)) = x1 then
(gd_ (ix_ x5 200)
(if x2 < (gi_ m 77 (Int32.toNatClampNeg x5)) then
((some (Sum.inl ((x1, x2, x3, x4, (x5 + 1), m)))))
else
(Option.bind (f_X1_counts x5 x3 m) fun q22 =>
(if q22.1 = 0 then
((some (Sum.inl ((x1, x2, x3, x4, (x5 + 1), q22.2)))))
else
(if x4 = (-1) then
((some (Sum.inl ((x1, x2, x3, x5, (x5 + 1), q22.2)))))
else
(gd_ (ix_ x5 200)
(gd_ (ix_ x4 200)
(if (gi_ q22.2 77 (Int32.toNatClampNeg x5)) < (gi_ q22.2 77 (Int32.toNatClampNeg x4)) then
((some (Sum.inl ((x1, x2, x3, x4, (x5 + 1), q22.2)))))
else
((some (Sum.inl ((x1, x2, x3, x5, (x5 + 1), q22.2)))))))))))))
else
((some (Sum.inl ((x1, x2, x3, x4, (x5 + 1), m)))))))
else
((some (Sum.inl ((x1, x2, x3, x4, (x5 + 1), m))))))))
noncomputable def f_X1_papersOn_6 (x1 : Int32) (x2 : Int32) (x3 : Int32) (x4 : Int32) (x5 : Int32) (m : fm_) : Option (Int32 × fm_) := am_lp (st_X1_papersOn) ((x1, x2, x3, x4, x5, m))
theorem e_X1_papersOn_6 (x1 : Int32) (x2 : Int32) (x3 : Int32) (x4 : Int32) (x5 : Int32) (m : fm_) : f_X1_papersOn_6 x1 x2 x3 x4 x5 m =
(if (gi_ m 72 7) ≤ x5 then
(if x4 = (-1) then
((some (0, m)))
else
(gd_ (ix_ x4 200)
((some ((gi_ m 78 (Int32.toNatClampNeg x4)), m)))))
else
(gd_ (ix_ x5 200)
(if (gi_ m 73 (Int32.toNatClampNeg x5)) = 1 then
(gd_ (ix_ x5 200)
(if (gi_ m 76 (Int32.toNatClampNeg x5)) = x1 then
(gd_ (ix_ x5 200)
(if x2 < (gi_ m 77 (Int32.toNatClampNeg x5)) then
((f_X1_papersOn_6 x1 x2 x3 x4 (x5 + 1) m))
else
(Option.bind (f_X1_counts x5 x3 m) fun q22 =>
(if q22.1 = 0 then
((f_X1_papersOn_6 x1 x2 x3 x4 (x5 + 1) q22.2))
else
(if x4 = (-1) then
((f_X1_papersOn_6 x1 x2 x3 x5 (x5 + 1) q22.2))
else
(gd_ (ix_ x5 200)
(gd_ (ix_ x4 200)
(if (gi_ q22.2 77 (Int32.toNatClampNeg x5)) < (gi_ q22.2 77 (Int32.toNatClampNeg x4)) then
((f_X1_papersOn_6 x1 x2 x3 x4 (x5 + 1) q22.2))
else
((f_X1_papersOn_6 x1 x2 x3 x5 (x5 + 1) q22.2))))))))))
else
((f_X1_papersOn_6 x1 x2 x3 x4 (x5 + 1) m))))
else
((f_X1_papersOn_6 x1 x2 x3 x4 (x5 + 1) m))))) :=
  (am_lp_eq _ _).trans (fe_if (fe_if (rfl) (fe_gd (rfl))) (fe_gd (fe_if (fe_gd (fe_if (fe_gd (fe_if (rfl) (fe_bd fun q22 => (fe_if (rfl) (fe_if (rfl) (fe_gd (fe_gd (fe_if (rfl) (rfl))))))))) (rfl))) (rfl))))
noncomputable def f_X1_papersOn (p1 : Int32) (p2 : Int32) (p3 : Int32) (m : fm_) : Option (Int32 × fm_) :=
  ((f_X1_papersOn_6 p1 p2 p3 (-1) 0 m))
def sp_X1_papersOn : am_S := fn_sp [(17, fn_F, G_X1_counts)]
theorem sm_X1_papersOn : am_Smono (sp_X1_papersOn) := fn_sp_mono _
def P_X1_papersOn (n : Nat) (r : Nat → Nat → Option Nat) (s : S_X1_papersOn) (q : Int32 × fm_) : Prop := match s with
  | (x1, x2, x3, x4, x5, m) => ∀ (Q : Option Value → am_W → Prop) (y6 : Option Value), Q (en_i q).1 (mk_ n r q.2) → am_T m_X1_papersOn sp_X1_papersOn n Q 6 [some (.ref 72), some (.int x1), some (.int x2), some (.int x3), some (.int x4), some (.int x5), y6] [] (mk_ n r m)
set_option maxRecDepth 100000 in
theorem t_X1_papersOn_6 {n : Nat} {r : Nat → Nat → Option Nat} (hf : fn_F n r) {K : S_X1_papersOn → Option (Int32 × fm_)} {q : Int32 × fm_} (hK : ∀ s, K s = some q → P_X1_papersOn n r s q) (x1 : Int32) (x2 : Int32) (x3 : Int32) (x4 : Int32) (x5 : Int32) (m : fm_)
  (h : am_k K (st_X1_papersOn ((x1, x2, x3, x4, x5, m))) = some q) : P_X1_papersOn n r ((x1, x2, x3, x4, x5, m)) q := fun Q y6 hQ =>
  am_T.wp sm_X1_papersOn (K := am_T m_X1_papersOn sp_X1_papersOn n Q) (cuts := [6]) (fun _ _ _ _ h => h) 50
    (⟨fn_aF hf rfl rfl, fj_if h (fun c1 h2 => fj_in h2 (fun c3 h4 => ⟨fn_aF hf rfl rfl, Or.inl ⟨_, hf.2 72 5 78 rfl, fj_gd h4 fun g6 h5 => ⟨200, fn_aF hf rfl rfl, ix_t g6, ⟨rfl, fj_rt h5 hQ⟩⟩⟩⟩) (fun c3 h4 => ⟨rfl, fj_rt h4 hQ⟩)) (fun c1 h2 => ⟨fn_aF hf rfl rfl, Or.inl ⟨_, hf.2 72 0 73 rfl, fj_gd h2 fun g8 h7 => ⟨200, fn_aF hf rfl rfl, ix_t g8, fj_in h7 (fun c9 h10 => ⟨fun c11 => hK _ h10 _ _ hQ, fun c11 => absurd c11 (by decide)⟩) (fun c9 h10 => ⟨fn_aF hf rfl rfl, Or.inl ⟨_, hf.2 72 3 76 rfl, fj_gd h10 fun g13 h12 => ⟨200, fn_aF hf rfl rfl, ix_t g13, fj_in h12 (fun c14 h15 => ⟨fun c16 => hK _ h15 _ _ hQ, fun c16 => absurd c16 (by decide)⟩) (fun c14 h15 => ⟨fn_aF hf rfl rfl, Or.inl ⟨_, hf.2 72 4 77 rfl, fj_gd h15 fun g18 h17 => ⟨200, fn_aF hf rfl rfl, ix_t g18, fj_if h17 (fun c19 h20 => ⟨fun c21 => hK _ h20 _ _ hQ, fun c21 => absurd c21 (by decide)⟩) (fun c19 h20 => fj_bd h20 fun q22 e23 h24 => ⟨Nat.le_of_ble_eq_true rfl, fn_aF hf rfl rfl, ⟨hf, some (.int q22.1), q22.2, gp_X1_counts (n := n) (r := r)  e23, fun _ => fj_if h24 (fun c25 h26 => ⟨fun c27 => hK _ h26 _ _ hQ, fun c27 => absurd c27 (by decide)⟩) (fun c25 h26 => ⟨fun c28 => absurd c28 (by decide), fun c28 => fj_if h26 (fun c29 h30 => hK _ h30 _ _ hQ) (fun c29 h30 => ⟨fn_aF hf rfl rfl, Or.inl ⟨_, hf.2 72 4 77 rfl, fj_gd h30 fun g32 h31 => ⟨200, fn_aF hf rfl rfl, ix_t g32, ⟨fn_aF hf rfl rfl, Or.inl ⟨_, hf.2 72 4 77 rfl, fj_gd h31 fun g34 h33 => ⟨200, fn_aF hf rfl rfl, ix_t g34, fj_if h33 (fun c35 h36 => hK _ h36 _ _ hQ) (fun c35 h36 => hK _ h36 _ _ hQ)⟩⟩⟩⟩⟩⟩)⟩)⟩⟩)⟩⟩⟩)⟩⟩⟩)⟩⟩⟩)⟩)
theorem l_X1_papersOn {n : Nat} {r : Nat → Nat → Option Nat} (hf : fn_F n r) (s : S_X1_papersOn) (q : Int32 × fm_) (h : am_lp (st_X1_papersOn) s = some q) : P_X1_papersOn n r s q :=
  am_lp_snd (P := P_X1_papersOn n r) (fun K hK s q h => match s, h with
    | (x1, x2, x3, x4, x5, m), h => t_X1_papersOn_6 hf (fun s => hK s q) x1 x2 x3 x4 x5 m h) s q h
set_option maxRecDepth 100000 in
theorem t_X1_papersOn {n : Nat} {r : Nat → Nat → Option Nat} (hf : fn_F n r) {q : Int32 × fm_} (p1 : Int32) (p2 : Int32) (p3 : Int32) {m : fm_}
  (h : f_X1_papersOn p1 p2 p3 m = some q) {Q : Option Value → am_W → Prop} (hQ : Q (en_i q).1 (mk_ n r q.2)) : am_T m_X1_papersOn sp_X1_papersOn n Q 0 [some (.ref 72), some (.int p1), some (.int p2), some (.int p3), none, none, none] [] (mk_ n r m) :=
  am_T.wp sm_X1_papersOn (K := am_T m_X1_papersOn sp_X1_papersOn n Q) (cuts := [6]) (fun _ _ _ _ h => h) 6
    (l_X1_papersOn hf _ _ h _ _ hQ)
noncomputable def G_X1_papersOn (n : Nat) (r : Nat → Nat → Option Nat) (as : List Value) (m : fm_) : Option (Option Value × fm_) := match as with
  | [.ref x0, .int p1, .int p2, .int p3] => gd_ (Nat.beq x0 72) ((f_X1_papersOn p1 p2 p3 m).map en_i)
  | _ => none
set_option maxRecDepth 100000 in
theorem gp_X1_papersOn {n : Nat} {r : Nat → Nat → Option Nat}  {p1 : Int32} {p2 : Int32} {p3 : Int32} {m : fm_} {q : Int32 × fm_}  (e : f_X1_papersOn p1 p2 p3 m = some q) : G_X1_papersOn n r [.ref 72, .int p1, .int p2, .int p3] m = some (en_i q) := by
  show (gd_ (Nat.beq 72 72) ((f_X1_papersOn p1 p2 p3 m).map en_i)) = _
  exact fn_gd rfl (fn_mp e)
set_option maxRecDepth 100000 in
theorem ok_X1_papersOn : am_mok 1 20 m_X1_papersOn = true := by decide +kernel
set_option maxRecDepth 100000 in
theorem c_X1_papersOn (l : Launch) {g : am_G} (hg : fx_ l g) : am_Met l g 2 20 (fn_s fn_F G_X1_papersOn) := by
  refine am_sound (own := 1) (M := m_X1_papersOn) (SP := sp_X1_papersOn) hg.1 (by decide +kernel) ok_X1_papersOn (by decide +kernel) ?_ (fun q hq hk => absurd hk (am_no61 (M := m_X1_papersOn) (by decide +kernel) q hq)) (fn_ext l _ rfl g 1) (Or.inl (by decide +kernel)) ?_ ?_
  · intro q hq hk
    have hm : q.2.2.2.1 ∈ am_cs m_X1_papersOn := am_cs_in hq hk
    rw [show am_cs m_X1_papersOn = [17] by decide +kernel] at hm
    have hm : q.2.2.2.1 ∈ [17] := (List.all_eq_true.mp (show ([17] : List Nat).all (fun a => decide (a ∈ ([17] : List Nat))) = true by decide +kernel) _ hm |> of_decide_eq_true)
    simp only [List.mem_cons, List.not_mem_nil, or_false] at hm
    rcases hm with hm
    · rw [hm]; exact ⟨1, by omega, c_X1_counts l hg⟩
  · intro as w K h
    obtain ⟨hf, y, m1, hG, hK⟩ := h
    unfold G_X1_papersOn at hG
    split at hG
    · exact Nat.le_of_ble_eq_true rfl
    · cases hG
  · intro as w K h
    obtain ⟨n, i0, l0, r⟩ := w
    obtain ⟨hf, y, m1, hG, hK⟩ := h
    unfold G_X1_papersOn at hG
    split at hG
    · next x0 p1 p2 p3 =>
      obtain ⟨hx1, hG1⟩ := gd_u hG
      obtain rfl := Nat.eq_of_beq_eq_true hx1
      obtain ⟨q, hq, he⟩ := fn_mu hG1
      obtain ⟨rfl, rfl⟩ := Prod.mk.inj he
      exact t_X1_papersOn  hf  p1 p2 p3 (m := (i0, l0)) hq hK
    · cases hG

/-! == X1_hasAppeal == -/
abbrev S_X1_hasAppeal : Type := (Int32 × Int32 × Int32 × Int32 × fm_)
noncomputable def st_X1_hasAppeal (s : S_X1_hasAppeal) : Option (S_X1_hasAppeal ⊕ (Int32 × fm_)) := match s with
  | (x1, x2, x3, x4, m) =>
    (if (gi_ m 72 7) ≤ x4 then
((some (Sum.inr (0, m))))
else
(gd_ (ix_ x4 200)
(if (gi_ m 73 (Int32.toNatClampNeg x4)) = 3 then
(gd_ (ix_ x4 200)
(if (gi_ m 76 (Int32.toNatClampNeg x4)) = x1 then
(gd_ (ix_ x4 200)
(if (gi_ m 77 (Int32.toNatClampNeg x4)) = x2 then
(Option.bind (f_X1_counts x4 x3 m) fun q15 =>
(if q15.1 = 0 then
((some (Sum.inl ((x1, x2, x3, (x4 + 1), q15.2)))))
else
((some (Sum.inr (1, q15.2))))))
else
((some (Sum.inl ((x1, x2, x3, (x4 + 1), m)))))))
else
((some (Sum.inl ((x1, x2, x3, (x4 + 1), m)))))))
else
((some (Sum.inl ((x1, x2, x3, (x4 + 1), m))))))))
noncomputable def f_X1_hasAppeal_3 (x1 : Int32) (x2 : Int32) (x3 : Int32) (x4 : Int32) (m : fm_) : Option (Int32 × fm_) := am_lp (st_X1_hasAppeal) ((x1, x2, x3, x4, m))
theorem e_X1_hasAppeal_3 (x1 : Int32) (x2 : Int32) (x3 : Int32) (x4 : Int32) (m : fm_) : f_X1_hasAppeal_3 x1 x2 x3 x4 m =
(if (gi_ m 72 7) ≤ x4 then
((some (0, m)))
else
(gd_ (ix_ x4 200)
(if (gi_ m 73 (Int32.toNatClampNeg x4)) = 3 then
(gd_ (ix_ x4 200)
(if (gi_ m 76 (Int32.toNatClampNeg x4)) = x1 then
(gd_ (ix_ x4 200)
(if (gi_ m 77 (Int32.toNatClampNeg x4)) = x2 then
(Option.bind (f_X1_counts x4 x3 m) fun q15 =>
(if q15.1 = 0 then
((f_X1_hasAppeal_3 x1 x2 x3 (x4 + 1) q15.2))
else
((some (1, q15.2)))))
else
((f_X1_hasAppeal_3 x1 x2 x3 (x4 + 1) m))))
else
((f_X1_hasAppeal_3 x1 x2 x3 (x4 + 1) m))))
else
((f_X1_hasAppeal_3 x1 x2 x3 (x4 + 1) m))))) :=
  (am_lp_eq _ _).trans (fe_if (rfl) (fe_gd (fe_if (fe_gd (fe_if (fe_gd (fe_if (fe_bd fun q15 => (fe_if (rfl) (rfl))) (rfl))) (rfl))) (rfl))))
noncomputable def f_X1_hasAppeal (p1 : Int32) (p2 : Int32) (p3 : Int32) (m : fm_) : Option (Int32 × fm_) :=
  ((f_X1_hasAppeal_3 p1 p2 p3 0 m))
def sp_X1_hasAppeal : am_S := fn_sp [(17, fn_F, G_X1_counts)]
theorem sm_X1_hasAppeal : am_Smono (sp_X1_hasAppeal) := fn_sp_mono _
def P_X1_hasAppeal (n : Nat) (r : Nat → Nat → Option Nat) (s : S_X1_hasAppeal) (q : Int32 × fm_) : Prop := match s with
  | (x1, x2, x3, x4, m) => ∀ (Q : Option Value → am_W → Prop), Q (en_i q).1 (mk_ n r q.2) → am_T m_X1_hasAppeal sp_X1_hasAppeal n Q 3 [some (.ref 72), some (.int x1), some (.int x2), some (.int x3), some (.int x4)] [] (mk_ n r m)
set_option maxRecDepth 100000 in
theorem t_X1_hasAppeal_3 {n : Nat} {r : Nat → Nat → Option Nat} (hf : fn_F n r) {K : S_X1_hasAppeal → Option (Int32 × fm_)} {q : Int32 × fm_} (hK : ∀ s, K s = some q → P_X1_hasAppeal n r s q) (x1 : Int32) (x2 : Int32) (x3 : Int32) (x4 : Int32) (m : fm_)
  (h : am_k K (st_X1_hasAppeal ((x1, x2, x3, x4, m))) = some q) : P_X1_hasAppeal n r ((x1, x2, x3, x4, m)) q := fun Q hQ =>
  am_T.wp sm_X1_hasAppeal (K := am_T m_X1_hasAppeal sp_X1_hasAppeal n Q) (cuts := [3]) (fun _ _ _ _ h => h) 31
    (⟨fn_aF hf rfl rfl, fj_if h (fun c1 h2 => ⟨rfl, Or.inl rfl, fj_rt h2 hQ⟩) (fun c1 h2 => ⟨fn_aF hf rfl rfl, Or.inl ⟨_, hf.2 72 0 73 rfl, fj_gd h2 fun g4 h3 => ⟨200, fn_aF hf rfl rfl, ix_t g4, fj_in h3 (fun c5 h6 => hK _ h6 _ hQ) (fun c5 h6 => ⟨fn_aF hf rfl rfl, Or.inl ⟨_, hf.2 72 3 76 rfl, fj_gd h6 fun g8 h7 => ⟨200, fn_aF hf rfl rfl, ix_t g8, fj_in h7 (fun c9 h10 => hK _ h10 _ hQ) (fun c9 h10 => ⟨fn_aF hf rfl rfl, Or.inl ⟨_, hf.2 72 4 77 rfl, fj_gd h10 fun g12 h11 => ⟨200, fn_aF hf rfl rfl, ix_t g12, fj_in h11 (fun c13 h14 => hK _ h14 _ hQ) (fun c13 h14 => fj_bd h14 fun q15 e16 h17 => ⟨Nat.le_of_ble_eq_true rfl, fn_aF hf rfl rfl, ⟨hf, some (.int q15.1), q15.2, gp_X1_counts (n := n) (r := r)  e16, fun _ => fj_if h17 (fun c18 h19 => hK _ h19 _ hQ) (fun c18 h19 => ⟨rfl, Or.inr rfl, fj_rt h19 hQ⟩)⟩⟩)⟩⟩⟩)⟩⟩⟩)⟩⟩⟩)⟩)
theorem l_X1_hasAppeal {n : Nat} {r : Nat → Nat → Option Nat} (hf : fn_F n r) (s : S_X1_hasAppeal) (q : Int32 × fm_) (h : am_lp (st_X1_hasAppeal) s = some q) : P_X1_hasAppeal n r s q :=
  am_lp_snd (P := P_X1_hasAppeal n r) (fun K hK s q h => match s, h with
    | (x1, x2, x3, x4, m), h => t_X1_hasAppeal_3 hf (fun s => hK s q) x1 x2 x3 x4 m h) s q h
set_option maxRecDepth 100000 in
theorem t_X1_hasAppeal {n : Nat} {r : Nat → Nat → Option Nat} (hf : fn_F n r) {q : Int32 × fm_} (p1 : Int32) (p2 : Int32) (p3 : Int32) {m : fm_}
  (h : f_X1_hasAppeal p1 p2 p3 m = some q) {Q : Option Value → am_W → Prop} (hQ : Q (en_i q).1 (mk_ n r q.2)) : am_T m_X1_hasAppeal sp_X1_hasAppeal n Q 0 [some (.ref 72), some (.int p1), some (.int p2), some (.int p3), none] [] (mk_ n r m) :=
  am_T.wp sm_X1_hasAppeal (K := am_T m_X1_hasAppeal sp_X1_hasAppeal n Q) (cuts := [3]) (fun _ _ _ _ h => h) 4
    (l_X1_hasAppeal hf _ _ h _ hQ)
noncomputable def G_X1_hasAppeal (n : Nat) (r : Nat → Nat → Option Nat) (as : List Value) (m : fm_) : Option (Option Value × fm_) := match as with
  | [.ref x0, .int p1, .int p2, .int p3] => gd_ (Nat.beq x0 72) ((f_X1_hasAppeal p1 p2 p3 m).map en_i)
  | _ => none
set_option maxRecDepth 100000 in
theorem gp_X1_hasAppeal {n : Nat} {r : Nat → Nat → Option Nat}  {p1 : Int32} {p2 : Int32} {p3 : Int32} {m : fm_} {q : Int32 × fm_}  (e : f_X1_hasAppeal p1 p2 p3 m = some q) : G_X1_hasAppeal n r [.ref 72, .int p1, .int p2, .int p3] m = some (en_i q) := by
  show (gd_ (Nat.beq 72 72) ((f_X1_hasAppeal p1 p2 p3 m).map en_i)) = _
  exact fn_gd rfl (fn_mp e)
set_option maxRecDepth 100000 in
theorem ok_X1_hasAppeal : am_mok 1 21 m_X1_hasAppeal = true := by decide +kernel
set_option maxRecDepth 100000 in
theorem c_X1_hasAppeal (l : Launch) {g : am_G} (hg : fx_ l g) : am_Met l g 2 21 (fn_s fn_F G_X1_hasAppeal) := by
  refine am_sound (own := 1) (M := m_X1_hasAppeal) (SP := sp_X1_hasAppeal) hg.1 (by decide +kernel) ok_X1_hasAppeal (by decide +kernel) ?_ (fun q hq hk => absurd hk (am_no61 (M := m_X1_hasAppeal) (by decide +kernel) q hq)) (fn_ext l _ rfl g 1) (Or.inl (by decide +kernel)) ?_ ?_
  · intro q hq hk
    have hm : q.2.2.2.1 ∈ am_cs m_X1_hasAppeal := am_cs_in hq hk
    rw [show am_cs m_X1_hasAppeal = [17] by decide +kernel] at hm
    have hm : q.2.2.2.1 ∈ [17] := (List.all_eq_true.mp (show ([17] : List Nat).all (fun a => decide (a ∈ ([17] : List Nat))) = true by decide +kernel) _ hm |> of_decide_eq_true)
    simp only [List.mem_cons, List.not_mem_nil, or_false] at hm
    rcases hm with hm
    · rw [hm]; exact ⟨1, by omega, c_X1_counts l hg⟩
  · intro as w K h
    obtain ⟨hf, y, m1, hG, hK⟩ := h
    unfold G_X1_hasAppeal at hG
    split at hG
    · exact Nat.le_of_ble_eq_true rfl
    · cases hG
  · intro as w K h
    obtain ⟨n, i0, l0, r⟩ := w
    obtain ⟨hf, y, m1, hG, hK⟩ := h
    unfold G_X1_hasAppeal at hG
    split at hG
    · next x0 p1 p2 p3 =>
      obtain ⟨hx1, hG1⟩ := gd_u hG
      obtain rfl := Nat.eq_of_beq_eq_true hx1
      obtain ⟨q, hq, he⟩ := fn_mu hG1
      obtain ⟨rfl, rfl⟩ := Prod.mk.inj he
      exact t_X1_hasAppeal  hf  p1 p2 p3 (m := (i0, l0)) hq hK
    · cases hG

/-! == X6_forget == -/
noncomputable def f_X6_forget  (m : fm_) : Option (Int32 × fm_) :=
  ((some (0, (si_ m 82 3 ((gi_ m 82 3) + 1)))))
def sp_X6_forget : am_S := fn_sp []
theorem sm_X6_forget : am_Smono (sp_X6_forget) := fn_sp_mono _
set_option maxRecDepth 100000 in
theorem t_X6_forget {n : Nat} {r : Nat → Nat → Option Nat} (hf : fn_U n r) {q : Int32 × fm_}  {m : fm_}
  (h : f_X6_forget  m = some q) {Q : Option Value → am_W → Prop} (hQ : Q (en_v q).1 (mk_ n r q.2)) : am_T m_X6_forget sp_X6_forget n Q 0 [some (.ref 82)] [] (mk_ n r m) :=
  am_T.wp sm_X6_forget (K := am_T m_X6_forget sp_X6_forget n Q) (cuts := []) (fun _ _ _ _ h => h) 8
    (⟨fn_aU hf rfl rfl, ⟨fn_aU hf rfl rfl, ⟨rfl, fh_rt h hQ⟩⟩⟩)
noncomputable def G_X6_forget (n : Nat) (r : Nat → Nat → Option Nat) (as : List Value) (m : fm_) : Option (Option Value × fm_) := match as with
  | [.ref x0] => gd_ (Nat.beq x0 82) ((f_X6_forget  m).map en_v)
  | _ => none
set_option maxRecDepth 100000 in
theorem gp_X6_forget {n : Nat} {r : Nat → Nat → Option Nat}   {m : fm_} {q : Int32 × fm_}  (e : f_X6_forget  m = some q) : G_X6_forget n r [.ref 82] m = some (en_v q) := by
  show (gd_ (Nat.beq 82 82) ((f_X6_forget  m).map en_v)) = _
  exact fn_gd rfl (fn_mp e)
set_option maxRecDepth 100000 in
theorem ok_X6_forget : am_mok 6 62 m_X6_forget = true := by decide +kernel
set_option maxRecDepth 100000 in
theorem c_X6_forget (l : Launch) {g : am_G} (hg : fx_ l g) : am_Met l g 0 62 (fn_s fn_U G_X6_forget) := by
  refine am_sound (own := 6) (M := m_X6_forget) (SP := sp_X6_forget) hg.1 (by decide +kernel) ok_X6_forget (by decide +kernel) ?_ (fun q hq hk => absurd hk (am_no61 (M := m_X6_forget) (by decide +kernel) q hq)) (fn_ext l _ rfl g 6) (Or.inl (by decide +kernel)) ?_ ?_
  · intro q hq hk
    have hm : q.2.2.2.1 ∈ am_cs m_X6_forget := am_cs_in hq hk
    rw [show am_cs m_X6_forget = [] by decide +kernel] at hm
    cases hm
  · intro as w K h
    obtain ⟨hf, y, m1, hG, hK⟩ := h
    unfold G_X6_forget at hG
    split at hG
    · exact Nat.le_of_ble_eq_true rfl
    · cases hG
  · intro as w K h
    obtain ⟨n, i0, l0, r⟩ := w
    obtain ⟨hf, y, m1, hG, hK⟩ := h
    unfold G_X6_forget at hG
    split at hG
    · next x0 =>
      obtain ⟨hx1, hG1⟩ := gd_u hG
      obtain rfl := Nat.eq_of_beq_eq_true hx1
      obtain ⟨q, hq, he⟩ := fn_mu hG1
      obtain ⟨rfl, rfl⟩ := Prod.mk.inj he
      exact t_X6_forget  hf   (m := (i0, l0)) hq hK
    · cases hG

/-! == X6_gather == -/
abbrev S_X6_gather : Type := (Int32 × Int32 × Int32 × fm_)
noncomputable def st_X6_gather (s : S_X6_gather) : Option (S_X6_gather ⊕ (Int32 × fm_)) := match s with
  | (x1, x2, x3, m) =>
    (Option.bind (f_X1_readingsOn x1 m) fun q1 =>
(if q1.1 ≤ x3 then
((some (Sum.inr (0, q1.2))))
else
(Option.bind (f_X1_readingOn x1 x3 q1.2) fun q6 =>
(Option.bind (f_X1_counts q6.1 x2 q6.2) fun q9 =>
(if q9.1 = 0 then
((some (Sum.inl ((x1, x2, (x3 + 1), q9.2)))))
else
(if 7 ≤ (gi_ q9.2 82 9) then
((some (Sum.inl ((x1, x2, (x3 + 1), q9.2)))))
else
(gd_ (ix_ (gi_ q9.2 82 9) 7)
((some (Sum.inl ((x1, x2, (x3 + 1), (si_ (si_ q9.2 87 (Int32.toNatClampNeg (gi_ q9.2 82 9)) q6.1) 82 9 ((gi_ q9.2 82 9) + 1))))))))))))))
noncomputable def f_X6_gather_7 (x1 : Int32) (x2 : Int32) (x3 : Int32) (m : fm_) : Option (Int32 × fm_) := am_lp (st_X6_gather) ((x1, x2, x3, m))
theorem e_X6_gather_7 (x1 : Int32) (x2 : Int32) (x3 : Int32) (m : fm_) : f_X6_gather_7 x1 x2 x3 m =
(Option.bind (f_X1_readingsOn x1 m) fun q1 =>
(if q1.1 ≤ x3 then
((some (0, q1.2)))
else
(Option.bind (f_X1_readingOn x1 x3 q1.2) fun q6 =>
(Option.bind (f_X1_counts q6.1 x2 q6.2) fun q9 =>
(if q9.1 = 0 then
((f_X6_gather_7 x1 x2 (x3 + 1) q9.2))
else
(if 7 ≤ (gi_ q9.2 82 9) then
((f_X6_gather_7 x1 x2 (x3 + 1) q9.2))
else
(gd_ (ix_ (gi_ q9.2 82 9) 7)
((f_X6_gather_7 x1 x2 (x3 + 1) (si_ (si_ q9.2 87 (Int32.toNatClampNeg (gi_ q9.2 82 9)) q6.1) 82 9 ((gi_ q9.2 82 9) + 1))))))))))) :=
  (am_lp_eq _ _).trans (fe_bd fun q1 => (fe_if (rfl) (fe_bd fun q6 => (fe_bd fun q9 => (fe_if (rfl) (fe_if (rfl) (fe_gd (rfl))))))))
noncomputable def f_X6_gather (p1 : Int32) (p2 : Int32) (m : fm_) : Option (Int32 × fm_) :=
  ((f_X6_gather_7 p1 p2 0 (si_ m 82 9 0)))
def sp_X6_gather : am_S := fn_sp [(18, fn_F, G_X1_readingsOn), (19, fn_F, G_X1_readingOn), (17, fn_F, G_X1_counts)]
theorem sm_X6_gather : am_Smono (sp_X6_gather) := fn_sp_mono _
def P_X6_gather (n : Nat) (r : Nat → Nat → Option Nat) (s : S_X6_gather) (q : Int32 × fm_) : Prop := match s with
  | (x1, x2, x3, m) => ∀ (Q : Option Value → am_W → Prop) (y4 : Option Value), Q (en_v q).1 (mk_ n r q.2) → am_T m_X6_gather sp_X6_gather n Q 7 [some (.ref 82), some (.int x1), some (.int x2), some (.int x3), y4] [] (mk_ n r m)
set_option maxRecDepth 100000 in
theorem t_X6_gather_7 {n : Nat} {r : Nat → Nat → Option Nat} (hf : fn_F n r) {K : S_X6_gather → Option (Int32 × fm_)} {q : Int32 × fm_} (hK : ∀ s, K s = some q → P_X6_gather n r s q) (x1 : Int32) (x2 : Int32) (x3 : Int32) (m : fm_)
  (h : am_k K (st_X6_gather ((x1, x2, x3, m))) = some q) : P_X6_gather n r ((x1, x2, x3, m)) q := fun Q y4 hQ =>
  am_T.wp sm_X6_gather (K := am_T m_X6_gather sp_X6_gather n Q) (cuts := [7]) (fun _ _ _ _ h => h) 38
    (⟨fn_aF hf rfl rfl, Or.inl ⟨_, hf.2 82 2 72 rfl, fj_bd h fun q1 e2 h3 => ⟨Nat.le_of_ble_eq_true rfl, fn_aF hf rfl rfl, ⟨hf, some (.int q1.1), q1.2, gp_X1_readingsOn (n := n) (r := r)  e2, fun _ => fj_if h3 (fun c4 h5 => ⟨rfl, fj_rt h5 hQ⟩) (fun c4 h5 => ⟨fn_aF hf rfl rfl, Or.inl ⟨_, hf.2 82 2 72 rfl, fj_bd h5 fun q6 e7 h8 => ⟨Nat.le_of_ble_eq_true rfl, fn_aF hf rfl rfl, ⟨hf, some (.int q6.1), q6.2, gp_X1_readingOn (n := n) (r := r)  e7, fun _ => ⟨fn_aF hf rfl rfl, Or.inl ⟨_, hf.2 82 2 72 rfl, fj_bd h8 fun q9 e10 h11 => ⟨Nat.le_of_ble_eq_true rfl, fn_aF hf rfl rfl, ⟨hf, some (.int q9.1), q9.2, gp_X1_counts (n := n) (r := r)  e10, fun _ => fj_if h11 (fun c12 h13 => hK _ h13 _ _ hQ) (fun c12 h13 => ⟨fn_aF hf rfl rfl, fj_if h13 (fun c14 h15 => hK _ h15 _ _ hQ) (fun c14 h15 => ⟨fn_aF hf rfl rfl, Or.inl ⟨_, hf.2 82 8 87 rfl, ⟨fn_aF hf rfl rfl, fj_gd h15 fun g17 h16 => ⟨7, fn_aF hf rfl rfl, ix_t g17, ⟨fn_aF hf rfl rfl, ⟨fn_aF hf rfl rfl, hK _ h16 _ _ hQ⟩⟩⟩⟩⟩⟩)⟩)⟩⟩⟩⟩⟩⟩⟩⟩)⟩⟩⟩⟩)
theorem l_X6_gather {n : Nat} {r : Nat → Nat → Option Nat} (hf : fn_F n r) (s : S_X6_gather) (q : Int32 × fm_) (h : am_lp (st_X6_gather) s = some q) : P_X6_gather n r s q :=
  am_lp_snd (P := P_X6_gather n r) (fun K hK s q h => match s, h with
    | (x1, x2, x3, m), h => t_X6_gather_7 hf (fun s => hK s q) x1 x2 x3 m h) s q h
set_option maxRecDepth 100000 in
theorem t_X6_gather {n : Nat} {r : Nat → Nat → Option Nat} (hf : fn_F n r) {q : Int32 × fm_} (p1 : Int32) (p2 : Int32) {m : fm_}
  (h : f_X6_gather p1 p2 m = some q) {Q : Option Value → am_W → Prop} (hQ : Q (en_v q).1 (mk_ n r q.2)) : am_T m_X6_gather sp_X6_gather n Q 0 [some (.ref 82), some (.int p1), some (.int p2), none, none] [] (mk_ n r m) :=
  am_T.wp sm_X6_gather (K := am_T m_X6_gather sp_X6_gather n Q) (cuts := [7]) (fun _ _ _ _ h => h) 7
    (⟨fn_aF hf rfl rfl, l_X6_gather hf _ _ h _ _ hQ⟩)
noncomputable def G_X6_gather (n : Nat) (r : Nat → Nat → Option Nat) (as : List Value) (m : fm_) : Option (Option Value × fm_) := match as with
  | [.ref x0, .int p1, .int p2] => gd_ (Nat.beq x0 82) ((f_X6_gather p1 p2 m).map en_v)
  | _ => none
set_option maxRecDepth 100000 in
theorem gp_X6_gather {n : Nat} {r : Nat → Nat → Option Nat}  {p1 : Int32} {p2 : Int32} {m : fm_} {q : Int32 × fm_}  (e : f_X6_gather p1 p2 m = some q) : G_X6_gather n r [.ref 82, .int p1, .int p2] m = some (en_v q) := by
  show (gd_ (Nat.beq 82 82) ((f_X6_gather p1 p2 m).map en_v)) = _
  exact fn_gd rfl (fn_mp e)
set_option maxRecDepth 100000 in
theorem ok_X6_gather : am_mok 6 71 m_X6_gather = true := by decide +kernel
set_option maxRecDepth 100000 in
theorem c_X6_gather (l : Launch) {g : am_G} (hg : fx_ l g) : am_Met l g 2 71 (fn_s fn_F G_X6_gather) := by
  refine am_sound (own := 6) (M := m_X6_gather) (SP := sp_X6_gather) hg.1 (by decide +kernel) ok_X6_gather (by decide +kernel) ?_ (fun q hq hk => absurd hk (am_no61 (M := m_X6_gather) (by decide +kernel) q hq)) (fn_ext l _ rfl g 6) (Or.inl (by decide +kernel)) ?_ ?_
  · intro q hq hk
    have hm : q.2.2.2.1 ∈ am_cs m_X6_gather := am_cs_in hq hk
    rw [show am_cs m_X6_gather = [18, 19, 17] by decide +kernel] at hm
    have hm : q.2.2.2.1 ∈ [17, 18, 19] := (List.all_eq_true.mp (show ([18, 19, 17] : List Nat).all (fun a => decide (a ∈ ([17, 18, 19] : List Nat))) = true by decide +kernel) _ hm |> of_decide_eq_true)
    simp only [List.mem_cons, List.not_mem_nil, or_false] at hm
    rcases hm with hm | hm | hm
    · rw [hm]; exact ⟨1, by omega, c_X1_counts l hg⟩
    · rw [hm]; exact ⟨1, by omega, c_X1_readingsOn l hg⟩
    · rw [hm]; exact ⟨1, by omega, c_X1_readingOn l hg⟩
  · intro as w K h
    obtain ⟨hf, y, m1, hG, hK⟩ := h
    unfold G_X6_gather at hG
    split at hG
    · exact Nat.le_of_ble_eq_true rfl
    · cases hG
  · intro as w K h
    obtain ⟨n, i0, l0, r⟩ := w
    obtain ⟨hf, y, m1, hG, hK⟩ := h
    unfold G_X6_gather at hG
    split at hG
    · next x0 p1 p2 =>
      obtain ⟨hx1, hG1⟩ := gd_u hG
      obtain rfl := Nat.eq_of_beq_eq_true hx1
      obtain ⟨q, hq, he⟩ := fn_mu hG1
      obtain ⟨rfl, rfl⟩ := Prod.mk.inj he
      exact t_X6_gather  hf  p1 p2 (m := (i0, l0)) hq hK
    · cases hG

/-! == X6_minuteOf == -/
noncomputable def f_X6_minuteOf (p1 : Int32) (m : fm_) : Option (Int32 × fm_) :=
  (gd_ (ix_ p1 200)
((some ((gi_ m 78 (Int32.toNatClampNeg p1)), m))))
def sp_X6_minuteOf : am_S := fn_sp []
theorem sm_X6_minuteOf : am_Smono (sp_X6_minuteOf) := fn_sp_mono _
set_option maxRecDepth 100000 in
theorem t_X6_minuteOf {n : Nat} {r : Nat → Nat → Option Nat} (hf : fn_F n r) {q : Int32 × fm_} (p1 : Int32) {m : fm_}
  (h : f_X6_minuteOf p1 m = some q) {Q : Option Value → am_W → Prop} (hQ : Q (en_i q).1 (mk_ n r q.2)) : am_T m_X6_minuteOf sp_X6_minuteOf n Q 0 [some (.ref 82), some (.int p1)] [] (mk_ n r m) :=
  am_T.wp sm_X6_minuteOf (K := am_T m_X6_minuteOf sp_X6_minuteOf n Q) (cuts := []) (fun _ _ _ _ h => h) 7
    (⟨fn_aF hf rfl rfl, Or.inl ⟨_, hf.2 82 2 72 rfl, ⟨fn_aF hf rfl rfl, Or.inl ⟨_, hf.2 72 5 78 rfl, fh_gd h fun g2 h1 => ⟨200, fn_aF hf rfl rfl, ix_t g2, ⟨rfl, fh_rt h1 hQ⟩⟩⟩⟩⟩⟩)
noncomputable def G_X6_minuteOf (n : Nat) (r : Nat → Nat → Option Nat) (as : List Value) (m : fm_) : Option (Option Value × fm_) := match as with
  | [.ref x0, .int p1] => gd_ (Nat.beq x0 82) ((f_X6_minuteOf p1 m).map en_i)
  | _ => none
set_option maxRecDepth 100000 in
theorem gp_X6_minuteOf {n : Nat} {r : Nat → Nat → Option Nat}  {p1 : Int32} {m : fm_} {q : Int32 × fm_}  (e : f_X6_minuteOf p1 m = some q) : G_X6_minuteOf n r [.ref 82, .int p1] m = some (en_i q) := by
  show (gd_ (Nat.beq 82 82) ((f_X6_minuteOf p1 m).map en_i)) = _
  exact fn_gd rfl (fn_mp e)
set_option maxRecDepth 100000 in
theorem ok_X6_minuteOf : am_mok 6 81 m_X6_minuteOf = true := by decide +kernel
set_option maxRecDepth 100000 in
theorem c_X6_minuteOf (l : Launch) {g : am_G} (hg : fx_ l g) : am_Met l g 0 81 (fn_s fn_F G_X6_minuteOf) := by
  refine am_sound (own := 6) (M := m_X6_minuteOf) (SP := sp_X6_minuteOf) hg.1 (by decide +kernel) ok_X6_minuteOf (by decide +kernel) ?_ (fun q hq hk => absurd hk (am_no61 (M := m_X6_minuteOf) (by decide +kernel) q hq)) (fn_ext l _ rfl g 6) (Or.inl (by decide +kernel)) ?_ ?_
  · intro q hq hk
    have hm : q.2.2.2.1 ∈ am_cs m_X6_minuteOf := am_cs_in hq hk
    rw [show am_cs m_X6_minuteOf = [] by decide +kernel] at hm
    cases hm
  · intro as w K h
    obtain ⟨hf, y, m1, hG, hK⟩ := h
    unfold G_X6_minuteOf at hG
    split at hG
    · exact Nat.le_of_ble_eq_true rfl
    · cases hG
  · intro as w K h
    obtain ⟨n, i0, l0, r⟩ := w
    obtain ⟨hf, y, m1, hG, hK⟩ := h
    unfold G_X6_minuteOf at hG
    split at hG
    · next x0 p1 =>
      obtain ⟨hx1, hG1⟩ := gd_u hG
      obtain rfl := Nat.eq_of_beq_eq_true hx1
      obtain ⟨q, hq, he⟩ := fn_mu hG1
      obtain ⟨rfl, rfl⟩ := Prod.mk.inj he
      exact t_X6_minuteOf  hf  p1 (m := (i0, l0)) hq hK
    · cases hG

/-! == X6_pointOf == -/
noncomputable def f_X6_pointOf (p1 : Int32) (m : fm_) : Option (Int32 × fm_) :=
  (Option.bind (f_X1_isReading p1 m) fun q1 =>
(if q1.1 = 0 then
((some ((-1), q1.2)))
else
(gd_ (ix_ p1 200)
(Option.bind (f_X9_pointOf (gi_ q1.2 76 (Int32.toNatClampNeg p1)) q1.2) fun q8 =>
((some (q8.1, q8.2)))))))
def sp_X6_pointOf : am_S := fn_sp [(16, fn_F, G_X1_isReading), (125, fn_F, G_X9_pointOf)]
theorem sm_X6_pointOf : am_Smono (sp_X6_pointOf) := fn_sp_mono _
set_option maxRecDepth 100000 in
theorem t_X6_pointOf {n : Nat} {r : Nat → Nat → Option Nat} (hf : fn_F n r) {q : Int32 × fm_} (p1 : Int32) {m : fm_}
  (h : f_X6_pointOf p1 m = some q) {Q : Option Value → am_W → Prop} (hQ : Q (en_i q).1 (mk_ n r q.2)) : am_T m_X6_pointOf sp_X6_pointOf n Q 0 [some (.ref 82), some (.int p1)] [] (mk_ n r m) :=
  am_T.wp sm_X6_pointOf (K := am_T m_X6_pointOf sp_X6_pointOf n Q) (cuts := []) (fun _ _ _ _ h => h) 16
    (⟨fn_aF hf rfl rfl, Or.inl ⟨_, hf.2 82 2 72 rfl, fh_bd h fun q1 e2 h3 => ⟨Nat.le_of_ble_eq_true rfl, fn_aF hf rfl rfl, ⟨hf, some (.int q1.1), q1.2, gp_X1_isReading (n := n) (r := r)  e2, fun _ => fh_if h3 (fun c4 h5 => ⟨rfl, fh_rt h5 hQ⟩) (fun c4 h5 => ⟨fn_aF hf rfl rfl, Or.inl ⟨_, hf.2 82 0 6 rfl, ⟨fn_aF hf rfl rfl, Or.inl ⟨_, hf.2 82 2 72 rfl, ⟨fn_aF hf rfl rfl, Or.inl ⟨_, hf.2 72 3 76 rfl, fh_gd h5 fun g7 h6 => ⟨200, fn_aF hf rfl rfl, ix_t g7, fh_bd h6 fun q8 e9 h10 => ⟨Nat.le_of_ble_eq_true rfl, fn_aF hf rfl rfl, ⟨hf, some (.int q8.1), q8.2, gp_X9_pointOf (n := n) (r := r)  e9, fun _ => ⟨rfl, fh_rt h10 hQ⟩⟩⟩⟩⟩⟩⟩⟩⟩⟩)⟩⟩⟩⟩)
noncomputable def G_X6_pointOf (n : Nat) (r : Nat → Nat → Option Nat) (as : List Value) (m : fm_) : Option (Option Value × fm_) := match as with
  | [.ref x0, .int p1] => gd_ (Nat.beq x0 82) ((f_X6_pointOf p1 m).map en_i)
  | _ => none
set_option maxRecDepth 100000 in
theorem gp_X6_pointOf {n : Nat} {r : Nat → Nat → Option Nat}  {p1 : Int32} {m : fm_} {q : Int32 × fm_}  (e : f_X6_pointOf p1 m = some q) : G_X6_pointOf n r [.ref 82, .int p1] m = some (en_i q) := by
  show (gd_ (Nat.beq 82 82) ((f_X6_pointOf p1 m).map en_i)) = _
  exact fn_gd rfl (fn_mp e)
set_option maxRecDepth 100000 in
theorem ok_X6_pointOf : am_mok 6 68 m_X6_pointOf = true := by decide +kernel
set_option maxRecDepth 100000 in
theorem c_X6_pointOf (l : Launch) {g : am_G} (hg : fx_ l g) : am_Met l g 1 68 (fn_s fn_F G_X6_pointOf) := by
  refine am_sound (own := 6) (M := m_X6_pointOf) (SP := sp_X6_pointOf) hg.1 (by decide +kernel) ok_X6_pointOf (by decide +kernel) ?_ (fun q hq hk => absurd hk (am_no61 (M := m_X6_pointOf) (by decide +kernel) q hq)) (fn_ext l _ rfl g 6) (Or.inl (by decide +kernel)) ?_ ?_
  · intro q hq hk
    have hm : q.2.2.2.1 ∈ am_cs m_X6_pointOf := am_cs_in hq hk
    rw [show am_cs m_X6_pointOf = [16, 125] by decide +kernel] at hm
    have hm : q.2.2.2.1 ∈ [16, 125] := (List.all_eq_true.mp (show ([16, 125] : List Nat).all (fun a => decide (a ∈ ([16, 125] : List Nat))) = true by decide +kernel) _ hm |> of_decide_eq_true)
    simp only [List.mem_cons, List.not_mem_nil, or_false] at hm
    rcases hm with hm | hm
    · rw [hm]; exact ⟨0, by omega, c_X1_isReading l hg⟩
    · rw [hm]; exact ⟨0, by omega, c_X9_pointOf l hg⟩
  · intro as w K h
    obtain ⟨hf, y, m1, hG, hK⟩ := h
    unfold G_X6_pointOf at hG
    split at hG
    · exact Nat.le_of_ble_eq_true rfl
    · cases hG
  · intro as w K h
    obtain ⟨n, i0, l0, r⟩ := w
    obtain ⟨hf, y, m1, hG, hK⟩ := h
    unfold G_X6_pointOf at hG
    split at hG
    · next x0 p1 =>
      obtain ⟨hx1, hG1⟩ := gd_u hG
      obtain rfl := Nat.eq_of_beq_eq_true hx1
      obtain ⟨q, hq, he⟩ := fn_mu hG1
      obtain ⟨rfl, rfl⟩ := Prod.mk.inj he
      exact t_X6_pointOf  hf  p1 (m := (i0, l0)) hq hK
    · cases hG

/-! == X6_canBeOne == -/
noncomputable def f_X6_canBeOne (p1 : Int32) (p2 : Int32) (m : fm_) : Option (Int32 × fm_) :=
  (Option.bind (f_X6_minuteOf p1 m) fun q1 =>
(Option.bind (f_X6_minuteOf p2 q1.2) fun q4 =>
(Option.bind (f_X6_pointOf p1 q4.2) fun q7 =>
(Option.bind (f_X6_pointOf p2 q7.2) fun q10 =>
(Option.bind (f_X9_near q7.1 q10.1 q10.2) fun q13 =>
(if (ab_ (q1.1 - q4.1)) < q13.1 then
((some (0, q13.2)))
else
((some (1, q13.2)))))))))
def sp_X6_canBeOne : am_S := fn_sp [(81, fn_F, G_X6_minuteOf), (68, fn_F, G_X6_pointOf), (118, fn_T, G_X9_near)]
theorem sm_X6_canBeOne : am_Smono (sp_X6_canBeOne) := fn_sp_mono _
set_option maxRecDepth 100000 in
theorem t_X6_canBeOne {n : Nat} {r : Nat → Nat → Option Nat} (hf : fn_F n r) {q : Int32 × fm_} (p1 : Int32) (p2 : Int32) {m : fm_}
  (h : f_X6_canBeOne p1 p2 m = some q) {Q : Option Value → am_W → Prop} (hQ : Q (en_i q).1 (mk_ n r q.2)) : am_T m_X6_canBeOne sp_X6_canBeOne n Q 0 [some (.ref 82), some (.int p1), some (.int p2)] [] (mk_ n r m) :=
  am_T.wp sm_X6_canBeOne (K := am_T m_X6_canBeOne sp_X6_canBeOne n Q) (cuts := []) (fun _ _ _ _ h => h) 22
    (fh_bd h fun q1 e2 h3 => ⟨Nat.le_of_ble_eq_true rfl, fn_aF hf rfl rfl, ⟨hf, some (.int q1.1), q1.2, gp_X6_minuteOf (n := n) (r := r)  e2, fun _ => fh_bd h3 fun q4 e5 h6 => ⟨Nat.le_of_ble_eq_true rfl, fn_aF hf rfl rfl, ⟨hf, some (.int q4.1), q4.2, gp_X6_minuteOf (n := n) (r := r)  e5, fun _ => ⟨Nat.le_of_ble_eq_true rfl, ⟨fn_aF hf rfl rfl, Or.inl ⟨_, hf.2 82 0 6 rfl, fh_bd h6 fun q7 e8 h9 => ⟨Nat.le_of_ble_eq_true rfl, fn_aF hf rfl rfl, ⟨hf, some (.int q7.1), q7.2, gp_X6_pointOf (n := n) (r := r)  e8, fun _ => fh_bd h9 fun q10 e11 h12 => ⟨Nat.le_of_ble_eq_true rfl, fn_aF hf rfl rfl, ⟨hf, some (.int q10.1), q10.2, gp_X6_pointOf (n := n) (r := r)  e11, fun _ => fh_bd h12 fun q13 e14 h15 => ⟨Nat.le_of_ble_eq_true rfl, fn_aF hf rfl rfl, ⟨fn_FT hf, some (.int q13.1), q13.2, gp_X9_near (n := n) (r := r)  e14, fun _ => fh_if h15 (fun c16 h17 => ⟨rfl, Or.inl rfl, fh_rt h17 hQ⟩) (fun c16 h17 => ⟨rfl, Or.inr rfl, fh_rt h17 hQ⟩)⟩⟩⟩⟩⟩⟩⟩⟩⟩⟩⟩⟩⟩)
noncomputable def G_X6_canBeOne (n : Nat) (r : Nat → Nat → Option Nat) (as : List Value) (m : fm_) : Option (Option Value × fm_) := match as with
  | [.ref x0, .int p1, .int p2] => gd_ (Nat.beq x0 82) ((f_X6_canBeOne p1 p2 m).map en_i)
  | _ => none
set_option maxRecDepth 100000 in
theorem gp_X6_canBeOne {n : Nat} {r : Nat → Nat → Option Nat}  {p1 : Int32} {p2 : Int32} {m : fm_} {q : Int32 × fm_}  (e : f_X6_canBeOne p1 p2 m = some q) : G_X6_canBeOne n r [.ref 82, .int p1, .int p2] m = some (en_i q) := by
  show (gd_ (Nat.beq 82 82) ((f_X6_canBeOne p1 p2 m).map en_i)) = _
  exact fn_gd rfl (fn_mp e)
set_option maxRecDepth 100000 in
theorem ok_X6_canBeOne : am_mok 6 80 m_X6_canBeOne = true := by decide +kernel
set_option maxRecDepth 100000 in
theorem c_X6_canBeOne (l : Launch) {g : am_G} (hg : fx_ l g) : am_Met l g 2 80 (fn_s fn_F G_X6_canBeOne) := by
  refine am_sound (own := 6) (M := m_X6_canBeOne) (SP := sp_X6_canBeOne) hg.1 (by decide +kernel) ok_X6_canBeOne (by decide +kernel) ?_ (fun q hq hk => absurd hk (am_no61 (M := m_X6_canBeOne) (by decide +kernel) q hq)) (fn_ext l _ rfl g 6) (Or.inl (by decide +kernel)) ?_ ?_
  · intro q hq hk
    have hm : q.2.2.2.1 ∈ am_cs m_X6_canBeOne := am_cs_in hq hk
    rw [show am_cs m_X6_canBeOne = [81, 81, 68, 68, 118] by decide +kernel] at hm
    have hm : q.2.2.2.1 ∈ [68, 81, 118] := (List.all_eq_true.mp (show ([81, 81, 68, 68, 118] : List Nat).all (fun a => decide (a ∈ ([68, 81, 118] : List Nat))) = true by decide +kernel) _ hm |> of_decide_eq_true)
    simp only [List.mem_cons, List.not_mem_nil, or_false] at hm
    rcases hm with hm | hm | hm
    · rw [hm]; exact ⟨1, by omega, c_X6_pointOf l hg⟩
    · rw [hm]; exact ⟨0, by omega, c_X6_minuteOf l hg⟩
    · rw [hm]; exact ⟨1, by omega, c_X9_near l hg⟩
  · intro as w K h
    obtain ⟨hf, y, m1, hG, hK⟩ := h
    unfold G_X6_canBeOne at hG
    split at hG
    · exact Nat.le_of_ble_eq_true rfl
    · cases hG
  · intro as w K h
    obtain ⟨n, i0, l0, r⟩ := w
    obtain ⟨hf, y, m1, hG, hK⟩ := h
    unfold G_X6_canBeOne at hG
    split at hG
    · next x0 p1 p2 =>
      obtain ⟨hx1, hG1⟩ := gd_u hG
      obtain rfl := Nat.eq_of_beq_eq_true hx1
      obtain ⟨q, hq, he⟩ := fn_mu hG1
      obtain ⟨rfl, rfl⟩ := Prod.mk.inj he
      exact t_X6_canBeOne  hf  p1 p2 (m := (i0, l0)) hq hK
    · cases hG

