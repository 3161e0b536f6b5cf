/-! == X6_settle == -/
abbrev S_X6_settle : Type := (Int32 × Int32 × Int32 × Int32 × fm_) ⊕ (Int32 × Int32 × Int32 × Int32 × fm_)
noncomputable def st_X6_settle (s : S_X6_settle) : Option (S_X6_settle ⊕ (Int32 × fm_)) := match s with
  | Sum.inl ((x1, x2, x3, x4, m)) =>
    (Option.bind (f_X1_readingsOn x1 m) fun q1 =>
(if q1.1 ≤ x4 then
((some (Sum.inl (Sum.inr ((x1, x2, x3, ((gi_ q1.2 82 9) - 1), q1.2))))))
else
(Option.bind (f_X1_readingOn x1 x4 q1.2) fun q6 =>
(gd_ (ix_ q6.1 200)
((some (Sum.inl (Sum.inl ((x1, x2, x3, (x4 + 1), (si_ q6.2 86 (Int32.toNatClampNeg q6.1) (-1))))))))))))
  | Sum.inr ((x1, x2, x3, x4, m)) =>
    (if x4 < 0 then
((some (Sum.inr (0, m))))
else
(gd_ (ix_ x4 7)
(if (x3 - x3 / 11 * 11) = 10 then
(gd_ (ix_ (gi_ m 87 (Int32.toNatClampNeg x4)) 200)
((some (Sum.inl (Sum.inr ((x1, x2, (x3 / 11), (x4 + (-1)), (si_ m 86 (Int32.toNatClampNeg (gi_ m 87 (Int32.toNatClampNeg x4))) (-1)))))))))
else
(gd_ (ix_ (gi_ m 87 (Int32.toNatClampNeg x4)) 200)
((some (Sum.inl (Sum.inr ((x1, x2, (x3 / 11), (x4 + (-1)), (si_ m 86 (Int32.toNatClampNeg (gi_ m 87 (Int32.toNatClampNeg x4))) (x3 - x3 / 11 * 11))))))))))))
noncomputable def f_X6_settle_32 (x1 : Int32) (x2 : Int32) (x3 : Int32) (x4 : Int32) (m : fm_) : Option (Int32 × fm_) := am_lp (st_X6_settle) (Sum.inl ((x1, x2, x3, x4, m)))
noncomputable def f_X6_settle_75 (x1 : Int32) (x2 : Int32) (x3 : Int32) (x4 : Int32) (m : fm_) : Option (Int32 × fm_) := am_lp (st_X6_settle) (Sum.inr ((x1, x2, x3, x4, m)))
theorem e_X6_settle_32 (x1 : Int32) (x2 : Int32) (x3 : Int32) (x4 : Int32) (m : fm_) : f_X6_settle_32 x1 x2 x3 x4 m =
(Option.bind (f_X1_readingsOn x1 m) fun q1 =>
(if q1.1 ≤ x4 then
((f_X6_settle_75 x1 x2 x3 ((gi_ q1.2 82 9) - 1) q1.2))
else
(Option.bind (f_X1_readingOn x1 x4 q1.2) fun q6 =>
(gd_ (ix_ q6.1 200)
((f_X6_settle_32 x1 x2 x3 (x4 + 1) (si_ q6.2 86 (Int32.toNatClampNeg q6.1) (-1)))))))) :=
  (am_lp_eq _ _).trans (fe_bd fun q1 => (fe_if (rfl) (fe_bd fun q6 => (fe_gd (rfl)))))
theorem e_X6_settle_75 (x1 : Int32) (x2 : Int32) (x3 : Int32) (x4 : Int32) (m : fm_) : f_X6_settle_75 x1 x2 x3 x4 m =
(if x4 < 0 then
((some (0, m)))
else
(gd_ (ix_ x4 7)
(if (x3 - x3 / 11 * 11) = 10 then
(gd_ (ix_ (gi_ m 87 (Int32.toNatClampNeg x4)) 200)
((f_X6_settle_75 x1 x2 (x3 / 11) (x4 + (-1)) (si_ m 86 (Int32.toNatClampNeg (gi_ m 87 (Int32.toNatClampNeg x4))) (-1)))))
else
(gd_ (ix_ (gi_ m 87 (Int32.toNatClampNeg x4)) 200)
((f_X6_settle_75 x1 x2 (x3 / 11) (x4 + (-1)) (si_ m 86 (Int32.toNatClampNeg (gi_ m 87 (Int32.toNatClampNeg x4))) (x3 - x3 / 11 * 11)))))))) :=
  (am_lp_eq _ _).trans (fe_if (rfl) (fe_gd (fe_if (fe_gd (rfl)) (fe_gd (rfl)))))
noncomputable def f_X6_settle (p1 : Int32) (m : fm_) : Option (Int32 × fm_) :=
  (gd_ (ix_ ((1 <<< ((gi_ m 82 9) &&& 31)) - 1) 128)
(gd_ (ix_ p1 100)
((f_X6_settle_32 p1 (gi_ m 90 (Int32.toNatClampNeg ((1 <<< ((gi_ m 82 9) &&& 31)) - 1))) ((gi_ m 90 (Int32.toNatClampNeg ((1 <<< ((gi_ m 82 9) &&& 31)) - 1))) - (gi_ m 90 (Int32.toNatClampNeg ((1 <<< ((gi_ m 82 9) &&& 31)) - 1))) / 19487171 * 19487171) 0 (si_ m 85 (Int32.toNatClampNeg p1) ((gi_ m 90 (Int32.toNatClampNeg ((1 <<< ((gi_ m 82 9) &&& 31)) - 1))) / 19487171))))))
def sp_X6_settle : am_S := fn_sp [(18, fn_F, G_X1_readingsOn), (19, fn_F, G_X1_readingOn)]
theorem sm_X6_settle : am_Smono (sp_X6_settle) := fn_sp_mono _
def P_X6_settle (n : Nat) (r : Nat → Nat → Option Nat) (s : S_X6_settle) (q : Int32 × fm_) : Prop := match s with
  | Sum.inl ((x1, x2, x3, x4, m)) => ∀ (Q : Option Value → am_W → Prop), Q (en_v q).1 (mk_ n r q.2) → am_T m_X6_settle sp_X6_settle n Q 32 [some (.ref 82), some (.int x1), some (.int x2), some (.int x3), some (.int x4), none] [] (mk_ n r m)
  | Sum.inr ((x1, x2, x3, x4, m)) => ∀ (Q : Option Value → am_W → Prop) (y5 : Option Value), Q (en_v q).1 (mk_ n r q.2) → am_T m_X6_settle sp_X6_settle n Q 75 [some (.ref 82), some (.int x1), some (.int x2), some (.int x3), some (.int x4), y5] [] (mk_ n r m)
set_option maxRecDepth 100000 in
theorem t_X6_settle_32 {n : Nat} {r : Nat → Nat → Option Nat} (hf : fn_F n r) {K : S_X6_settle → Option (Int32 × fm_)} {q : Int32 × fm_} (hK : ∀ s, K s = some q → P_X6_settle n r s q) (x1 : Int32) (x2 : Int32) (x3 : Int32) (x4 : Int32) (m : fm_)
  (h : am_k K (st_X6_settle (Sum.inl ((x1, x2, x3, x4, m)))) = some q) : P_X6_settle n r (Sum.inl ((x1, x2, x3, x4, m))) q := fun Q hQ =>
  am_T.wp sm_X6_settle (K := am_T m_X6_settle sp_X6_settle n Q) (cuts := [32, 75]) (fun _ _ _ _ h => h) 19
    (⟨fn_aF hf rfl rfl, Or.inl ⟨_, hf.2 82 2 72 rfl, fj_bd h fun q1 e2 h3 => ⟨Nat.le_of_ble_eq_true rfl, fn_aF hf rfl rfl, ⟨hf, some (.int q1.1), q1.2, gp_X1_readingsOn (n := n) (r := r)  e2, fun _ => fj_if h3 (fun c4 h5 => ⟨fn_aF hf rfl rfl, hK _ h5 _ _ hQ⟩) (fun c4 h5 => ⟨fn_aF hf rfl rfl, Or.inl ⟨_, hf.2 82 7 86 rfl, ⟨fn_aF hf rfl rfl, Or.inl ⟨_, hf.2 82 2 72 rfl, fj_bd h5 fun q6 e7 h8 => ⟨Nat.le_of_ble_eq_true rfl, fn_aF hf rfl rfl, ⟨hf, some (.int q6.1), q6.2, gp_X1_readingOn (n := n) (r := r)  e7, fun _ => fj_gd h8 fun g10 h9 => ⟨200, fn_aF hf rfl rfl, ix_t g10, hK _ h9 _ hQ⟩⟩⟩⟩⟩⟩⟩)⟩⟩⟩⟩)
set_option maxRecDepth 100000 in
theorem t_X6_settle_75 {n : Nat} {r : Nat → Nat → Option Nat} (hf : fn_F n r) {K : S_X6_settle → Option (Int32 × fm_)} {q : Int32 × fm_} (hK : ∀ s, K s = some q → P_X6_settle n r s q) (x1 : Int32) (x2 : Int32) (x3 : Int32) (x4 : Int32) (m : fm_)
  (h : am_k K (st_X6_settle (Sum.inr ((x1, x2, x3, x4, m)))) = some q) : P_X6_settle n r (Sum.inr ((x1, x2, x3, x4, m))) q := fun Q y5 hQ =>
  am_T.wp sm_X6_settle (K := am_T m_X6_settle sp_X6_settle n Q) (cuts := [32, 75]) (fun _ _ _ _ h => h) 26
    (fj_if h (fun c1 h2 => ⟨rfl, fj_rt h2 hQ⟩) (fun c1 h2 => ⟨by decide, ⟨fn_aF hf rfl rfl, Or.inl ⟨_, hf.2 82 7 86 rfl, ⟨fn_aF hf rfl rfl, Or.inl ⟨_, hf.2 82 8 87 rfl, fj_gd h2 fun g4 h3 => ⟨7, fn_aF hf rfl rfl, ix_t g4, fj_in h3 (fun c5 h6 => fj_gd h6 fun g8 h7 => ⟨200, fn_aF hf rfl rfl, ix_t g8, ⟨by decide, hK _ h7 _ _ hQ⟩⟩) (fun c5 h6 => fj_gd h6 fun g10 h9 => ⟨200, fn_aF hf rfl rfl, ix_t g10, ⟨by decide, hK _ h9 _ _ hQ⟩⟩)⟩⟩⟩⟩⟩⟩))
theorem l_X6_settle {n : Nat} {r : Nat → Nat → Option Nat} (hf : fn_F n r) (s : S_X6_settle) (q : Int32 × fm_) (h : am_lp (st_X6_settle) s = some q) : P_X6_settle n r s q :=
  am_lp_snd (P := P_X6_settle n r) (fun K hK s q h => match s, h with
    | Sum.inl ((x1, x2, x3, x4, m)), h => t_X6_settle_32 hf (fun s => hK s q) x1 x2 x3 x4 m h
    | Sum.inr ((x1, x2, x3, x4, m)), h => t_X6_settle_75 hf (fun s => hK s q) x1 x2 x3 x4 m h) s q h
set_option maxRecDepth 100000 in
theorem t_X6_settle {n : Nat} {r : Nat → Nat → Option Nat} (hf : fn_F n r) {q : Int32 × fm_} (p1 : Int32) {m : fm_}
  (h : f_X6_settle p1 m = some q) {Q : Option Value → am_W → Prop} (hQ : Q (en_v q).1 (mk_ n r q.2)) : am_T m_X6_settle sp_X6_settle n Q 0 [some (.ref 82), some (.int p1), none, none, none, none] [] (mk_ n r m) :=
  am_T.wp sm_X6_settle (K := am_T m_X6_settle sp_X6_settle n Q) (cuts := [32, 75]) (fun _ _ _ _ h => h) 25
    (⟨fn_aF hf rfl rfl, Or.inl ⟨_, hf.2 82 12 90 rfl, ⟨fn_aF hf rfl rfl, fh_gd h fun g2 h1 => ⟨128, fn_aF hf rfl rfl, ix_t g2, ⟨fn_aF hf rfl rfl, Or.inl ⟨_, hf.2 82 6 85 rfl, ⟨by decide, fh_gd h1 fun g4 h3 => ⟨100, fn_aF hf rfl rfl, ix_t g4, ⟨by decide, l_X6_settle hf _ _ h3 _ hQ⟩⟩⟩⟩⟩⟩⟩⟩⟩)
noncomputable def G_X6_settle (n : Nat) (r : Nat → Nat → Option Nat) (as : List Value) (m : fm_) : Option (Option Value × fm_) := match as with
  | [.ref x0, .int p1] => gd_ (Nat.beq x0 82) ((f_X6_settle p1 m).map en_v)
  | _ => none
set_option maxRecDepth 100000 in
theorem gp_X6_settle {n : Nat} {r : Nat → Nat → Option Nat}  {p1 : Int32} {m : fm_} {q : Int32 × fm_}  (e : f_X6_settle p1 m = some q) : G_X6_settle n r [.ref 82, .int p1] m = some (en_v q) := by
  show (gd_ (Nat.beq 82 82) ((f_X6_settle p1 m).map en_v)) = _
  exact fn_gd rfl (fn_mp e)
set_option maxRecDepth 100000 in
theorem ok_X6_settle : am_mok 6 78 m_X6_settle = true := by decide +kernel
set_option maxRecDepth 100000 in
theorem c_X6_settle (l : Launch) {g : am_G} (hg : fx_ l g) : am_Met l g 2 78 (fn_s fn_F G_X6_settle) := by
  refine am_sound (own := 6) (M := m_X6_settle) (SP := sp_X6_settle) hg.1 (by decide +kernel) ok_X6_settle (by decide +kernel) ?_ (fun q hq hk => absurd hk (am_no61 (M := m_X6_settle) (by decide +kernel) q hq)) (fn_ext l _ rfl g 6) (Or.inl (by decide +kernel)) ?_ ?_
  · intro q hq hk
    have hm : q.2.2.2.1 ∈ am_cs m_X6_settle := am_cs_in hq hk
    rw [show am_cs m_X6_settle = [18, 19] by decide +kernel] at hm
    have hm : q.2.2.2.1 ∈ [18, 19] := (List.all_eq_true.mp (show ([18, 19] : List Nat).all (fun a => decide (a ∈ ([18, 19] : List Nat))) = true by decide +kernel) _ hm |> of_decide_eq_true)
    simp only [List.mem_cons, List.not_mem_nil, or_false] at hm
    rcases hm with hm | hm
    · rw [hm]; exact ⟨1, by omega, c_X1_readingsOn l hg⟩
    · rw [hm]; exact ⟨1, by omega, c_X1_readingOn l hg⟩
  · intro as w K h
    obtain ⟨hf, y, m1, hG, hK⟩ := h
    unfold G_X6_settle at hG
    split at hG
    · exact Nat.le_of_ble_eq_true rfl
    · cases hG
  · intro as w K h
    obtain ⟨n, i0, l0, r⟩ := w
    obtain ⟨hf, y, m1, hG, hK⟩ := h
    unfold G_X6_settle at hG
    split at hG
    · next x0 p1 =>
      obtain ⟨hx1, hG1⟩ := gd_u hG
      obtain rfl := Nat.eq_of_beq_eq_true hx1
      obtain ⟨q, hq, he⟩ := fn_mu hG1
      obtain ⟨rfl, rfl⟩ := Prod.mk.inj he
      exact t_X6_settle  hf  p1 (m := (i0, l0)) hq hK
    · cases hG

/-! == X6_choose == -/
abbrev S_X6_choose : Type := (Int32 × Int32 × Int32 × fm_)
noncomputable def st_X6_choose (s : S_X6_choose) : Option (S_X6_choose ⊕ (Int32 × fm_)) := match s with
  | (x1, x2, x3, m) =>
    (if (gi_ m 69 2) ≤ x3 then
(Option.bind (f_X6_settle x1 m) fun q3 =>
((some (Sum.inr (0, q3.2)))))
else
(Option.bind (f_X6_offer x3 m) fun q6 =>
((some (Sum.inl ((x1, x2, (x3 + 1), q6.2)))))))
noncomputable def f_X6_choose_64 (x1 : Int32) (x2 : Int32) (x3 : Int32) (m : fm_) : Option (Int32 × fm_) := am_lp (st_X6_choose) ((x1, x2, x3, m))
theorem e_X6_choose_64 (x1 : Int32) (x2 : Int32) (x3 : Int32) (m : fm_) : f_X6_choose_64 x1 x2 x3 m =
(if (gi_ m 69 2) ≤ x3 then
(Option.bind (f_X6_settle x1 m) fun q3 =>
((some (0, q3.2))))
else
(Option.bind (f_X6_offer x3 m) fun q6 =>
((f_X6_choose_64 x1 x2 (x3 + 1) q6.2)))) :=
  (am_lp_eq _ _).trans (fe_if (fe_bd fun q3 => (rfl)) (fe_bd fun q6 => (rfl)))
noncomputable def f_X6_choose (p1 : Int32) (p2 : Int32) (m : fm_) : Option (Int32 × fm_) :=
  (Option.bind (f_X11_isDay p1 m) fun q1 =>
(if q1.1 = 0 then
((some (0, q1.2)))
else
(gd_ (ix_ p1 100)
(if (gi_ q1.2 83 (Int32.toNatClampNeg p1)) = (gi_ q1.2 82 3) then
(gd_ (ix_ p1 100)
(if (gi_ q1.2 84 (Int32.toNatClampNeg p1)) = p2 then
((some (0, q1.2)))
else
(gd_ (ix_ p1 100)
(gd_ (ix_ p1 100)
(Option.bind (f_X6_gather p1 p2 (si_ (si_ q1.2 83 (Int32.toNatClampNeg p1) (gi_ q1.2 82 3)) 84 (Int32.toNatClampNeg p1) p2)) fun q31 =>
(Option.bind (f_X6_markSetsByOne q31.2) fun q34 =>
(Option.bind (f_X6_giveAllToNobody q34.2) fun q37 =>
((f_X6_choose_64 p1 p2 0 q37.2)))))))))
else
(gd_ (ix_ p1 100)
(gd_ (ix_ p1 100)
(Option.bind (f_X6_gather p1 p2 (si_ (si_ q1.2 83 (Int32.toNatClampNeg p1) (gi_ q1.2 82 3)) 84 (Int32.toNatClampNeg p1) p2)) fun q14 =>
(Option.bind (f_X6_markSetsByOne q14.2) fun q17 =>
(Option.bind (f_X6_giveAllToNobody q17.2) fun q20 =>
((f_X6_choose_64 p1 p2 0 q20.2)))))))))))
def sp_X6_choose : am_S := fn_sp [(181, fn_0, G_X11_isDay), (71, fn_F, G_X6_gather), (73, fn_F, G_X6_markSetsByOne), (74, fn_F, G_X6_giveAllToNobody), (75, fn_F, G_X6_offer), (78, fn_F, G_X6_settle)]
theorem sm_X6_choose : am_Smono (sp_X6_choose) := fn_sp_mono _
def P_X6_choose (n : Nat) (r : Nat → Nat → Option Nat) (s : S_X6_choose) (q : Int32 × fm_) : Prop := match s with
  | (x1, x2, x3, m) => ∀ (Q : Option Value → am_W → Prop), Q (en_v q).1 (mk_ n r q.2) → am_T m_X6_choose sp_X6_choose n Q 64 [some (.ref 82), some (.int x1), some (.int x2), some (.int x3)] [] (mk_ n r m)
set_option maxRecDepth 100000 in
theorem t_X6_choose_64 {n : Nat} {r : Nat → Nat → Option Nat} (hf : fn_F n r) {K : S_X6_choose → Option (Int32 × fm_)} {q : Int32 × fm_} (hK : ∀ s, K s = some q → P_X6_choose n r s q) (x1 : Int32) (x2 : Int32) (x3 : Int32) (m : fm_)
  (h : am_k K (st_X6_choose ((x1, x2, x3, m))) = some q) : P_X6_choose n r ((x1, x2, x3, m)) q := fun Q hQ =>
  am_T.wp sm_X6_choose (K := am_T m_X6_choose sp_X6_choose n Q) (cuts := [64]) (fun _ _ _ _ h => h) 12
    (⟨fn_aF hf rfl rfl, Or.inl ⟨_, hf.2 82 1 69 rfl, ⟨fn_aF hf rfl rfl, fj_if h (fun c1 h2 => fj_bd h2 fun q3 e4 h5 => ⟨Nat.le_of_ble_eq_true rfl, fn_aF hf rfl rfl, ⟨hf, none, q3.2, gp_X6_settle (n := n) (r := r)  e4, fun _ => ⟨rfl, ⟨rfl, fj_rt h5 hQ⟩⟩⟩⟩) (fun c1 h2 => fj_bd h2 fun q6 e7 h8 => ⟨Nat.le_of_ble_eq_true rfl, fn_aF hf rfl rfl, ⟨hf, none, q6.2, gp_X6_offer (n := n) (r := r)  e7, fun _ => ⟨rfl, hK _ h8 _ hQ⟩⟩⟩)⟩⟩⟩)
theorem l_X6_choose {n : Nat} {r : Nat → Nat → Option Nat} (hf : fn_F n r) (s : S_X6_choose) (q : Int32 × fm_) (h : am_lp (st_X6_choose) s = some q) : P_X6_choose n r s q :=
  am_lp_snd (P := P_X6_choose n r) (fun K hK s q h => match s, h with
    | (x1, x2, x3, m), h => t_X6_choose_64 hf (fun s => hK s q) x1 x2 x3 m h) s q h
set_option maxRecDepth 100000 in
theorem t_X6_choose {n : Nat} {r : Nat → Nat → Option Nat} (hf : fn_F n r) {q : Int32 × fm_} (p1 : Int32) (p2 : Int32) {m : fm_}
  (h : f_X6_choose p1 p2 m = some q) {Q : Option Value → am_W → Prop} (hQ : Q (en_v q).1 (mk_ n r q.2)) : am_T m_X6_choose sp_X6_choose n Q 0 [some (.ref 82), some (.int p1), some (.int p2), none] [] (mk_ n r m) :=
  am_T.wp sm_X6_choose (K := am_T m_X6_choose sp_X6_choose n Q) (cuts := [64]) (fun _ _ _ _ h => h) 39
    (fh_bd h fun q1 e2 h3 => ⟨Nat.le_of_ble_eq_true rfl, trivial, ⟨trivial, some (.int q1.1), q1.2, gp_X11_isDay (n := n) (r := r)  e2, fun _ => fh_if h3 (fun c4 h5 => ⟨rfl, fh_rt h5 hQ⟩) (fun c4 h5 => ⟨fn_aF hf rfl rfl, Or.inl ⟨_, hf.2 82 4 83 rfl, fh_gd h5 fun g7 h6 => ⟨100, fn_aF hf rfl rfl, ix_t g7, ⟨fn_aF hf rfl rfl, fh_in h6 (fun c8 h9 => ⟨fn_aF hf rfl rfl, Or.inl ⟨_, hf.2 82 4 83 rfl, ⟨fn_aF hf rfl rfl, fh_gd h9 fun g11 h10 => ⟨100, fn_aF hf rfl rfl, ix_t g11, ⟨fn_aF hf rfl rfl, Or.inl ⟨_, hf.2 82 5 84 rfl, fh_gd h10 fun g13 h12 => ⟨100, fn_aF hf rfl rfl, ix_t g13, fh_bd h12 fun q14 e15 h16 => ⟨Nat.le_of_ble_eq_true rfl, fn_aF hf rfl rfl, ⟨hf, none, q14.2, gp_X6_gather (n := n) (r := r)  e15, fun _ => ⟨rfl, fh_bd h16 fun q17 e18 h19 => ⟨Nat.le_of_ble_eq_true rfl, fn_aF hf rfl rfl, ⟨hf, none, q17.2, gp_X6_markSetsByOne (n := n) (r := r)  e18, fun _ => ⟨rfl, fh_bd h19 fun q20 e21 h22 => ⟨Nat.le_of_ble_eq_true rfl, fn_aF hf rfl rfl, ⟨hf, none, q20.2, gp_X6_giveAllToNobody (n := n) (r := r)  e21, fun _ => ⟨rfl, l_X6_choose hf _ _ h22 _ hQ⟩⟩⟩⟩⟩⟩⟩⟩⟩⟩⟩⟩⟩⟩⟩⟩) (fun c8 h9 => ⟨fn_aF hf rfl rfl, Or.inl ⟨_, hf.2 82 5 84 rfl, fh_gd h9 fun g24 h23 => ⟨100, fn_aF hf rfl rfl, ix_t g24, fh_in h23 (fun c25 h26 => ⟨fn_aF hf rfl rfl, Or.inl ⟨_, hf.2 82 4 83 rfl, ⟨fn_aF hf rfl rfl, fh_gd h26 fun g28 h27 => ⟨100, fn_aF hf rfl rfl, ix_t g28, ⟨fn_aF hf rfl rfl, Or.inl ⟨_, hf.2 82 5 84 rfl, fh_gd h27 fun g30 h29 => ⟨100, fn_aF hf rfl rfl, ix_t g30, fh_bd h29 fun q31 e32 h33 => ⟨Nat.le_of_ble_eq_true rfl, fn_aF hf rfl rfl, ⟨hf, none, q31.2, gp_X6_gather (n := n) (r := r)  e32, fun _ => ⟨rfl, fh_bd h33 fun q34 e35 h36 => ⟨Nat.le_of_ble_eq_true rfl, fn_aF hf rfl rfl, ⟨hf, none, q34.2, gp_X6_markSetsByOne (n := n) (r := r)  e35, fun _ => ⟨rfl, fh_bd h36 fun q37 e38 h39 => ⟨Nat.le_of_ble_eq_true rfl, fn_aF hf rfl rfl, ⟨hf, none, q37.2, gp_X6_giveAllToNobody (n := n) (r := r)  e38, fun _ => ⟨rfl, l_X6_choose hf _ _ h39 _ hQ⟩⟩⟩⟩⟩⟩⟩⟩⟩⟩⟩⟩⟩⟩⟩⟩) (fun c25 h26 => ⟨rfl, fh_rt h26 hQ⟩)⟩⟩⟩)⟩⟩⟩⟩)⟩⟩)
noncomputable def G_X6_choose (n : Nat) (r : Nat → Nat → Option Nat) (as : List Value) (m : fm_) : Option (Option Value × fm_) := match as with
  | [.ref x0, .int p1, .int p2] => gd_ (Nat.beq x0 82) ((f_X6_choose p1 p2 m).map en_v)
  | _ => none
set_option maxRecDepth 100000 in
theorem gp_X6_choose {n : Nat} {r : Nat → Nat → Option Nat}  {p1 : Int32} {p2 : Int32} {m : fm_} {q : Int32 × fm_}  (e : f_X6_choose p1 p2 m = some q) : G_X6_choose n r [.ref 82, .int p1, .int p2] m = some (en_v q) := by
  show (gd_ (Nat.beq 82 82) ((f_X6_choose p1 p2 m).map en_v)) = _
  exact fn_gd rfl (fn_mp e)
set_option maxRecDepth 100000 in
theorem ok_X6_choose : am_mok 6 70 m_X6_choose = true := by decide +kernel
set_option maxRecDepth 100000 in
theorem c_X6_choose (l : Launch) {g : am_G} (hg : fx_ l g) : am_Met l g 4 70 (fn_s fn_F G_X6_choose) := by
  refine am_sound (own := 6) (M := m_X6_choose) (SP := sp_X6_choose) hg.1 (by decide +kernel) ok_X6_choose (by decide +kernel) ?_ (fun q hq hk => absurd hk (am_no61 (M := m_X6_choose) (by decide +kernel) q hq)) (fn_ext l _ rfl g 6) (Or.inl (by decide +kernel)) ?_ ?_
  · intro q hq hk
    have hm : q.2.2.2.1 ∈ am_cs m_X6_choose := am_cs_in hq hk
    rw [show am_cs m_X6_choose = [181, 71, 73, 74, 75, 78] by decide +kernel] at hm
    have hm : q.2.2.2.1 ∈ [71, 73, 74, 75, 78, 181] := (List.all_eq_true.mp (show ([181, 71, 73, 74, 75, 78] : List Nat).all (fun a => decide (a ∈ ([71, 73, 74, 75, 78, 181] : List Nat))) = true by decide +kernel) _ hm |> of_decide_eq_true)
    simp only [List.mem_cons, List.not_mem_nil, or_false] at hm
    rcases hm with hm | hm | hm | hm | hm | hm
    · rw [hm]; exact ⟨2, by omega, c_X6_gather l hg⟩
    · rw [hm]; exact ⟨3, by omega, c_X6_markSetsByOne l hg⟩
    · rw [hm]; exact ⟨1, by omega, c_X6_giveAllToNobody l hg⟩
    · rw [hm]; exact ⟨3, by omega, c_X6_offer l hg⟩
    · rw [hm]; exact ⟨2, by omega, c_X6_settle l hg⟩
    · rw [hm]; exact ⟨0, by omega, c_X11_isDay l hg⟩
  · intro as w K h
    obtain ⟨hf, y, m1, hG, hK⟩ := h
    unfold G_X6_choose at hG
    split at hG
    · exact Nat.le_of_ble_eq_true rfl
    · cases hG
  · intro as w K h
    obtain ⟨n, i0, l0, r⟩ := w
    obtain ⟨hf, y, m1, hG, hK⟩ := h
    unfold G_X6_choose at hG
    split at hG
    · next x0 p1 p2 =>
      obtain ⟨hx1, hG1⟩ := gd_u hG
      obtain rfl := Nat.eq_of_beq_eq_true hx1
      obtain ⟨q, hq, he⟩ := fn_mu hG1
      obtain ⟨rfl, rfl⟩ := Prod.mk.inj he
      exact t_X6_choose  hf  p1 p2 (m := (i0, l0)) hq hK
    · cases hG

/-! == X6_chooseUpTo == -/
abbrev S_X6_chooseUpTo : Type := (Int32 × Int32 × Int32 × fm_)
noncomputable def st_X6_chooseUpTo (s : S_X6_chooseUpTo) : Option (S_X6_chooseUpTo ⊕ (Int32 × fm_)) := match s with
  | (x1, x2, x3, m) =>
    (if x1 < x3 then
((some (Sum.inr (0, m))))
else
(if 100 ≤ x3 then
((some (Sum.inr (0, m))))
else
(Option.bind (f_X6_choose x3 x2 m) fun q5 =>
((some (Sum.inl ((x1, x2, (x3 + 1), q5.2))))))))
noncomputable def f_X6_chooseUpTo_2 (x1 : Int32) (x2 : Int32) (x3 : Int32) (m : fm_) : Option (Int32 × fm_) := am_lp (st_X6_chooseUpTo) ((x1, x2, x3, m))
theorem e_X6_chooseUpTo_2 (x1 : Int32) (x2 : Int32) (x3 : Int32) (m : fm_) : f_X6_chooseUpTo_2 x1 x2 x3 m =
(if x1 < x3 then
((some (0, m)))
else
(if 100 ≤ x3 then
((some (0, m)))
else
(Option.bind (f_X6_choose x3 x2 m) fun q5 =>
((f_X6_chooseUpTo_2 x1 x2 (x3 + 1) q5.2))))) :=
  (am_lp_eq _ _).trans (fe_if (rfl) (fe_if (rfl) (fe_bd fun q5 => (rfl))))
noncomputable def f_X6_chooseUpTo (p1 : Int32) (p2 : Int32) (m : fm_) : Option (Int32 × fm_) :=
  ((f_X6_chooseUpTo_2 p1 p2 0 m))
def sp_X6_chooseUpTo : am_S := fn_sp [(70, fn_F, G_X6_choose)]
theorem sm_X6_chooseUpTo : am_Smono (sp_X6_chooseUpTo) := fn_sp_mono _
def P_X6_chooseUpTo (n : Nat) (r : Nat → Nat → Option Nat) (s : S_X6_chooseUpTo) (q : Int32 × fm_) : Prop := match s with
  | (x1, x2, x3, m) => ∀ (Q : Option Value → am_W → Prop), Q (en_v q).1 (mk_ n r q.2) → am_T m_X6_chooseUpTo sp_X6_chooseUpTo n Q 2 [some (.ref 82), some (.int x1), some (.int x2), some (.int x3)] [] (mk_ n r m)
set_option maxRecDepth 100000 in
theorem t_X6_chooseUpTo_2 {n : Nat} {r : Nat → Nat → Option Nat} (hf : fn_F n r) {K : S_X6_chooseUpTo → Option (Int32 × fm_)} {q : Int32 × fm_} (hK : ∀ s, K s = some q → P_X6_chooseUpTo n r s q) (x1 : Int32) (x2 : Int32) (x3 : Int32) (m : fm_)
  (h : am_k K (st_X6_chooseUpTo ((x1, x2, x3, m))) = some q) : P_X6_chooseUpTo n r ((x1, x2, x3, m)) q := fun Q hQ =>
  am_T.wp sm_X6_chooseUpTo (K := am_T m_X6_chooseUpTo sp_X6_chooseUpTo n Q) (cuts := [2]) (fun _ _ _ _ h => h) 14
    (fj_if h (fun c1 h2 => ⟨rfl, fj_rt h2 hQ⟩) (fun c1 h2 => fj_if h2 (fun c3 h4 => ⟨rfl, fj_rt h4 hQ⟩) (fun c3 h4 => fj_bd h4 fun q5 e6 h7 => ⟨Nat.le_of_ble_eq_true rfl, fn_aF hf rfl rfl, ⟨hf, none, q5.2, gp_X6_choose (n := n) (r := r)  e6, fun _ => ⟨rfl, hK _ h7 _ hQ⟩⟩⟩)))
theorem l_X6_chooseUpTo {n : Nat} {r : Nat → Nat → Option Nat} (hf : fn_F n r) (s : S_X6_chooseUpTo) (q : Int32 × fm_) (h : am_lp (st_X6_chooseUpTo) s = some q) : P_X6_chooseUpTo n r s q :=
  am_lp_snd (P := P_X6_chooseUpTo n r) (fun K hK s q h => match s, h with
    | (x1, x2, x3, m), h => t_X6_chooseUpTo_2 hf (fun s => hK s q) x1 x2 x3 m h) s q h
set_option maxRecDepth 100000 in
theorem t_X6_chooseUpTo {n : Nat} {r : Nat → Nat → Option Nat} (hf : fn_F n r) {q : Int32 × fm_} (p1 : Int32) (p2 : Int32) {m : fm_}
  (h : f_X6_chooseUpTo p1 p2 m = some q) {Q : Option Value → am_W → Prop} (hQ : Q (en_v q).1 (mk_ n r q.2)) : am_T m_X6_chooseUpTo sp_X6_chooseUpTo n Q 0 [some (.ref 82), some (.int p1), some (.int p2), none] [] (mk_ n r m) :=
  am_T.wp sm_X6_chooseUpTo (K := am_T m_X6_chooseUpTo sp_X6_chooseUpTo n Q) (cuts := [2]) (fun _ _ _ _ h => h) 4
    (l_X6_chooseUpTo hf _ _ h _ hQ)
noncomputable def G_X6_chooseUpTo (n : Nat) (r : Nat → Nat → Option Nat) (as : List Value) (m : fm_) : Option (Option Value × fm_) := match as with
  | [.ref x0, .int p1, .int p2] => gd_ (Nat.beq x0 82) ((f_X6_chooseUpTo p1 p2 m).map en_v)
  | _ => none
set_option maxRecDepth 100000 in
theorem gp_X6_chooseUpTo {n : Nat} {r : Nat → Nat → Option Nat}  {p1 : Int32} {p2 : Int32} {m : fm_} {q : Int32 × fm_}  (e : f_X6_chooseUpTo p1 p2 m = some q) : G_X6_chooseUpTo n r [.ref 82, .int p1, .int p2] m = some (en_v q) := by
  show (gd_ (Nat.beq 82 82) ((f_X6_chooseUpTo p1 p2 m).map en_v)) = _
  exact fn_gd rfl (fn_mp e)
set_option maxRecDepth 100000 in
theorem ok_X6_chooseUpTo : am_mok 6 63 m_X6_chooseUpTo = true := by decide +kernel
set_option maxRecDepth 100000 in
theorem c_X6_chooseUpTo (l : Launch) {g : am_G} (hg : fx_ l g) : am_Met l g 5 63 (fn_s fn_F G_X6_chooseUpTo) := by
  refine am_sound (own := 6) (M := m_X6_chooseUpTo) (SP := sp_X6_chooseUpTo) hg.1 (by decide +kernel) ok_X6_chooseUpTo (by decide +kernel) ?_ (fun q hq hk => absurd hk (am_no61 (M := m_X6_chooseUpTo) (by decide +kernel) q hq)) (fn_ext l _ rfl g 6) (Or.inl (by decide +kernel)) ?_ ?_
  · intro q hq hk
    have hm : q.2.2.2.1 ∈ am_cs m_X6_chooseUpTo := am_cs_in hq hk
    rw [show am_cs m_X6_chooseUpTo = [70] by decide +kernel] at hm
    have hm : q.2.2.2.1 ∈ [70] := (List.all_eq_true.mp (show ([70] : List Nat).all (fun a => decide (a ∈ ([70] : List Nat))) = true by decide +kernel) _ hm |> of_decide_eq_true)
    simp only [List.mem_cons, List.not_mem_nil, or_false] at hm
    rcases hm with hm
    · rw [hm]; exact ⟨4, by omega, c_X6_choose l hg⟩
  · intro as w K h
    obtain ⟨hf, y, m1, hG, hK⟩ := h
    unfold G_X6_chooseUpTo at hG
    split at hG
    · exact Nat.le_of_ble_eq_true rfl
    · cases hG
  · intro as w K h
    obtain ⟨n, i0, l0, r⟩ := w
    obtain ⟨hf, y, m1, hG, hK⟩ := h
    unfold G_X6_chooseUpTo at hG
    split at hG
    · next x0 p1 p2 =>
      obtain ⟨hx1, hG1⟩ := gd_u hG
      obtain rfl := Nat.eq_of_beq_eq_true hx1
      obtain ⟨q, hq, he⟩ := fn_mu hG1
      obtain ⟨rfl, rfl⟩ := Prod.mk.inj he
      exact t_X6_chooseUpTo  hf  p1 p2 (m := (i0, l0)) hq hK
    · cases hG

/-! == X6_chosenOwner == -/
noncomputable def f_X6_chosenOwner (p1 : Int32) (m : fm_) : Option (Int32 × fm_) :=
  (Option.bind (f_X1_isReading p1 m) fun q1 =>
(if q1.1 = 0 then
((some ((-1), q1.2)))
else
(gd_ (ix_ p1 200)
((some ((gi_ q1.2 86 (Int32.toNatClampNeg p1)), q1.2))))))
def sp_X6_chosenOwner : am_S := fn_sp [(16, fn_F, G_X1_isReading)]
theorem sm_X6_chosenOwner : am_Smono (sp_X6_chosenOwner) := fn_sp_mono _
set_option maxRecDepth 100000 in
theorem t_X6_chosenOwner {n : Nat} {r : Nat → Nat → Option Nat} (hf : fn_F n r) {q : Int32 × fm_} (p1 : Int32) {m : fm_}
  (h : f_X6_chosenOwner p1 m = some q) {Q : Option Value → am_W → Prop} (hQ : Q (en_i q).1 (mk_ n r q.2)) : am_T m_X6_chosenOwner sp_X6_chosenOwner n Q 0 [some (.ref 82), some (.int p1)] [] (mk_ n r m) :=
  am_T.wp sm_X6_chosenOwner (K := am_T m_X6_chosenOwner sp_X6_chosenOwner n Q) (cuts := []) (fun _ _ _ _ h => h) 12
    (⟨fn_aF hf rfl rfl, Or.inl ⟨_, hf.2 82 2 72 rfl, fh_bd h fun q1 e2 h3 => ⟨Nat.le_of_ble_eq_true rfl, fn_aF hf rfl rfl, ⟨hf, some (.int q1.1), q1.2, gp_X1_isReading (n := n) (r := r)  e2, fun _ => fh_if h3 (fun c4 h5 => ⟨rfl, fh_rt h5 hQ⟩) (fun c4 h5 => ⟨fn_aF hf rfl rfl, Or.inl ⟨_, hf.2 82 7 86 rfl, fh_gd h5 fun g7 h6 => ⟨200, fn_aF hf rfl rfl, ix_t g7, ⟨rfl, fh_rt h6 hQ⟩⟩⟩⟩)⟩⟩⟩⟩)
noncomputable def G_X6_chosenOwner (n : Nat) (r : Nat → Nat → Option Nat) (as : List Value) (m : fm_) : Option (Option Value × fm_) := match as with
  | [.ref x0, .int p1] => gd_ (Nat.beq x0 82) ((f_X6_chosenOwner p1 m).map en_i)
  | _ => none
set_option maxRecDepth 100000 in
theorem gp_X6_chosenOwner {n : Nat} {r : Nat → Nat → Option Nat}  {p1 : Int32} {m : fm_} {q : Int32 × fm_}  (e : f_X6_chosenOwner p1 m = some q) : G_X6_chosenOwner n r [.ref 82, .int p1] m = some (en_i q) := by
  show (gd_ (Nat.beq 82 82) ((f_X6_chosenOwner p1 m).map en_i)) = _
  exact fn_gd rfl (fn_mp e)
set_option maxRecDepth 100000 in
theorem ok_X6_chosenOwner : am_mok 6 64 m_X6_chosenOwner = true := by decide +kernel
set_option maxRecDepth 100000 in
theorem c_X6_chosenOwner (l : Launch) {g : am_G} (hg : fx_ l g) : am_Met l g 1 64 (fn_s fn_F G_X6_chosenOwner) := by
  refine am_sound (own := 6) (M := m_X6_chosenOwner) (SP := sp_X6_chosenOwner) hg.1 (by decide +kernel) ok_X6_chosenOwner (by decide +kernel) ?_ (fun q hq hk => absurd hk (am_no61 (M := m_X6_chosenOwner) (by decide +kernel) q hq)) (fn_ext l _ rfl g 6) (Or.inl (by decide +kernel)) ?_ ?_
  · intro q hq hk
    have hm : q.2.2.2.1 ∈ am_cs m_X6_chosenOwner := am_cs_in hq hk
    rw [show am_cs m_X6_chosenOwner = [16] by decide +kernel] at hm
    have hm : q.2.2.2.1 ∈ [16] := (List.all_eq_true.mp (show ([16] : List Nat).all (fun a => decide (a ∈ ([16] : List Nat))) = true by decide +kernel) _ hm |> of_decide_eq_true)
    simp only [List.mem_cons, List.not_mem_nil, or_false] at hm
    rcases hm with hm
    · rw [hm]; exact ⟨0, by omega, c_X1_isReading l hg⟩
  · intro as w K h
    obtain ⟨hf, y, m1, hG, hK⟩ := h
    unfold G_X6_chosenOwner at hG
    split at hG
    · exact Nat.le_of_ble_eq_true rfl
    · cases hG
  · intro as w K h
    obtain ⟨n, i0, l0, r⟩ := w
    obtain ⟨hf, y, m1, hG, hK⟩ := h
    unfold G_X6_chosenOwner at hG
    split at hG
    · next x0 p1 =>
      obtain ⟨hx1, hG1⟩ := gd_u hG
      obtain rfl := Nat.eq_of_beq_eq_true hx1
      obtain ⟨q, hq, he⟩ := fn_mu hG1
      obtain ⟨rfl, rfl⟩ := Prod.mk.inj he
      exact t_X6_chosenOwner  hf  p1 (m := (i0, l0)) hq hK
    · cases hG

/-! == X6_priceOf == -/
noncomputable def f_X6_priceOf (p1 : Int32) (p2 : Int32) (m : fm_) : Option (Int32 × fm_) :=
  (Option.bind (f_X6_choose p1 p2 m) fun q1 =>
(Option.bind (f_X11_isDay p1 q1.2) fun q4 =>
(if q4.1 = 0 then
((some (0, q4.2)))
else
(gd_ (ix_ p1 100)
((some ((gi_ q4.2 85 (Int32.toNatClampNeg p1)), q4.2)))))))
def sp_X6_priceOf : am_S := fn_sp [(70, fn_F, G_X6_choose), (181, fn_0, G_X11_isDay)]
theorem sm_X6_priceOf : am_Smono (sp_X6_priceOf) := fn_sp_mono _
set_option maxRecDepth 100000 in
theorem t_X6_priceOf {n : Nat} {r : Nat → Nat → Option Nat} (hf : fn_F n r) {q : Int32 × fm_} (p1 : Int32) (p2 : Int32) {m : fm_}
  (h : f_X6_priceOf p1 p2 m = some q) {Q : Option Value → am_W → Prop} (hQ : Q (en_i q).1 (mk_ n r q.2)) : am_T m_X6_priceOf sp_X6_priceOf n Q 0 [some (.ref 82), some (.int p1), some (.int p2)] [] (mk_ n r m) :=
  am_T.wp sm_X6_priceOf (K := am_T m_X6_priceOf sp_X6_priceOf n Q) (cuts := []) (fun _ _ _ _ h => h) 14
    (fh_bd h fun q1 e2 h3 => ⟨Nat.le_of_ble_eq_true rfl, fn_aF hf rfl rfl, ⟨hf, none, q1.2, gp_X6_choose (n := n) (r := r)  e2, fun _ => ⟨rfl, fh_bd h3 fun q4 e5 h6 => ⟨Nat.le_of_ble_eq_true rfl, trivial, ⟨trivial, some (.int q4.1), q4.2, gp_X11_isDay (n := n) (r := r)  e5, fun _ => fh_if h6 (fun c7 h8 => ⟨rfl, fh_rt h8 hQ⟩) (fun c7 h8 => ⟨fn_aF hf rfl rfl, Or.inl ⟨_, hf.2 82 6 85 rfl, fh_gd h8 fun g10 h9 => ⟨100, fn_aF hf rfl rfl, ix_t g10, ⟨rfl, fh_rt h9 hQ⟩⟩⟩⟩)⟩⟩⟩⟩⟩)
noncomputable def G_X6_priceOf (n : Nat) (r : Nat → Nat → Option Nat) (as : List Value) (m : fm_) : Option (Option Value × fm_) := match as with
  | [.ref x0, .int p1, .int p2] => gd_ (Nat.beq x0 82) ((f_X6_priceOf p1 p2 m).map en_i)
  | _ => none
set_option maxRecDepth 100000 in
theorem gp_X6_priceOf {n : Nat} {r : Nat → Nat → Option Nat}  {p1 : Int32} {p2 : Int32} {m : fm_} {q : Int32 × fm_}  (e : f_X6_priceOf p1 p2 m = some q) : G_X6_priceOf n r [.ref 82, .int p1, .int p2] m = some (en_i q) := by
  show (gd_ (Nat.beq 82 82) ((f_X6_priceOf p1 p2 m).map en_i)) = _
  exact fn_gd rfl (fn_mp e)
set_option maxRecDepth 100000 in
theorem ok_X6_priceOf : am_mok 6 65 m_X6_priceOf = true := by decide +kernel
set_option maxRecDepth 100000 in
theorem c_X6_priceOf (l : Launch) {g : am_G} (hg : fx_ l g) : am_Met l g 5 65 (fn_s fn_F G_X6_priceOf) := by
  refine am_sound (own := 6) (M := m_X6_priceOf) (SP := sp_X6_priceOf) hg.1 (by decide +kernel) ok_X6_priceOf (by decide +kernel) ?_ (fun q hq hk => absurd hk (am_no61 (M := m_X6_priceOf) (by decide +kernel) q hq)) (fn_ext l _ rfl g 6) (Or.inl (by decide +kernel)) ?_ ?_
  · intro q hq hk
    have hm : q.2.2.2.1 ∈ am_cs m_X6_priceOf := am_cs_in hq hk
    rw [show am_cs m_X6_priceOf = [70, 181] by decide +kernel] at hm
    have hm : q.2.2.2.1 ∈ [70, 181] := (List.all_eq_true.mp (show ([70, 181] : List Nat).all (fun a => decide (a ∈ ([70, 181] : List Nat))) = true by decide +kernel) _ hm |> of_decide_eq_true)
    simp only [List.mem_cons, List.not_mem_nil, or_false] at hm
    rcases hm with hm | hm
    · rw [hm]; exact ⟨4, by omega, c_X6_choose l hg⟩
    · rw [hm]; exact ⟨0, by omega, c_X11_isDay l hg⟩
  · intro as w K h
    obtain ⟨hf, y, m1, hG, hK⟩ := h
    unfold G_X6_priceOf at hG
    split at hG
    · exact Nat.le_of_ble_eq_true rfl
    · cases hG
  · intro as w K h
    obtain ⟨n, i0, l0, r⟩ := w
    obtain ⟨hf, y, m1, hG, hK⟩ := h
    unfold G_X6_priceOf at hG
    split at hG
    · next x0 p1 p2 =>
      obtain ⟨hx1, hG1⟩ := gd_u hG
      obtain rfl := Nat.eq_of_beq_eq_true hx1
      obtain ⟨q, hq, he⟩ := fn_mu hG1
      obtain ⟨rfl, rfl⟩ := Prod.mk.inj he
      exact t_X6_priceOf  hf  p1 p2 (m := (i0, l0)) hq hK
    · cases hG

/-! == X6_isExactly == -/
noncomputable def f_X6_isExactly (p1 : Int32) (p2 : Int32) (m : fm_) : Option (Int32 × fm_) :=
  (gd_ (ix_ p1 200)
(gd_ (ix_ p2 10)
(Option.bind (f_X7_likeness (gl_ m 79 (Int32.toNatClampNeg p1)) (gl_ m 70 (Int32.toNatClampNeg p2)) m) fun q5 =>
(if q5.1 = 0 then
((some (1, q5.2)))
else
((some (0, q5.2)))))))
def sp_X6_isExactly : am_S := fn_sp [(86, fn_0, G_X7_likeness)]
theorem sm_X6_isExactly : am_Smono (sp_X6_isExactly) := fn_sp_mono _
set_option maxRecDepth 100000 in
theorem t_X6_isExactly {n : Nat} {r : Nat → Nat → Option Nat} (hf : fn_F n r) {q : Int32 × fm_} (p1 : Int32) (p2 : Int32) {m : fm_}
  (h : f_X6_isExactly p1 p2 m = some q) {Q : Option Value → am_W → Prop} (hQ : Q (en_i q).1 (mk_ n r q.2)) : am_T m_X6_isExactly sp_X6_isExactly n Q 0 [some (.ref 82), some (.int p1), some (.int p2)] [] (mk_ n r m) :=
  am_T.wp sm_X6_isExactly (K := am_T m_X6_isExactly sp_X6_isExactly n Q) (cuts := []) (fun _ _ _ _ h => h) 16
    (⟨fn_aF hf rfl rfl, Or.inl ⟨_, hf.2 82 2 72 rfl, ⟨fn_aF hf rfl rfl, Or.inl ⟨_, hf.2 72 6 79 rfl, fh_gd h fun g2 h1 => ⟨200, fn_aF hf rfl rfl, ix_t g2, ⟨fn_aF hf rfl rfl, Or.inl ⟨_, hf.2 82 1 69 rfl, ⟨fn_aF hf rfl rfl, Or.inl ⟨_, hf.2 69 0 70 rfl, fh_gd h1 fun g4 h3 => ⟨10, fn_aF hf rfl rfl, ix_t g4, fh_bd h3 fun q5 e6 h7 => ⟨Nat.le_of_ble_eq_true rfl, trivial, ⟨trivial, some (.int q5.1), q5.2, gp_X7_likeness (n := n) (r := r)  e6, fun _ => fh_in h7 (fun c8 h9 => ⟨rfl, Or.inl rfl, fh_rt h9 hQ⟩) (fun c8 h9 => ⟨rfl, Or.inr rfl, fh_rt h9 hQ⟩)⟩⟩⟩⟩⟩⟩⟩⟩⟩⟩⟩⟩)
noncomputable def G_X6_isExactly (n : Nat) (r : Nat → Nat → Option Nat) (as : List Value) (m : fm_) : Option (Option Value × fm_) := match as with
  | [.ref x0, .int p1, .int p2] => gd_ (Nat.beq x0 82) ((f_X6_isExactly p1 p2 m).map en_i)
  | _ => none
set_option maxRecDepth 100000 in
theorem gp_X6_isExactly {n : Nat} {r : Nat → Nat → Option Nat}  {p1 : Int32} {p2 : Int32} {m : fm_} {q : Int32 × fm_}  (e : f_X6_isExactly p1 p2 m = some q) : G_X6_isExactly n r [.ref 82, .int p1, .int p2] m = some (en_i q) := by
  show (gd_ (Nat.beq 82 82) ((f_X6_isExactly p1 p2 m).map en_i)) = _
  exact fn_gd rfl (fn_mp e)
set_option maxRecDepth 100000 in
theorem ok_X6_isExactly : am_mok 6 79 m_X6_isExactly = true := by decide +kernel
set_option maxRecDepth 100000 in
theorem c_X6_isExactly (l : Launch) {g : am_G} (hg : fx_ l g) : am_Met l g 2 79 (fn_s fn_F G_X6_isExactly) := by
  refine am_sound (own := 6) (M := m_X6_isExactly) (SP := sp_X6_isExactly) hg.1 (by decide +kernel) ok_X6_isExactly (by decide +kernel) ?_ (fun q hq hk => absurd hk (am_no61 (M := m_X6_isExactly) (by decide +kernel) q hq)) (fn_ext l _ rfl g 6) (Or.inl (by decide +kernel)) ?_ ?_
  · intro q hq hk
    have hm : q.2.2.2.1 ∈ am_cs m_X6_isExactly := am_cs_in hq hk
    rw [show am_cs m_X6_isExactly = [86] by decide +kernel] at hm
    have hm : q.2.2.2.1 ∈ [86] := (List.all_eq_true.mp (show ([86] : List Nat).all (fun a => decide (a ∈ ([86] : List Nat))) = true by decide +kernel) _ hm |> of_decide_eq_true)
    simp only [List.mem_cons, List.not_mem_nil, or_false] at hm
    rcases hm with hm
    · rw [hm]; exact ⟨1, by omega, c_X7_likeness l hg⟩
  · intro as w K h
    obtain ⟨hf, y, m1, hG, hK⟩ := h
    unfold G_X6_isExactly at hG
    split at hG
    · exact Nat.le_of_ble_eq_true rfl
    · cases hG
  · intro as w K h
    obtain ⟨n, i0, l0, r⟩ := w
    obtain ⟨hf, y, m1, hG, hK⟩ := h
    unfold G_X6_isExactly at hG
    split at hG
    · next x0 p1 p2 =>
      obtain ⟨hx1, hG1⟩ := gd_u hG
      obtain rfl := Nat.eq_of_beq_eq_true hx1
      obtain ⟨q, hq, he⟩ := fn_mu hG1
      obtain ⟨rfl, rfl⟩ := Prod.mk.inj he
      exact t_X6_isExactly  hf  p1 p2 (m := (i0, l0)) hq hK
    · cases hG

/-! == X6_twoBear == -/
abbrev S_X6_twoBear : Type := (Int32 × Int32 × Int32 × Int32 × fm_) ⊕ (Int32 × Int32 × Int32 × Int32 × Int32 × fm_)
noncomputable def st_X6_twoBear (s : S_X6_twoBear) : Option (S_X6_twoBear ⊕ (Int32 × fm_)) := match s with
  | Sum.inl ((x1, x2, x3, x4, m)) =>
    (if (gi_ m 82 9) ≤ x4 then
((some (Sum.inr (0, m))))
else
((some (Sum.inl (Sum.inr ((x1, x2, x3, x4, 0, m)))))))
  | Sum.inr ((x1, x2, x3, x4, x5, m)) =>
    (if x4 ≤ x5 then
((some (Sum.inl (Sum.inl ((x1, x2, x3, (x4 + 1), m))))))
else
(gd_ (ix_ x4 7)
(Option.bind (f_X6_isExactly (gi_ m 87 (Int32.toNatClampNeg x4)) x1 m) fun q5 =>
(if q5.1 = 0 then
((some (Sum.inl (Sum.inr ((x1, x2, x3, x4, (x5 + 1), q5.2))))))
else
(gd_ (ix_ x5 7)
(Option.bind (f_X6_isExactly (gi_ q5.2 87 (Int32.toNatClampNeg x5)) x1 q5.2) fun q12 =>
(if q12.1 = 0 then
((some (Sum.inl (Sum.inr ((x1, x2, x3, x4, (x5 + 1), q12.2))))))
else
(gd_ (ix_ x4 7)
(gd_ (ix_ x5 7)
(Option.bind (f_X6_canBeOne (gi_ q12.2 87 (Int32.toNatClampNeg x4)) (gi_ q12.2 87 (Int32.toNatClampNeg x5)) q12.2) fun q21 =>
(if q21.1 = 0 then
((some (Sum.inr (1, q21.2))))
else
((some (Sum.inl (Sum.inr ((x1, x2, x3, x4, (x5 + 1), q21.2)))))))))))))))))
noncomputable def f_X6_twoBear_9 (x1 : Int32) (x2 : Int32) (x3 : Int32) (x4 : Int32) (m : fm_) : Option (Int32 × fm_) := am_lp (st_X6_twoBear) (Sum.inl ((x1, x2, x3, x4, m)))
noncomputable def f_X6_twoBear_21 (x1 : Int32) (x2 : Int32) (x3 : Int32) (x4 : Int32) (x5 : Int32) (m : fm_) : Option (Int32 × fm_) := am_lp (st_X6_twoBear) (Sum.inr ((x1, x2, x3, x4, x5, m)))
theorem e_X6_twoBear_9 (x1 : Int32) (x2 : Int32) (x3 : Int32) (x4 : Int32) (m : fm_) : f_X6_twoBear_9 x1 x2 x3 x4 m =
(if (gi_ m 82 9) ≤ x4 then
((some (0, m)))
else
((f_X6_twoBear_21 x1 x2 x3 x4 0 m))) :=
  (am_lp_eq _ _).trans (fe_if (rfl) (rfl))
theorem e_X6_twoBear_21 (x1 : Int32) (x2 : Int32) (x3 : Int32) (x4 : Int32) (x5 : Int32) (m : fm_) : f_X6_twoBear_21 x1 x2 x3 x4 x5 m =
(if x4 ≤ x5 then
((f_X6_twoBear_9 x1 x2 x3 (x4 + 1) m))
else
(gd_ (ix_ x4 7)
(Option.bind (f_X6_isExactly (gi_ m 87 (Int32.toNatClampNeg x4)) x1 m) fun q5 =>
(if q5.1 = 0 then
((f_X6_twoBear_21 x1 x2 x3 x4 (x5 + 1) q5.2))
else
(gd_ (ix_ x5 7)
(Option.bind (f_X6_isExactly (gi_ q5.2 87 (Int32.toNatClampNeg x5)) x1 q5.2) fun q12 =>
(if q12.1 = 0 then
((f_X6_twoBear_21 x1 x2 x3 x4 (x5 + 1) q12.2))
else
(gd_ (ix_ x4 7)
(gd_ (ix_ x5 7)
(Option.bind (f_X6_canBeOne (gi_ q12.2 87 (Int32.toNatClampNeg x4)) (gi_ q12.2 87 (Int32.toNatClampNeg x5)) q12.2) fun q21 =>
(if q21.1 = 0 then
((some (1, q21.2)))
else
((f_X6_twoBear_21 x1 x2 x3 x4 (x5 + 1) q21.2))))))))))))) :=
  (am_lp_eq _ _).trans (fe_if (rfl) (fe_gd (fe_bd fun q5 => (fe_if (rfl) (fe_gd (fe_bd fun q12 => (fe_if (rfl) (fe_gd (fe_gd (fe_bd fun q21 => (fe_if (rfl) (rfl))))))))))))
noncomputable def f_X6_twoBear (p1 : Int32) (p2 : Int32) (p3 : Int32) (m : fm_) : Option (Int32 × fm_) :=
  (Option.bind (f_X6_gather p2 p3 m) fun q1 =>
((f_X6_twoBear_9 p1 p2 p3 0 q1.2)))
def sp_X6_twoBear : am_S := fn_sp [(71, fn_F, G_X6_gather), (79, fn_F, G_X6_isExactly), (80, fn_F, G_X6_canBeOne)]
theorem sm_X6_twoBear : am_Smono (sp_X6_twoBear) := fn_sp_mono _
def P_X6_twoBear (n : Nat) (r : Nat → Nat → Option Nat) (s : S_X6_twoBear) (q : Int32 × fm_) : Prop := match s with
  | Sum.inl ((x1, x2, x3, x4, m)) => ∀ (Q : Option Value → am_W → Prop) (y5 : Option Value), Q (en_i q).1 (mk_ n r q.2) → am_T m_X6_twoBear sp_X6_twoBear n Q 9 [some (.ref 82), some (.int x1), some (.int x2), some (.int x3), some (.int x4), y5] [] (mk_ n r m)
  | Sum.inr ((x1, x2, x3, x4, x5, m)) => ∀ (Q : Option Value → am_W → Prop), Q (en_i q).1 (mk_ n r q.2) → am_T m_X6_twoBear sp_X6_twoBear n Q 21 [some (.ref 82), some (.int x1), some (.int x2), some (.int x3), some (.int x4), some (.int x5)] [] (mk_ n r m)
set_option maxRecDepth 100000 in
theorem t_X6_twoBear_9 {n : Nat} {r : Nat → Nat → Option Nat} (hf : fn_F n r) {K : S_X6_twoBear → Option (Int32 × fm_)} {q : Int32 × fm_} (hK : ∀ s, K s = some q → P_X6_twoBear n r s q) (x1 : Int32) (x2 : Int32) (x3 : Int32) (x4 : Int32) (m : fm_)
  (h : am_k K (st_X6_twoBear (Sum.inl ((x1, x2, x3, x4, m)))) = some q) : P_X6_twoBear n r (Sum.inl ((x1, x2, x3, x4, m))) q := fun Q y5 hQ =>
  am_T.wp sm_X6_twoBear (K := am_T m_X6_twoBear sp_X6_twoBear n Q) (cuts := [9, 21]) (fun _ _ _ _ h => h) 8
    (⟨fn_aF hf rfl rfl, fj_if h (fun c1 h2 => ⟨rfl, Or.inl rfl, fj_rt h2 hQ⟩) (fun c1 h2 => hK _ h2 _ hQ)⟩)
set_option maxRecDepth 100000 in
theorem t_X6_twoBear_21 {n : Nat} {r : Nat → Nat → Option Nat} (hf : fn_F n r) {K : S_X6_twoBear → Option (Int32 × fm_)} {q : Int32 × fm_} (hK : ∀ s, K s = some q → P_X6_twoBear n r s q) (x1 : Int32) (x2 : Int32) (x3 : Int32) (x4 : Int32) (x5 : Int32) (m : fm_)
  (h : am_k K (st_X6_twoBear (Sum.inr ((x1, x2, x3, x4, x5, m)))) = some q) : P_X6_twoBear n r (Sum.inr ((x1, x2, x3, x4, x5, m))) q := fun Q hQ =>
  am_T.wp sm_X6_twoBear (K := am_T m_X6_twoBear sp_X6_twoBear n Q) (cuts := [9, 21]) (fun _ _ _ _ h => h) 34
    (fj_if h (fun c1 h2 => hK _ h2 _ _ hQ) (fun c1 h2 => ⟨fn_aF hf rfl rfl, Or.inl ⟨_, hf.2 82 8 87 rfl, fj_gd h2 fun g4 h3 => ⟨7, fn_aF hf rfl rfl, ix_t g4, fj_bd h3 fun q5 e6 h7 => ⟨Nat.le_of_ble_eq_true rfl, fn_aF hf rfl rfl, ⟨hf, some (.int q5.1), q5.2, gp_X6_isExactly (n := n) (r := r)  e6, fun _ => fj_if h7 (fun c8 h9 => hK _ h9 _ hQ) (fun c8 h9 => ⟨fn_aF hf rfl rfl, Or.inl ⟨_, hf.2 82 8 87 rfl, fj_gd h9 fun g11 h10 => ⟨7, fn_aF hf rfl rfl, ix_t g11, fj_bd h10 fun q12 e13 h14 => ⟨Nat.le_of_ble_eq_true rfl, fn_aF hf rfl rfl, ⟨hf, some (.int q12.1), q12.2, gp_X6_isExactly (n := n) (r := r)  e13, fun _ => fj_if h14 (fun c15 h16 => hK _ h16 _ hQ) (fun c15 h16 => ⟨fn_aF hf rfl rfl, Or.inl ⟨_, hf.2 82 8 87 rfl, fj_gd h16 fun g18 h17 => ⟨7, fn_aF hf rfl rfl, ix_t g18, ⟨fn_aF hf rfl rfl, Or.inl ⟨_, hf.2 82 8 87 rfl, fj_gd h17 fun g20 h19 => ⟨7, fn_aF hf rfl rfl, ix_t g20, fj_bd h19 fun q21 e22 h23 => ⟨Nat.le_of_ble_eq_true rfl, fn_aF hf rfl rfl, ⟨hf, some (.int q21.1), q21.2, gp_X6_canBeOne (n := n) (r := r)  e22, fun _ => fj_in h23 (fun c24 h25 => hK _ h25 _ hQ) (fun c24 h25 => ⟨rfl, Or.inr rfl, fj_rt h25 hQ⟩)⟩⟩⟩⟩⟩⟩⟩⟩)⟩⟩⟩⟩⟩)⟩⟩⟩⟩⟩))
theorem l_X6_twoBear {n : Nat} {r : Nat → Nat → Option Nat} (hf : fn_F n r) (s : S_X6_twoBear) (q : Int32 × fm_) (h : am_lp (st_X6_twoBear) s = some q) : P_X6_twoBear n r s q :=
  am_lp_snd (P := P_X6_twoBear n r) (fun K hK s q h => match s, h with
    | Sum.inl ((x1, x2, x3, x4, m)), h => t_X6_twoBear_9 hf (fun s => hK s q) x1 x2 x3 x4 m h
    | Sum.inr ((x1, x2, x3, x4, x5, m)), h => t_X6_twoBear_21 hf (fun s => hK s q) x1 x2 x3 x4 x5 m h) s q h
set_option maxRecDepth 100000 in
theorem t_X6_twoBear {n : Nat} {r : Nat → Nat → Option Nat} (hf : fn_F n r) {q : Int32 × fm_} (p1 : Int32) (p2 : Int32) (p3 : Int32) {m : fm_}
  (h : f_X6_twoBear p1 p2 p3 m = some q) {Q : Option Value → am_W → Prop} (hQ : Q (en_i q).1 (mk_ n r q.2)) : am_T m_X6_twoBear sp_X6_twoBear n Q 0 [some (.ref 82), some (.int p1), some (.int p2), some (.int p3), none, none] [] (mk_ n r m) :=
  am_T.wp sm_X6_twoBear (K := am_T m_X6_twoBear sp_X6_twoBear n Q) (cuts := [9, 21]) (fun _ _ _ _ h => h) 8
    (fh_bd h fun q1 e2 h3 => ⟨Nat.le_of_ble_eq_true rfl, fn_aF hf rfl rfl, ⟨hf, none, q1.2, gp_X6_gather (n := n) (r := r)  e2, fun _ => ⟨rfl, l_X6_twoBear hf _ _ h3 _ _ hQ⟩⟩⟩)
noncomputable def G_X6_twoBear (n : Nat) (r : Nat → Nat → Option Nat) (as : List Value) (m : fm_) : Option (Option Value × fm_) := match as with
  | [.ref x0, .int p1, .int p2, .int p3] => gd_ (Nat.beq x0 82) ((f_X6_twoBear p1 p2 p3 m).map en_i)
  | _ => none
set_option maxRecDepth 100000 in
theorem gp_X6_twoBear {n : Nat} {r : Nat → Nat → Option Nat}  {p1 : Int32} {p2 : Int32} {p3 : Int32} {m : fm_} {q : Int32 × fm_}  (e : f_X6_twoBear p1 p2 p3 m = some q) : G_X6_twoBear n r [.ref 82, .int p1, .int p2, .int p3] m = some (en_i q) := by
  show (gd_ (Nat.beq 82 82) ((f_X6_twoBear p1 p2 p3 m).map en_i)) = _
  exact fn_gd rfl (fn_mp e)
set_option maxRecDepth 100000 in
theorem ok_X6_twoBear : am_mok 6 66 m_X6_twoBear = true := by decide +kernel
set_option maxRecDepth 100000 in
theorem c_X6_twoBear (l : Launch) {g : am_G} (hg : fx_ l g) : am_Met l g 3 66 (fn_s fn_F G_X6_twoBear) := by
  refine am_sound (own := 6) (M := m_X6_twoBear) (SP := sp_X6_twoBear) hg.1 (by decide +kernel) ok_X6_twoBear (by decide +kernel) ?_ (fun q hq hk => absurd hk (am_no61 (M := m_X6_twoBear) (by decide +kernel) q hq)) (fn_ext l _ rfl g 6) (Or.inl (by decide +kernel)) ?_ ?_
  · intro q hq hk
    have hm : q.2.2.2.1 ∈ am_cs m_X6_twoBear := am_cs_in hq hk
    rw [show am_cs m_X6_twoBear = [71, 79, 79, 80] by decide +kernel] at hm
    have hm : q.2.2.2.1 ∈ [71, 79, 80] := (List.all_eq_true.mp (show ([71, 79, 79, 80] : List Nat).all (fun a => decide (a ∈ ([71, 79, 80] : List Nat))) = true by decide +kernel) _ hm |> of_decide_eq_true)
    simp only [List.mem_cons, List.not_mem_nil, or_false] at hm
    rcases hm with hm | hm | hm
    · rw [hm]; exact ⟨2, by omega, c_X6_gather l hg⟩
    · rw [hm]; exact ⟨2, by omega, c_X6_isExactly l hg⟩
    · rw [hm]; exact ⟨2, by omega, c_X6_canBeOne l hg⟩
  · intro as w K h
    obtain ⟨hf, y, m1, hG, hK⟩ := h
    unfold G_X6_twoBear at hG
    split at hG
    · exact Nat.le_of_ble_eq_true rfl
    · cases hG
  · intro as w K h
    obtain ⟨n, i0, l0, r⟩ := w
    obtain ⟨hf, y, m1, hG, hK⟩ := h
    unfold G_X6_twoBear at hG
    split at hG
    · next x0 p1 p2 p3 =>
      obtain ⟨hx1, hG1⟩ := gd_u hG
      obtain rfl := Nat.eq_of_beq_eq_true hx1
      obtain ⟨q, hq, he⟩ := fn_mu hG1
      obtain ⟨rfl, rfl⟩ := Prod.mk.inj he
      exact t_X6_twoBear  hf  p1 p2 p3 (m := (i0, l0)) hq hK
    · cases hG

