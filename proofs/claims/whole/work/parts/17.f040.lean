/-! == X12_bitsOf == -/
abbrev S_X12_bitsOf : Type := (Int32 × Int32 × Int32 × fm_)
noncomputable def st_X12_bitsOf (s : S_X12_bitsOf) : Option (S_X12_bitsOf ⊕ (Int32 × fm_)) := match s with
  | (x0, x1, x2, m) =>
    (if 12 ≤ x2 then
((some (Sum.inr (x1, m))))
else
((some (Sum.inl ((x0, (x1 + ((x0 >>> (x2 &&& 31)) &&& 1)), (x2 + 1), m))))))
noncomputable def f_X12_bitsOf_4 (x0 : Int32) (x1 : Int32) (x2 : Int32) (m : fm_) : Option (Int32 × fm_) := am_lp (st_X12_bitsOf) ((x0, x1, x2, m))
theorem e_X12_bitsOf_4 (x0 : Int32) (x1 : Int32) (x2 : Int32) (m : fm_) : f_X12_bitsOf_4 x0 x1 x2 m =
(if 12 ≤ x2 then
((some (x1, m)))
else
((f_X12_bitsOf_4 x0 (x1 + ((x0 >>> (x2 &&& 31)) &&& 1)) (x2 + 1) m))) :=
  (am_lp_eq _ _).trans (fe_if (rfl) (rfl))
noncomputable def f_X12_bitsOf (p1 : Int32) (m : fm_) : Option (Int32 × fm_) :=
  ((f_X12_bitsOf_4 p1 0 0 m))
def sp_X12_bitsOf : am_S := fn_sp []
theorem sm_X12_bitsOf : am_Smono (sp_X12_bitsOf) := fn_sp_mono _
def P_X12_bitsOf (n : Nat) (r : Nat → Nat → Option Nat) (s : S_X12_bitsOf) (q : Int32 × fm_) : Prop := match s with
  | (x0, x1, x2, m) => ∀ (Q : Option Value → am_W → Prop), Q (en_i q).1 (mk_ n r q.2) → am_T m_X12_bitsOf sp_X12_bitsOf n Q 4 [some (.int x0), some (.int x1), some (.int x2)] [] (mk_ n r m)
set_option maxRecDepth 100000 in
theorem t_X12_bitsOf_4 {n : Nat} {r : Nat → Nat → Option Nat} (hf : fn_0 n r) {K : S_X12_bitsOf → Option (Int32 × fm_)} {q : Int32 × fm_} (hK : ∀ s, K s = some q → P_X12_bitsOf n r s q) (x0 : Int32) (x1 : Int32) (x2 : Int32) (m : fm_)
  (h : am_k K (st_X12_bitsOf ((x0, x1, x2, m))) = some q) : P_X12_bitsOf n r ((x0, x1, x2, m)) q := fun Q hQ =>
  am_T.wp sm_X12_bitsOf (K := am_T m_X12_bitsOf sp_X12_bitsOf n Q) (cuts := [4]) (fun _ _ _ _ h => h) 15
    (fj_if h (fun c1 h2 => ⟨rfl, fj_rt h2 hQ⟩) (fun c1 h2 => hK _ h2 _ hQ))
theorem l_X12_bitsOf {n : Nat} {r : Nat → Nat → Option Nat} (hf : fn_0 n r) (s : S_X12_bitsOf) (q : Int32 × fm_) (h : am_lp (st_X12_bitsOf) s = some q) : P_X12_bitsOf n r s q :=
  am_lp_snd (P := P_X12_bitsOf n r) (fun K hK s q h => match s, h with
    | (x0, x1, x2, m), h => t_X12_bitsOf_4 hf (fun s => hK s q) x0 x1 x2 m h) s q h
set_option maxRecDepth 100000 in
theorem t_X12_bitsOf {n : Nat} {r : Nat → Nat → Option Nat} (hf : fn_0 n r) {q : Int32 × fm_} (p1 : Int32) {m : fm_}
  (h : f_X12_bitsOf p1 m = some q) {Q : Option Value → am_W → Prop} (hQ : Q (en_i q).1 (mk_ n r q.2)) : am_T m_X12_bitsOf sp_X12_bitsOf n Q 0 [some (.int p1), none, none] [] (mk_ n r m) :=
  am_T.wp sm_X12_bitsOf (K := am_T m_X12_bitsOf sp_X12_bitsOf n Q) (cuts := [4]) (fun _ _ _ _ h => h) 6
    (l_X12_bitsOf hf _ _ h _ hQ)
noncomputable def G_X12_bitsOf (n : Nat) (r : Nat → Nat → Option Nat) (as : List Value) (m : fm_) : Option (Option Value × fm_) := match as with
  | [.int p1] => (f_X12_bitsOf p1 m).map en_i
  | _ => none
set_option maxRecDepth 100000 in
theorem gp_X12_bitsOf {n : Nat} {r : Nat → Nat → Option Nat}  {p1 : Int32} {m : fm_} {q : Int32 × fm_}  (e : f_X12_bitsOf p1 m = some q) : G_X12_bitsOf n r [.int p1] m = some (en_i q) := by
  show ((f_X12_bitsOf p1 m).map en_i) = _
  exact fn_mp e
set_option maxRecDepth 100000 in
theorem ok_X12_bitsOf : am_mok 12 279 m_X12_bitsOf = true := by decide +kernel
set_option maxRecDepth 100000 in
theorem c_X12_bitsOf (l : Launch) {g : am_G} (hg : fx_ l g) : am_Met l g 0 279 (fn_s fn_0 G_X12_bitsOf) := by
  refine am_sound (own := 12) (M := m_X12_bitsOf) (SP := sp_X12_bitsOf) hg.1 (by decide +kernel) ok_X12_bitsOf (by decide +kernel) ?_ (fun q hq hk => absurd hk (am_no61 (M := m_X12_bitsOf) (by decide +kernel) q hq)) (fn_ext l _ rfl g 12) (Or.inl (by decide +kernel)) ?_ ?_
  · intro q hq hk
    have hm : q.2.2.2.1 ∈ am_cs m_X12_bitsOf := am_cs_in hq hk
    rw [show am_cs m_X12_bitsOf = [] by decide +kernel] at hm
    cases hm
  · intro as w K h
    obtain ⟨hf, y, m1, hG, hK⟩ := h
    unfold G_X12_bitsOf at hG
    split at hG
    · exact Nat.le_of_ble_eq_true rfl
    · cases hG
  · intro as w K h
    obtain ⟨n, i0, l0, r⟩ := w
    obtain ⟨hf, y, m1, hG, hK⟩ := h
    unfold G_X12_bitsOf at hG
    split at hG
    · next p1 =>
      obtain ⟨q, hq, he⟩ := fn_mu hG
      obtain ⟨rfl, rfl⟩ := Prod.mk.inj he
      exact t_X12_bitsOf  hf  p1 (m := (i0, l0)) hq hK
    · cases hG

/-! == X12_look == -/
abbrev S_X12_look : Type := (Int32 × Int32 × Int32 × fm_) ⊕ (Int32 × Int32 × Int32 × fm_) ⊕ (Int32 × Int32 × Int32 × Int32 × Int32 × fm_)
noncomputable def st_X12_look (s : S_X12_look) : Option (S_X12_look ⊕ (Int32 × fm_)) := match s with
  | Sum.inl ((x1, x2, x3, m)) =>
    (if (gi_ m 106 87) ≤ x3 then
((some (Sum.inl (Sum.inr (Sum.inl ((x1, x2, 1, (si_ (si_ m 106 97 0) 106 98 0))))))))
else
(Option.bind (f_X12_go x3 x1 1 m) fun q3 =>
(Option.bind (f_X12_gone q3.2) fun q6 =>
(gd_ (ix_ x3 20)
((some (Sum.inl (Sum.inl ((x1, x2, (x3 + 1), (si_ q6.2 167 (Int32.toNatClampNeg x3) q6.1)))))))))))
  | Sum.inr (Sum.inl ((x1, x2, x3, m))) =>
    (if 4096 ≤ x3 then
((some (Sum.inr (1, m))))
else
(if (x3 &&& (gi_ m 106 32)) = 0 then
(Option.bind (f_X12_bitsOf x3 m) fun q5 =>
(if q5.1 ≤ x2 then
((some (Sum.inl (Sum.inr (Sum.inr ((x1, x2, x3, 0, 0, q5.2)))))))
else
((some (Sum.inl (Sum.inr (Sum.inl ((x1, x2, (x3 + 1), q5.2)))))))))
else
((some (Sum.inl (Sum.inr (Sum.inl ((x1, x2, (x3 + 1), m)))))))))
  | Sum.inr (Sum.inr ((x1, x2, x3, x4, x5, m))) =>
    (if (gi_ m 106 87) ≤ x5 then
(if x4 < (gi_ m 106 98) then
((some (Sum.inl (Sum.inr (Sum.inl ((x1, x2, (x3 + 1), m)))))))
else
(if x4 = (gi_ m 106 98) then
(Option.bind (f_X12_bitsOf x3 m) fun q7 =>
(Option.bind (f_X12_bitsOf (gi_ q7.2 106 97) q7.2) fun q10 =>
(if q7.1 < q10.1 then
((some (Sum.inl (Sum.inr (Sum.inl ((x1, x2, (x3 + 1), (si_ (si_ q10.2 106 97 x3) 106 98 x4))))))))
else
((some (Sum.inl (Sum.inr (Sum.inl ((x1, x2, (x3 + 1), q10.2))))))))))
else
((some (Sum.inl (Sum.inr (Sum.inl ((x1, x2, (x3 + 1), (si_ (si_ m 106 97 x3) 106 98 x4))))))))))
else
(gd_ (ix_ x5 20)
(if ((gi_ m 167 (Int32.toNatClampNeg x5)) &&& (gi_ m 106 32)) = 0 then
(gd_ (ix_ x5 20)
(if ((gi_ m 167 (Int32.toNatClampNeg x5)) &&& x3) = 0 then
((some (Sum.inl (Sum.inr (Sum.inr ((x1, x2, x3, (x4 + 0), (x5 + 1), m)))))))
else
(gd_ (ix_ x5 20)
((some (Sum.inl (Sum.inr (Sum.inr ((x1, x2, x3, (x4 + (gi_ m 162 (Int32.toNatClampNeg x5))), (x5 + 1), m))))))))))
else
((some (Sum.inl (Sum.inr (Sum.inr ((x1, x2, x3, (x4 + 0), (x5 + 1), m))))))))))
noncomputable def f_X12_look_20 (x1 : Int32) (x2 : Int32) (x3 : Int32) (m : fm_) : Option (Int32 × fm_) := am_lp (st_X12_look) (Sum.inl ((x1, x2, x3, m)))
noncomputable def f_X12_look_64 (x1 : Int32) (x2 : Int32) (x3 : Int32) (m : fm_) : Option (Int32 × fm_) := am_lp (st_X12_look) (Sum.inr (Sum.inl ((x1, x2, x3, m))))
noncomputable def f_X12_look_97 (x1 : Int32) (x2 : Int32) (x3 : Int32) (x4 : Int32) (x5 : Int32) (m : fm_) : Option (Int32 × fm_) := am_lp (st_X12_look) (Sum.inr (Sum.inr ((x1, x2, x3, x4, x5, m))))
theorem e_X12_look_20 (x1 : Int32) (x2 : Int32) (x3 : Int32) (m : fm_) : f_X12_look_20 x1 x2 x3 m =
(if (gi_ m 106 87) ≤ x3 then
((f_X12_look_64 x1 x2 1 (si_ (si_ m 106 97 0) 106 98 0)))
else
(Option.bind (f_X12_go x3 x1 1 m) fun q3 =>
(Option.bind (f_X12_gone q3.2) fun q6 =>
(gd_ (ix_ x3 20)
((f_X12_look_20 x1 x2 (x3 + 1) (si_ q6.2 167 (Int32.toNatClampNeg x3) q6.1))))))) :=
  (am_lp_eq _ _).trans (fe_if (rfl) (fe_bd fun q3 => (fe_bd fun q6 => (fe_gd (rfl)))))
theorem e_X12_look_64 (x1 : Int32) (x2 : Int32) (x3 : Int32) (m : fm_) : f_X12_look_64 x1 x2 x3 m =
(if 4096 ≤ x3 then
((some (1, m)))
else
(if (x3 &&& (gi_ m 106 32)) = 0 then
(Option.bind (f_X12_bitsOf x3 m) fun q5 =>
(if q5.1 ≤ x2 then
((f_X12_look_97 x1 x2 x3 0 0 q5.2))
else
((f_X12_look_64 x1 x2 (x3 + 1) q5.2))))
else
((f_X12_look_64 x1 x2 (x3 + 1) m)))) :=
  (am_lp_eq _ _).trans (fe_if (rfl) (fe_if (fe_bd fun q5 => (fe_if (rfl) (rfl))) (rfl)))
theorem e_X12_look_97 (x1 : Int32) (x2 : Int32) (x3 : Int32) (x4 : Int32) (x5 : Int32) (m : fm_) : f_X12_look_97 x1 x2 x3 x4 x5 m =
(if (gi_ m 106 87) ≤ x5 then
(if x4 < (gi_ m 106 98) then
((f_X12_look_64 x1 x2 (x3 + 1) m))
else
(if x4 = (gi_ m 106 98) then
(Option.bind (f_X12_bitsOf x3 m) fun q7 =>
(Option.bind (f_X12_bitsOf (gi_ q7.2 106 97) q7.2) fun q10 =>
(if q7.1 < q10.1 then
((f_X12_look_64 x1 x2 (x3 + 1) (si_ (si_ q10.2 106 97 x3) 106 98 x4)))
else
((f_X12_look_64 x1 x2 (x3 + 1) q10.2)))))
else
((f_X12_look_64 x1 x2 (x3 + 1) (si_ (si_ m 106 97 x3) 106 98 x4)))))
else
(gd_ (ix_ x5 20)
(if ((gi_ m 167 (Int32.toNatClampNeg x5)) &&& (gi_ m 106 32)) = 0 then
(gd_ (ix_ x5 20)
(if ((gi_ m 167 (Int32.toNatClampNeg x5)) &&& x3) = 0 then
((f_X12_look_97 x1 x2 x3 (x4 + 0) (x5 + 1) m))
else
(gd_ (ix_ x5 20)
((f_X12_look_97 x1 x2 x3 (x4 + (gi_ m 162 (Int32.toNatClampNeg x5))) (x5 + 1) m)))))
else
((f_X12_look_97 x1 x2 x3 (x4 + 0) (x5 + 1) m))))) :=
  (am_lp_eq _ _).trans (fe_if (fe_if (rfl) (fe_if (fe_bd fun q7 => (fe_bd fun q10 => (fe_if (rfl) (rfl)))) (rfl))) (fe_gd (fe_if (fe_gd (fe_if (rfl) (fe_gd (rfl)))) (rfl))))
noncomputable def f_X12_look (p1 : Int32) (p2 : Int32) (m : fm_) : Option (Int32 × fm_) :=
  (Option.bind (f_X12_isDay p1 m) fun q1 =>
(if q1.1 = 0 then
((some (0, q1.2)))
else
(if p2 < 0 then
((some (0, q1.2)))
else
(if p2 ≤ 3 then
((f_X12_look_20 p1 p2 0 q1.2))
else
((some (0, q1.2)))))))
def sp_X12_look : am_S := fn_sp [(219, fn_0, G_X12_isDay), (272, fn_F, G_X12_go), (277, fn_F, G_X12_gone), (279, fn_0, G_X12_bitsOf)]
theorem sm_X12_look : am_Smono (sp_X12_look) := fn_sp_mono _
def P_X12_look (n : Nat) (r : Nat → Nat → Option Nat) (s : S_X12_look) (q : Int32 × fm_) : Prop := match s with
  | Sum.inl ((x1, x2, x3, m)) => ∀ (Q : Option Value → am_W → Prop), Q (en_i q).1 (mk_ n r q.2) → am_T m_X12_look sp_X12_look n Q 20 [some (.ref 106), some (.int x1), some (.int x2), some (.int x3), none, none] [] (mk_ n r m)
  | Sum.inr (Sum.inl ((x1, x2, x3, m))) => ∀ (Q : Option Value → am_W → Prop) (y4 : Option Value) (y5 : Option Value), Q (en_i q).1 (mk_ n r q.2) → am_T m_X12_look sp_X12_look n Q 64 [some (.ref 106), some (.int x1), some (.int x2), some (.int x3), y4, y5] [] (mk_ n r m)
  | Sum.inr (Sum.inr ((x1, x2, x3, x4, x5, m))) => ∀ (Q : Option Value → am_W → Prop), Q (en_i q).1 (mk_ n r q.2) → am_T m_X12_look sp_X12_look n Q 97 [some (.ref 106), some (.int x1), some (.int x2), some (.int x3), some (.int x4), some (.int x5)] [] (mk_ n r m)
set_option maxRecDepth 100000 in
theorem t_X12_look_20 {n : Nat} {r : Nat → Nat → Option Nat} (hf : fn_F n r) {K : S_X12_look → Option (Int32 × fm_)} {q : Int32 × fm_} (hK : ∀ s, K s = some q → P_X12_look n r s q) (x1 : Int32) (x2 : Int32) (x3 : Int32) (m : fm_)
  (h : am_k K (st_X12_look (Sum.inl ((x1, x2, x3, m)))) = some q) : P_X12_look n r (Sum.inl ((x1, x2, x3, m))) q := fun Q hQ =>
  am_T.wp sm_X12_look (K := am_T m_X12_look sp_X12_look n Q) (cuts := [20, 64, 97]) (fun _ _ _ _ h => h) 20
    (⟨fn_aF hf rfl rfl, fj_if h (fun c1 h2 => ⟨fn_aF hf rfl rfl, ⟨fn_aF hf rfl rfl, hK _ h2 _ _ _ hQ⟩⟩) (fun c1 h2 => fj_bd h2 fun q3 e4 h5 => ⟨Nat.le_of_ble_eq_true rfl, fn_aF hf rfl rfl, ⟨hf, some (.int q3.1), q3.2, gp_X12_go (n := n) (r := r)  e4, fun _ => ⟨fn_aF hf rfl rfl, Or.inl ⟨_, hf.2 106 96 167 rfl, fj_bd h5 fun q6 e7 h8 => ⟨Nat.le_of_ble_eq_true rfl, fn_aF hf rfl rfl, ⟨hf, some (.int q6.1), q6.2, gp_X12_gone (n := n) (r := r)  e7, fun _ => fj_gd h8 fun g10 h9 => ⟨20, fn_aF hf rfl rfl, ix_t g10, hK _ h9 _ hQ⟩⟩⟩⟩⟩⟩⟩)⟩)
set_option maxRecDepth 100000 in
theorem t_X12_look_64 {n : Nat} {r : Nat → Nat → Option Nat} (hf : fn_F n r) {K : S_X12_look → Option (Int32 × fm_)} {q : Int32 × fm_} (hK : ∀ s, K s = some q → P_X12_look n r s q) (x1 : Int32) (x2 : Int32) (x3 : Int32) (m : fm_)
  (h : am_k K (st_X12_look (Sum.inr (Sum.inl ((x1, x2, x3, m))))) = some q) : P_X12_look n r (Sum.inr (Sum.inl ((x1, x2, x3, m)))) q := fun Q y4 y5 hQ =>
  am_T.wp sm_X12_look (K := am_T m_X12_look sp_X12_look n Q) (cuts := [20, 64, 97]) (fun _ _ _ _ h => h) 18
    (fj_if h (fun c1 h2 => ⟨rfl, Or.inr rfl, fj_rt h2 hQ⟩) (fun c1 h2 => ⟨fn_aF hf rfl rfl, fj_in h2 (fun c3 h4 => hK _ h4 _ _ _ hQ) (fun c3 h4 => fj_bd h4 fun q5 e6 h7 => ⟨Nat.le_of_ble_eq_true rfl, trivial, ⟨trivial, some (.int q5.1), q5.2, gp_X12_bitsOf (n := n) (r := r)  e6, fun _ => fj_if h7 (fun c8 h9 => hK _ h9 _ hQ) (fun c8 h9 => hK _ h9 _ _ _ hQ)⟩⟩)⟩))
set_option maxRecDepth 100000 in
theorem t_X12_look_97 {n : Nat} {r : Nat → Nat → Option Nat} (hf : fn_F n r) {K : S_X12_look → Option (Int32 × fm_)} {q : Int32 × fm_} (hK : ∀ s, K s = some q → P_X12_look n r s q) (x1 : Int32) (x2 : Int32) (x3 : Int32) (x4 : Int32) (x5 : Int32) (m : fm_)
  (h : am_k K (st_X12_look (Sum.inr (Sum.inr ((x1, x2, x3, x4, x5, m))))) = some q) : P_X12_look n r (Sum.inr (Sum.inr ((x1, x2, x3, x4, x5, m)))) q := fun Q hQ =>
  am_T.wp sm_X12_look (K := am_T m_X12_look sp_X12_look n Q) (cuts := [20, 64, 97]) (fun _ _ _ _ h => h) 31
    (⟨fn_aF hf rfl rfl, fj_if h (fun c1 h2 => ⟨fn_aF hf rfl rfl, fj_if h2 (fun c3 h4 => hK _ h4 _ _ _ hQ) (fun c3 h4 => ⟨fn_aF hf rfl rfl, fj_in h4 (fun c5 h6 => ⟨fn_aF hf rfl rfl, ⟨fn_aF hf rfl rfl, hK _ h6 _ _ _ hQ⟩⟩) (fun c5 h6 => fj_bd h6 fun q7 e8 h9 => ⟨Nat.le_of_ble_eq_true rfl, trivial, ⟨trivial, some (.int q7.1), q7.2, gp_X12_bitsOf (n := n) (r := r)  e8, fun _ => ⟨fn_aF hf rfl rfl, fj_bd h9 fun q10 e11 h12 => ⟨Nat.le_of_ble_eq_true rfl, trivial, ⟨trivial, some (.int q10.1), q10.2, gp_X12_bitsOf (n := n) (r := r)  e11, fun _ => fj_if h12 (fun c13 h14 => ⟨fn_aF hf rfl rfl, ⟨fn_aF hf rfl rfl, hK _ h14 _ _ _ hQ⟩⟩) (fun c13 h14 => hK _ h14 _ _ _ hQ)⟩⟩⟩⟩⟩)⟩)⟩) (fun c1 h2 => ⟨fn_aF hf rfl rfl, Or.inl ⟨_, hf.2 106 96 167 rfl, fj_gd h2 fun g16 h15 => ⟨20, fn_aF hf rfl rfl, ix_t g16, ⟨fn_aF hf rfl rfl, fj_in h15 (fun c17 h18 => hK _ h18 _ hQ) (fun c17 h18 => ⟨fn_aF hf rfl rfl, Or.inl ⟨_, hf.2 106 96 167 rfl, fj_gd h18 fun g20 h19 => ⟨20, fn_aF hf rfl rfl, ix_t g20, fj_if h19 (fun c21 h22 => hK _ h22 _ hQ) (fun c21 h22 => ⟨fn_aF hf rfl rfl, Or.inl ⟨_, hf.2 106 90 162 rfl, fj_gd h22 fun g24 h23 => ⟨20, fn_aF hf rfl rfl, ix_t g24, hK _ h23 _ hQ⟩⟩⟩)⟩⟩⟩)⟩⟩⟩⟩)⟩)
theorem l_X12_look {n : Nat} {r : Nat → Nat → Option Nat} (hf : fn_F n r) (s : S_X12_look) (q : Int32 × fm_) (h : am_lp (st_X12_look) s = some q) : P_X12_look n r s q :=
  am_lp_snd (P := P_X12_look n r) (fun K hK s q h => match s, h with
    | Sum.inl ((x1, x2, x3, m)), h => t_X12_look_20 hf (fun s => hK s q) x1 x2 x3 m h
    | Sum.inr (Sum.inl ((x1, x2, x3, m))), h => t_X12_look_64 hf (fun s => hK s q) x1 x2 x3 m h
    | Sum.inr (Sum.inr ((x1, x2, x3, x4, x5, m))), h => t_X12_look_97 hf (fun s => hK s q) x1 x2 x3 x4 x5 m h) s q h
set_option maxRecDepth 100000 in
theorem t_X12_look {n : Nat} {r : Nat → Nat → Option Nat} (hf : fn_F n r) {q : Int32 × fm_} (p1 : Int32) (p2 : Int32) {m : fm_}
  (h : f_X12_look p1 p2 m = some q) {Q : Option Value → am_W → Prop} (hQ : Q (en_i q).1 (mk_ n r q.2)) : am_T m_X12_look sp_X12_look n Q 0 [some (.ref 106), some (.int p1), some (.int p2), none, none, none] [] (mk_ n r m) :=
  am_T.wp sm_X12_look (K := am_T m_X12_look sp_X12_look n Q) (cuts := [20, 64, 97]) (fun _ _ _ _ h => h) 12
    (fh_bd h fun q1 e2 h3 => ⟨Nat.le_of_ble_eq_true rfl, trivial, ⟨trivial, some (.int q1.1), q1.2, gp_X12_isDay (n := n) (r := r)  e2, fun _ => fh_if h3 (fun c4 h5 => ⟨rfl, Or.inl rfl, fh_rt h5 hQ⟩) (fun c4 h5 => fh_if h5 (fun c6 h7 => ⟨rfl, Or.inl rfl, fh_rt h7 hQ⟩) (fun c6 h7 => fh_if h7 (fun c8 h9 => l_X12_look hf _ _ h9 _ hQ) (fun c8 h9 => ⟨rfl, Or.inl rfl, fh_rt h9 hQ⟩)))⟩⟩)
noncomputable def G_X12_look (n : Nat) (r : Nat → Nat → Option Nat) (as : List Value) (m : fm_) : Option (Option Value × fm_) := match as with
  | [.ref x0, .int p1, .int p2] => gd_ (Nat.beq x0 106) ((f_X12_look p1 p2 m).map en_i)
  | _ => none
set_option maxRecDepth 100000 in
theorem gp_X12_look {n : Nat} {r : Nat → Nat → Option Nat}  {p1 : Int32} {p2 : Int32} {m : fm_} {q : Int32 × fm_}  (e : f_X12_look p1 p2 m = some q) : G_X12_look n r [.ref 106, .int p1, .int p2] m = some (en_i q) := by
  show (gd_ (Nat.beq 106 106) ((f_X12_look p1 p2 m).map en_i)) = _
  exact fn_gd rfl (fn_mp e)
set_option maxRecDepth 100000 in
theorem ok_X12_look : am_mok 12 280 m_X12_look = true := by decide +kernel
set_option maxRecDepth 100000 in
theorem c_X12_look (l : Launch) {g : am_G} (hg : fx_ l g) : am_Met l g 4 280 (fn_s fn_F G_X12_look) := by
  refine am_sound (own := 12) (M := m_X12_look) (SP := sp_X12_look) hg.1 (by decide +kernel) ok_X12_look (by decide +kernel) ?_ (fun q hq hk => absurd hk (am_no61 (M := m_X12_look) (by decide +kernel) q hq)) (fn_ext l _ rfl g 12) (Or.inl (by decide +kernel)) ?_ ?_
  · intro q hq hk
    have hm : q.2.2.2.1 ∈ am_cs m_X12_look := am_cs_in hq hk
    rw [show am_cs m_X12_look = [219, 272, 277, 279, 279, 279] by decide +kernel] at hm
    have hm : q.2.2.2.1 ∈ [219, 272, 277, 279] := (List.all_eq_true.mp (show ([219, 272, 277, 279, 279, 279] : List Nat).all (fun a => decide (a ∈ ([219, 272, 277, 279] : List Nat))) = true by decide +kernel) _ hm |> of_decide_eq_true)
    simp only [List.mem_cons, List.not_mem_nil, or_false] at hm
    rcases hm with hm | hm | hm | hm
    · rw [hm]; exact ⟨0, by omega, c_X12_isDay l hg⟩
    · rw [hm]; exact ⟨3, by omega, c_X12_go l hg⟩
    · rw [hm]; exact ⟨0, by omega, c_X12_gone l hg⟩
    · rw [hm]; exact ⟨0, by omega, c_X12_bitsOf l hg⟩
  · intro as w K h
    obtain ⟨hf, y, m1, hG, hK⟩ := h
    unfold G_X12_look at hG
    split at hG
    · exact Nat.le_of_ble_eq_true rfl
    · cases hG
  · intro as w K h
    obtain ⟨n, i0, l0, r⟩ := w
    obtain ⟨hf, y, m1, hG, hK⟩ := h
    unfold G_X12_look at hG
    split at hG
    · next x0 p1 p2 =>
      obtain ⟨hx1, hG1⟩ := gd_u hG
      obtain rfl := Nat.eq_of_beq_eq_true hx1
      obtain ⟨q, hq, he⟩ := fn_mu hG1
      obtain ⟨rfl, rfl⟩ := Prod.mk.inj he
      exact t_X12_look  hf  p1 p2 (m := (i0, l0)) hq hK
    · cases hG

/-! == X12_view == -/
noncomputable def f_X12_view (p1 : Int32) (p2 : Int32) (m : fm_) : Option (Int32 × fm_) :=
  (Option.bind (f_X12_look p1 p2 m) fun q1 =>
(if q1.1 = 0 then
((some ((-1), q1.2)))
else
((some ((gi_ q1.2 106 97), q1.2)))))
def sp_X12_view : am_S := fn_sp [(280, fn_F, G_X12_look)]
theorem sm_X12_view : am_Smono (sp_X12_view) := fn_sp_mono _
set_option maxRecDepth 100000 in
theorem t_X12_view {n : Nat} {r : Nat → Nat → Option Nat} (hf : fn_F n r) {q : Int32 × fm_} (p1 : Int32) (p2 : Int32) {m : fm_}
  (h : f_X12_view p1 p2 m = some q) {Q : Option Value → am_W → Prop} (hQ : Q (en_i q).1 (mk_ n r q.2)) : am_T m_X12_view sp_X12_view n Q 0 [some (.ref 106), some (.int p1), some (.int p2)] [] (mk_ n r m) :=
  am_T.wp sm_X12_view (K := am_T m_X12_view sp_X12_view n Q) (cuts := []) (fun _ _ _ _ h => h) 10
    (fh_bd h fun q1 e2 h3 => ⟨Nat.le_of_ble_eq_true rfl, fn_aF hf rfl rfl, ⟨hf, some (.int q1.1), q1.2, gp_X12_look (n := n) (r := r)  e2, fun _ => fh_if h3 (fun c4 h5 => ⟨rfl, fh_rt h5 hQ⟩) (fun c4 h5 => ⟨fn_aF hf rfl rfl, ⟨rfl, fh_rt h5 hQ⟩⟩)⟩⟩)
noncomputable def G_X12_view (n : Nat) (r : Nat → Nat → Option Nat) (as : List Value) (m : fm_) : Option (Option Value × fm_) := match as with
  | [.ref x0, .int p1, .int p2] => gd_ (Nat.beq x0 106) ((f_X12_view p1 p2 m).map en_i)
  | _ => none
set_option maxRecDepth 100000 in
theorem gp_X12_view {n : Nat} {r : Nat → Nat → Option Nat}  {p1 : Int32} {p2 : Int32} {m : fm_} {q : Int32 × fm_}  (e : f_X12_view p1 p2 m = some q) : G_X12_view n r [.ref 106, .int p1, .int p2] m = some (en_i q) := by
  show (gd_ (Nat.beq 106 106) ((f_X12_view p1 p2 m).map en_i)) = _
  exact fn_gd rfl (fn_mp e)
set_option maxRecDepth 100000 in
theorem ok_X12_view : am_mok 12 281 m_X12_view = true := by decide +kernel
set_option maxRecDepth 100000 in
theorem c_X12_view (l : Launch) {g : am_G} (hg : fx_ l g) : am_Met l g 5 281 (fn_s fn_F G_X12_view) := by
  refine am_sound (own := 12) (M := m_X12_view) (SP := sp_X12_view) hg.1 (by decide +kernel) ok_X12_view (by decide +kernel) ?_ (fun q hq hk => absurd hk (am_no61 (M := m_X12_view) (by decide +kernel) q hq)) (fn_ext l _ rfl g 12) (Or.inl (by decide +kernel)) ?_ ?_
  · intro q hq hk
    have hm : q.2.2.2.1 ∈ am_cs m_X12_view := am_cs_in hq hk
    rw [show am_cs m_X12_view = [280] by decide +kernel] at hm
    have hm : q.2.2.2.1 ∈ [280] := (List.all_eq_true.mp (show ([280] : List Nat).all (fun a => decide (a ∈ ([280] : List Nat))) = true by decide +kernel) _ hm |> of_decide_eq_true)
    simp only [List.mem_cons, List.not_mem_nil, or_false] at hm
    rcases hm with hm
    · rw [hm]; exact ⟨4, by omega, c_X12_look l hg⟩
  · intro as w K h
    obtain ⟨hf, y, m1, hG, hK⟩ := h
    unfold G_X12_view at hG
    split at hG
    · exact Nat.le_of_ble_eq_true rfl
    · cases hG
  · intro as w K h
    obtain ⟨n, i0, l0, r⟩ := w
    obtain ⟨hf, y, m1, hG, hK⟩ := h
    unfold G_X12_view at hG
    split at hG
    · next x0 p1 p2 =>
      obtain ⟨hx1, hG1⟩ := gd_u hG
      obtain rfl := Nat.eq_of_beq_eq_true hx1
      obtain ⟨q, hq, he⟩ := fn_mu hG1
      obtain ⟨rfl, rfl⟩ := Prod.mk.inj he
      exact t_X12_view  hf  p1 p2 (m := (i0, l0)) hq hK
    · cases hG

/-! == X12_seen == -/
noncomputable def f_X12_seen (p1 : Int32) (p2 : Int32) (m : fm_) : Option (Int32 × fm_) :=
  (Option.bind (f_X12_look p1 p2 m) fun q1 =>
(if q1.1 = 0 then
((some ((-1), q1.2)))
else
((some ((gi_ q1.2 106 98), q1.2)))))
def sp_X12_seen : am_S := fn_sp [(280, fn_F, G_X12_look)]
theorem sm_X12_seen : am_Smono (sp_X12_seen) := fn_sp_mono _
set_option maxRecDepth 100000 in
theorem t_X12_seen {n : Nat} {r : Nat → Nat → Option Nat} (hf : fn_F n r) {q : Int32 × fm_} (p1 : Int32) (p2 : Int32) {m : fm_}
  (h : f_X12_seen p1 p2 m = some q) {Q : Option Value → am_W → Prop} (hQ : Q (en_i q).1 (mk_ n r q.2)) : am_T m_X12_seen sp_X12_seen n Q 0 [some (.ref 106), some (.int p1), some (.int p2)] [] (mk_ n r m) :=
  am_T.wp sm_X12_seen (K := am_T m_X12_seen sp_X12_seen n Q) (cuts := []) (fun _ _ _ _ h => h) 10
    (fh_bd h fun q1 e2 h3 => ⟨Nat.le_of_ble_eq_true rfl, fn_aF hf rfl rfl, ⟨hf, some (.int q1.1), q1.2, gp_X12_look (n := n) (r := r)  e2, fun _ => fh_if h3 (fun c4 h5 => ⟨rfl, fh_rt h5 hQ⟩) (fun c4 h5 => ⟨fn_aF hf rfl rfl, ⟨rfl, fh_rt h5 hQ⟩⟩)⟩⟩)
noncomputable def G_X12_seen (n : Nat) (r : Nat → Nat → Option Nat) (as : List Value) (m : fm_) : Option (Option Value × fm_) := match as with
  | [.ref x0, .int p1, .int p2] => gd_ (Nat.beq x0 106) ((f_X12_seen p1 p2 m).map en_i)
  | _ => none
set_option maxRecDepth 100000 in
theorem gp_X12_seen {n : Nat} {r : Nat → Nat → Option Nat}  {p1 : Int32} {p2 : Int32} {m : fm_} {q : Int32 × fm_}  (e : f_X12_seen p1 p2 m = some q) : G_X12_seen n r [.ref 106, .int p1, .int p2] m = some (en_i q) := by
  show (gd_ (Nat.beq 106 106) ((f_X12_seen p1 p2 m).map en_i)) = _
  exact fn_gd rfl (fn_mp e)
set_option maxRecDepth 100000 in
theorem ok_X12_seen : am_mok 12 282 m_X12_seen = true := by decide +kernel
set_option maxRecDepth 100000 in
theorem c_X12_seen (l : Launch) {g : am_G} (hg : fx_ l g) : am_Met l g 5 282 (fn_s fn_F G_X12_seen) := by
  refine am_sound (own := 12) (M := m_X12_seen) (SP := sp_X12_seen) hg.1 (by decide +kernel) ok_X12_seen (by decide +kernel) ?_ (fun q hq hk => absurd hk (am_no61 (M := m_X12_seen) (by decide +kernel) q hq)) (fn_ext l _ rfl g 12) (Or.inl (by decide +kernel)) ?_ ?_
  · intro q hq hk
    have hm : q.2.2.2.1 ∈ am_cs m_X12_seen := am_cs_in hq hk
    rw [show am_cs m_X12_seen = [280] by decide +kernel] at hm
    have hm : q.2.2.2.1 ∈ [280] := (List.all_eq_true.mp (show ([280] : List Nat).all (fun a => decide (a ∈ ([280] : List Nat))) = true by decide +kernel) _ hm |> of_decide_eq_true)
    simp only [List.mem_cons, List.not_mem_nil, or_false] at hm
    rcases hm with hm
    · rw [hm]; exact ⟨4, by omega, c_X12_look l hg⟩
  · intro as w K h
    obtain ⟨hf, y, m1, hG, hK⟩ := h
    unfold G_X12_seen at hG
    split at hG
    · exact Nat.le_of_ble_eq_true rfl
    · cases hG
  · intro as w K h
    obtain ⟨n, i0, l0, r⟩ := w
    obtain ⟨hf, y, m1, hG, hK⟩ := h
    unfold G_X12_seen at hG
    split at hG
    · next x0 p1 p2 =>
      obtain ⟨hx1, hG1⟩ := gd_u hG
      obtain rfl := Nat.eq_of_beq_eq_true hx1
      obtain ⟨q, hq, he⟩ := fn_mu hG1
      obtain ⟨rfl, rfl⟩ := Prod.mk.inj he
      exact t_X12_seen  hf  p1 p2 (m := (i0, l0)) hq hK
    · cases hG

/-! == X12_about == -/
noncomputable def f_X12_about (p1 : Int32) (m : fm_) : Option (Int32 × fm_) :=
  (if p1 = 0 then
((some ((gi_ m 106 29), m)))
else
(if p1 = 1 then
(Option.bind (f_X12_bitsOf (gi_ m 106 31) m) fun q5 =>
((some (q5.1, q5.2))))
else
(if p1 = 2 then
((some ((gi_ m 106 30), m)))
else
(if p1 = 3 then
((some ((gi_ m 106 33), m)))
else
(if p1 = 4 then
((some ((gi_ m 106 57), m)))
else
(if p1 = 5 then
((some ((gi_ m 106 58), m)))
else
(if p1 = 6 then
((some ((gi_ m 106 59), m)))
else
(if p1 = 7 then
((some ((gi_ m 106 87), m)))
else
(if p1 = 8 then
((some ((gi_ m 106 81), m)))
else
(if p1 = 9 then
((some ((gi_ m 106 1), m)))
else
((some ((-1), m)))))))))))))
def sp_X12_about : am_S := fn_sp [(279, fn_0, G_X12_bitsOf)]
theorem sm_X12_about : am_Smono (sp_X12_about) := fn_sp_mono _
set_option maxRecDepth 100000 in
theorem t_X12_about {n : Nat} {r : Nat → Nat → Option Nat} (hf : fn_F n r) {q : Int32 × fm_} (p1 : Int32) {m : fm_}
  (h : f_X12_about p1 m = some q) {Q : Option Value → am_W → Prop} (hQ : Q (en_i q).1 (mk_ n r q.2)) : am_T m_X12_about sp_X12_about n Q 0 [some (.ref 106), some (.int p1)] [] (mk_ n r m) :=
  am_T.wp sm_X12_about (K := am_T m_X12_about sp_X12_about n Q) (cuts := []) (fun _ _ _ _ h => h) 7
    (⟨fun c1 => have h2 := fh_t h c1; ⟨fn_aF hf rfl rfl, ⟨rfl, fh_rt h2 hQ⟩⟩, fun c1 => have h2 := fh_f h c1; am_swc (fh_if h2 (fun c3 h4 => ⟨fn_aF hf rfl rfl, fh_bd h4 fun q5 e6 h7 => ⟨Nat.le_of_ble_eq_true rfl, trivial, ⟨trivial, some (.int q5.1), q5.2, gp_X12_bitsOf (n := n) (r := r)  e6, fun _ => ⟨rfl, fh_rt h7 hQ⟩⟩⟩⟩) (fun c3 h4 => am_swc (fh_if h4 (fun c8 h9 => ⟨fn_aF hf rfl rfl, ⟨rfl, fh_rt h9 hQ⟩⟩) (fun c8 h9 => am_swc (fh_if h9 (fun c10 h11 => ⟨fn_aF hf rfl rfl, ⟨rfl, fh_rt h11 hQ⟩⟩) (fun c10 h11 => am_swc (fh_if h11 (fun c12 h13 => ⟨fn_aF hf rfl rfl, ⟨rfl, fh_rt h13 hQ⟩⟩) (fun c12 h13 => am_swc (fh_if h13 (fun c14 h15 => ⟨fn_aF hf rfl rfl, ⟨rfl, fh_rt h15 hQ⟩⟩) (fun c14 h15 => am_swc (fh_if h15 (fun c16 h17 => ⟨fn_aF hf rfl rfl, ⟨rfl, fh_rt h17 hQ⟩⟩) (fun c16 h17 => am_swc (fh_if h17 (fun c18 h19 => ⟨fn_aF hf rfl rfl, ⟨rfl, fh_rt h19 hQ⟩⟩) (fun c18 h19 => am_swc (fh_if h19 (fun c20 h21 => ⟨fn_aF hf rfl rfl, ⟨rfl, fh_rt h21 hQ⟩⟩) (fun c20 h21 => am_swc (fh_if h21 (fun c22 h23 => ⟨fn_aF hf rfl rfl, ⟨rfl, fh_rt h23 hQ⟩⟩) (fun c22 h23 => am_swn (⟨rfl, fh_rt h23 hQ⟩)))))))))))))))))))⟩)
noncomputable def G_X12_about (n : Nat) (r : Nat → Nat → Option Nat) (as : List Value) (m : fm_) : Option (Option Value × fm_) := match as with
  | [.ref x0, .int p1] => gd_ (Nat.beq x0 106) ((f_X12_about p1 m).map en_i)
  | _ => none
set_option maxRecDepth 100000 in
theorem gp_X12_about {n : Nat} {r : Nat → Nat → Option Nat}  {p1 : Int32} {m : fm_} {q : Int32 × fm_}  (e : f_X12_about p1 m = some q) : G_X12_about n r [.ref 106, .int p1] m = some (en_i q) := by
  show (gd_ (Nat.beq 106 106) ((f_X12_about p1 m).map en_i)) = _
  exact fn_gd rfl (fn_mp e)
set_option maxRecDepth 100000 in
theorem ok_X12_about : am_mok 12 283 m_X12_about = true := by decide +kernel
set_option maxRecDepth 100000 in
theorem c_X12_about (l : Launch) {g : am_G} (hg : fx_ l g) : am_Met l g 1 283 (fn_s fn_F G_X12_about) := by
  refine am_sound (own := 12) (M := m_X12_about) (SP := sp_X12_about) hg.1 (by decide +kernel) ok_X12_about (by decide +kernel) ?_ (fun q hq hk => absurd hk (am_no61 (M := m_X12_about) (by decide +kernel) q hq)) (fn_ext l _ rfl g 12) (Or.inl (by decide +kernel)) ?_ ?_
  · intro q hq hk
    have hm : q.2.2.2.1 ∈ am_cs m_X12_about := am_cs_in hq hk
    rw [show am_cs m_X12_about = [279] by decide +kernel] at hm
    have hm : q.2.2.2.1 ∈ [279] := (List.all_eq_true.mp (show ([279] : List Nat).all (fun a => decide (a ∈ ([279] : List Nat))) = true by decide +kernel) _ hm |> of_decide_eq_true)
    simp only [List.mem_cons, List.not_mem_nil, or_false] at hm
    rcases hm with hm
    · rw [hm]; exact ⟨0, by omega, c_X12_bitsOf l hg⟩
  · intro as w K h
    obtain ⟨hf, y, m1, hG, hK⟩ := h
    unfold G_X12_about at hG
    split at hG
    · exact Nat.le_of_ble_eq_true rfl
    · cases hG
  · intro as w K h
    obtain ⟨n, i0, l0, r⟩ := w
    obtain ⟨hf, y, m1, hG, hK⟩ := h
    unfold G_X12_about at hG
    split at hG
    · next x0 p1 =>
      obtain ⟨hx1, hG1⟩ := gd_u hG
      obtain rfl := Nat.eq_of_beq_eq_true hx1
      obtain ⟨q, hq, he⟩ := fn_mu hG1
      obtain ⟨rfl, rfl⟩ := Prod.mk.inj he
      exact t_X12_about  hf  p1 (m := (i0, l0)) hq hK
    · cases hG

