/-! == X12_isDouble == -/
abbrev S_X12_isDouble : Type := (Int32 × Int32 × Int32 × Int32 × Int32 × fm_) ⊕ (Int32 × Int32 × Int32 × Int32 × Int32 × Int32 × fm_)
noncomputable def st_X12_isDouble (s : S_X12_isDouble) : Option (S_X12_isDouble ⊕ (Int32 × fm_)) := match s with
  | Sum.inl ((x1, x2, x3, x4, x5, m)) =>
    (if (gi_ m 106 58) ≤ x5 then
(if x4 = 0 then
((some (Sum.inr (0, m))))
else
((some (Sum.inr (1, m)))))
else
(gd_ (ix_ x5 200)
(if (gi_ m 141 (Int32.toNatClampNeg x5)) = 1 then
(gd_ (ix_ x5 200)
(if (gi_ m 143 (Int32.toNatClampNeg x5)) = x2 then
(Option.bind (f_X12_counts x5 x3 m) fun q13 =>
(if q13.1 = 0 then
((some (Sum.inl (Sum.inl ((x1, x2, x3, x4, (x5 + 1), q13.2))))))
else
(Option.bind (f_X12_price x5 x1 q13.2) fun q18 =>
(if q18.1 = 0 then
((some (Sum.inl (Sum.inr ((x1, x2, x3, x4, x5, 0, q18.2))))))
else
((some (Sum.inl (Sum.inl ((x1, x2, x3, x4, (x5 + 1), q18.2))))))))))
else
((some (Sum.inl (Sum.inl ((x1, x2, x3, x4, (x5 + 1), m))))))))
else
((some (Sum.inl (Sum.inl ((x1, x2, x3, x4, (x5 + 1), m)))))))))
  | Sum.inr ((x1, x2, x3, x4, x5, x6, m)) =>
    (if x5 ≤ x6 then
((some (Sum.inl (Sum.inl ((x1, x2, x3, x4, (x5 + 1), m))))))
else
(if x4 = 0 then
(gd_ (ix_ x6 200)
(if (gi_ m 141 (Int32.toNatClampNeg x6)) = 1 then
(gd_ (ix_ x6 200)
(if (gi_ m 143 (Int32.toNatClampNeg x6)) = x2 then
(Option.bind (f_X12_counts x6 x3 m) fun q13 =>
(if q13.1 = 0 then
((some (Sum.inl (Sum.inr ((x1, x2, x3, 0, x5, (x6 + 1), q13.2))))))
else
(Option.bind (f_X12_price x6 x1 q13.2) fun q18 =>
(if q18.1 = 0 then
(Option.bind (f_X12_together x5 x6 q18.2) fun q23 =>
(if q23.1 = 0 then
((some (Sum.inl (Sum.inr ((x1, x2, x3, 1, x5, (x6 + 1), q23.2))))))
else
((some (Sum.inl (Sum.inr ((x1, x2, x3, 0, x5, (x6 + 1), q23.2))))))))
else
((some (Sum.inl (Sum.inr ((x1, x2, x3, 0, x5, (x6 + 1), q18.2))))))))))
else
((some (Sum.inl (Sum.inr ((x1, x2, x3, 0, x5, (x6 + 1), m))))))))
else
((some (Sum.inl (Sum.inr ((x1, x2, x3, 0, x5, (x6 + 1), m))))))))
else
((some (Sum.inl (Sum.inr ((x1, x2, x3, 1, x5, (x6 + 1), m))))))))
noncomputable def f_X12_isDouble_23 (x1 : Int32) (x2 : Int32) (x3 : Int32) (x4 : Int32) (x5 : Int32) (m : fm_) : Option (Int32 × fm_) := am_lp (st_X12_isDouble) (Sum.inl ((x1, x2, x3, x4, x5, m)))
noncomputable def f_X12_isDouble_80 (x1 : Int32) (x2 : Int32) (x3 : Int32) (x4 : Int32) (x5 : Int32) (x6 : Int32) (m : fm_) : Option (Int32 × fm_) := am_lp (st_X12_isDouble) (Sum.inr ((x1, x2, x3, x4, x5, x6, m)))
theorem e_X12_isDouble_23 (x1 : Int32) (x2 : Int32) (x3 : Int32) (x4 : Int32) (x5 : Int32) (m : fm_) : f_X12_isDouble_23 x1 x2 x3 x4 x5 m =
(if (gi_ m 106 58) ≤ x5 then
(if x4 = 0 then
((some (0, m)))
else
((some (1, m))))
else
(gd_ (ix_ x5 200)
(if (gi_ m 141 (Int32.toNatClampNeg x5)) = 1 then
(gd_ (ix_ x5 200)
(if (gi_ m 143 (Int32.toNatClampNeg x5)) = x2 then
(Option.bind (f_X12_counts x5 x3 m) fun q13 =>
(if q13.1 = 0 then
((f_X12_isDouble_23 x1 x2 x3 x4 (x5 + 1) q13.2))
else
(Option.bind (f_X12_price x5 x1 q13.2) fun q18 =>
(if q18.1 = 0 then
((f_X12_isDouble_80 x1 x2 x3 x4 x5 0 q18.2))
else
((f_X12_isDouble_23 x1 x2 x3 x4 (x5 + 1) q18.2))))))
else
((f_X12_isDouble_23 x1 x2 x3 x4 (x5 + 1) m))))
else
((f_X12_isDouble_23 x1 x2 x3 x4 (x5 + 1) m))))) :=
  (am_lp_eq _ _).trans (fe_if (fe_if (rfl) (rfl)) (fe_gd (fe_if (fe_gd (fe_if (fe_bd fun q13 => (fe_if (rfl) (fe_bd fun q18 => (fe_if (rfl) (rfl))))) (rfl))) (rfl))))
theorem e_X12_isDouble_80 (x1 : Int32) (x2 : Int32) (x3 : Int32) (x4 : Int32) (x5 : Int32) (x6 : Int32) (m : fm_) : f_X12_isDouble_80 x1 x2 x3 x4 x5 x6 m =
(if x5 ≤ x6 then
((f_X12_isDouble_23 x1 x2 x3 x4 (x5 + 1) m))
else
(if x4 = 0 then
(gd_ (ix_ x6 200)
(if (gi_ m 141 (Int32.toNatClampNeg x6)) = 1 then
(gd_ (ix_ x6 200)
(if (gi_ m 143 (Int32.toNatClampNeg x6)) = x2 then
(Option.bind (f_X12_counts x6 x3 m) fun q13 =>
(if q13.1 = 0 then
((f_X12_isDouble_80 x1 x2 x3 0 x5 (x6 + 1) q13.2))
else
(Option.bind (f_X12_price x6 x1 q13.2) fun q18 =>
(if q18.1 = 0 then
(Option.bind (f_X12_together x5 x6 q18.2) fun q23 =>
(if q23.1 = 0 then
((f_X12_isDouble_80 x1 x2 x3 1 x5 (x6 + 1) q23.2))
else
((f_X12_isDouble_80 x1 x2 x3 0 x5 (x6 + 1) q23.2))))
else
((f_X12_isDouble_80 x1 x2 x3 0 x5 (x6 + 1) q18.2))))))
else
((f_X12_isDouble_80 x1 x2 x3 0 x5 (x6 + 1) m))))
else
((f_X12_isDouble_80 x1 x2 x3 0 x5 (x6 + 1) m))))
else
((f_X12_isDouble_80 x1 x2 x3 1 x5 (x6 + 1) m)))) :=
  (am_lp_eq _ _).trans (fe_if (rfl) (fe_if (fe_gd (fe_if (fe_gd (fe_if (fe_bd fun q13 => (fe_if (rfl) (fe_bd fun q18 => (fe_if (fe_bd fun q23 => (fe_if (rfl) (rfl))) (rfl))))) (rfl))) (rfl))) (rfl)))
noncomputable def f_X12_isDouble (p1 : Int32) (p2 : Int32) (p3 : Int32) (m : fm_) : Option (Int32 × fm_) :=
  (Option.bind (f_X12_isPlate p1 m) fun q1 =>
(if q1.1 = 0 then
((some ((-1), q1.2)))
else
(Option.bind (f_X12_isDay p2 q1.2) fun q6 =>
(if q6.1 = 0 then
((some ((-1), q6.2)))
else
((f_X12_isDouble_23 p1 p2 p3 0 0 q6.2))))))
def sp_X12_isDouble : am_S := fn_sp [(227, fn_F, G_X12_isPlate), (219, fn_0, G_X12_isDay), (235, fn_F, G_X12_counts), (237, fn_F, G_X12_price), (241, fn_F, G_X12_together)]
theorem sm_X12_isDouble : am_Smono (sp_X12_isDouble) := fn_sp_mono _
def P_X12_isDouble (n : Nat) (r : Nat → Nat → Option Nat) (s : S_X12_isDouble) (q : Int32 × fm_) : Prop := match s with
  | Sum.inl ((x1, x2, x3, x4, x5, m)) => ∀ (Q : Option Value → am_W → Prop) (y6 : Option Value), Q (en_i q).1 (mk_ n r q.2) → am_T m_X12_isDouble sp_X12_isDouble n Q 23 [some (.ref 106), some (.int x1), some (.int x2), some (.int x3), some (.int x4), some (.int x5), y6] [] (mk_ n r m)
  | Sum.inr ((x1, x2, x3, x4, x5, x6, m)) => ∀ (Q : Option Value → am_W → Prop), Q (en_i q).1 (mk_ n r q.2) → am_T m_X12_isDouble sp_X12_isDouble n Q 80 [some (.ref 106), some (.int x1), some (.int x2), some (.int x3), some (.int x4), some (.int x5), some (.int x6)] [] (mk_ n r m)
set_option maxRecDepth 100000 in
theorem t_X12_isDouble_23 {n : Nat} {r : Nat → Nat → Option Nat} (hf : fn_F n r) {K : S_X12_isDouble → Option (Int32 × fm_)} {q : Int32 × fm_} (hK : ∀ s, K s = some q → P_X12_isDouble n r s q) (x1 : Int32) (x2 : Int32) (x3 : Int32) (x4 : Int32) (x5 : Int32) (m : fm_)
  (h : am_k K (st_X12_isDouble (Sum.inl ((x1, x2, x3, x4, x5, m)))) = some q) : P_X12_isDouble n r (Sum.inl ((x1, x2, x3, x4, x5, m))) q := fun Q y6 hQ =>
  am_T.wp sm_X12_isDouble (K := am_T m_X12_isDouble sp_X12_isDouble n Q) (cuts := [23, 80]) (fun _ _ _ _ h => h) 31
    (⟨fn_aF hf rfl rfl, fj_if h (fun c1 h2 => fj_if h2 (fun c3 h4 => ⟨rfl, fj_rt h4 hQ⟩) (fun c3 h4 => ⟨rfl, fj_rt h4 hQ⟩)) (fun c1 h2 => ⟨fn_aF hf rfl rfl, Or.inl ⟨_, hf.2 106 63 141 rfl, fj_gd h2 fun g6 h5 => ⟨200, fn_aF hf rfl rfl, ix_t g6, fj_in h5 (fun c7 h8 => hK _ h8 _ _ hQ) (fun c7 h8 => ⟨fn_aF hf rfl rfl, Or.inl ⟨_, hf.2 106 65 143 rfl, fj_gd h8 fun g10 h9 => ⟨200, fn_aF hf rfl rfl, ix_t g10, fj_in h9 (fun c11 h12 => hK _ h12 _ _ hQ) (fun c11 h12 => fj_bd h12 fun q13 e14 h15 => ⟨Nat.le_of_ble_eq_true rfl, fn_aF hf rfl rfl, ⟨hf, some (.int q13.1), q13.2, gp_X12_counts (n := n) (r := r)  e14, fun _ => fj_if h15 (fun c16 h17 => hK _ h17 _ _ hQ) (fun c16 h17 => fj_bd h17 fun q18 e19 h20 => ⟨Nat.le_of_ble_eq_true rfl, fn_aF hf rfl rfl, ⟨hf, some (.int q18.1), q18.2, gp_X12_price (n := n) (r := r)  e19, fun _ => fj_if h20 (fun c21 h22 => hK _ h22 _ hQ) (fun c21 h22 => hK _ h22 _ _ hQ)⟩⟩)⟩⟩)⟩⟩⟩)⟩⟩⟩)⟩)
set_option maxRecDepth 100000 in
theorem t_X12_isDouble_80 {n : Nat} {r : Nat → Nat → Option Nat} (hf : fn_F n r) {K : S_X12_isDouble → Option (Int32 × fm_)} {q : Int32 × fm_} (hK : ∀ s, K s = some q → P_X12_isDouble n r s q) (x1 : Int32) (x2 : Int32) (x3 : Int32) (x4 : Int32) (x5 : Int32) (x6 : Int32) (m : fm_)
  (h : am_k K (st_X12_isDouble (Sum.inr ((x1, x2, x3, x4, x5, x6, m)))) = some q) : P_X12_isDouble n r (Sum.inr ((x1, x2, x3, x4, x5, x6, m))) q := fun Q hQ =>
  am_T.wp sm_X12_isDouble (K := am_T m_X12_isDouble sp_X12_isDouble n Q) (cuts := [23, 80]) (fun _ _ _ _ h => h) 39
    (fj_if h (fun c1 h2 => hK _ h2 _ _ hQ) (fun c1 h2 => fj_in h2 (fun c3 h4 => hK _ h4 _ hQ) (fun c3 h4 => ⟨fn_aF hf rfl rfl, Or.inl ⟨_, hf.2 106 63 141 rfl, fj_gd h4 fun g6 h5 => ⟨200, fn_aF hf rfl rfl, ix_t g6, fj_in h5 (fun c7 h8 => hK _ h8 _ hQ) (fun c7 h8 => ⟨fn_aF hf rfl rfl, Or.inl ⟨_, hf.2 106 65 143 rfl, fj_gd h8 fun g10 h9 => ⟨200, fn_aF hf rfl rfl, ix_t g10, fj_in h9 (fun c11 h12 => hK _ h12 _ hQ) (fun c11 h12 => fj_bd h12 fun q13 e14 h15 => ⟨Nat.le_of_ble_eq_true rfl, fn_aF hf rfl rfl, ⟨hf, some (.int q13.1), q13.2, gp_X12_counts (n := n) (r := r)  e14, fun _ => fj_if h15 (fun c16 h17 => hK _ h17 _ hQ) (fun c16 h17 => fj_bd h17 fun q18 e19 h20 => ⟨Nat.le_of_ble_eq_true rfl, fn_aF hf rfl rfl, ⟨hf, some (.int q18.1), q18.2, gp_X12_price (n := n) (r := r)  e19, fun _ => fj_in h20 (fun c21 h22 => hK _ h22 _ hQ) (fun c21 h22 => fj_bd h22 fun q23 e24 h25 => ⟨Nat.le_of_ble_eq_true rfl, fn_aF hf rfl rfl, ⟨hf, some (.int q23.1), q23.2, gp_X12_together (n := n) (r := r)  e24, fun _ => fj_in h25 (fun c26 h27 => hK _ h27 _ hQ) (fun c26 h27 => hK _ h27 _ hQ)⟩⟩)⟩⟩)⟩⟩)⟩⟩⟩)⟩⟩⟩)))
theorem l_X12_isDouble {n : Nat} {r : Nat → Nat → Option Nat} (hf : fn_F n r) (s : S_X12_isDouble) (q : Int32 × fm_) (h : am_lp (st_X12_isDouble) s = some q) : P_X12_isDouble n r s q :=
  am_lp_snd (P := P_X12_isDouble n r) (fun K hK s q h => match s, h with
    | Sum.inl ((x1, x2, x3, x4, x5, m)), h => t_X12_isDouble_23 hf (fun s => hK s q) x1 x2 x3 x4 x5 m h
    | Sum.inr ((x1, x2, x3, x4, x5, x6, m)), h => t_X12_isDouble_80 hf (fun s => hK s q) x1 x2 x3 x4 x5 x6 m h) s q h
set_option maxRecDepth 100000 in
theorem t_X12_isDouble {n : Nat} {r : Nat → Nat → Option Nat} (hf : fn_F n r) {q : Int32 × fm_} (p1 : Int32) (p2 : Int32) (p3 : Int32) {m : fm_}
  (h : f_X12_isDouble p1 p2 p3 m = some q) {Q : Option Value → am_W → Prop} (hQ : Q (en_i q).1 (mk_ n r q.2)) : am_T m_X12_isDouble sp_X12_isDouble n Q 0 [some (.ref 106), some (.int p1), some (.int p2), some (.int p3), none, none, none] [] (mk_ n r m) :=
  am_T.wp sm_X12_isDouble (K := am_T m_X12_isDouble sp_X12_isDouble n Q) (cuts := [23, 80]) (fun _ _ _ _ h => h) 13
    (fh_bd h fun q1 e2 h3 => ⟨Nat.le_of_ble_eq_true rfl, fn_aF hf rfl rfl, ⟨hf, some (.int q1.1), q1.2, gp_X12_isPlate (n := n) (r := r)  e2, fun _ => fh_if h3 (fun c4 h5 => ⟨rfl, fh_rt h5 hQ⟩) (fun c4 h5 => fh_bd h5 fun q6 e7 h8 => ⟨Nat.le_of_ble_eq_true rfl, trivial, ⟨trivial, some (.int q6.1), q6.2, gp_X12_isDay (n := n) (r := r)  e7, fun _ => fh_in h8 (fun c9 h10 => l_X12_isDouble hf _ _ h10 _ _ hQ) (fun c9 h10 => ⟨rfl, fh_rt h10 hQ⟩)⟩⟩)⟩⟩)
noncomputable def G_X12_isDouble (n : Nat) (r : Nat → Nat → Option Nat) (as : List Value) (m : fm_) : Option (Option Value × fm_) := match as with
  | [.ref x0, .int p1, .int p2, .int p3] => gd_ (Nat.beq x0 106) ((f_X12_isDouble p1 p2 p3 m).map en_i)
  | _ => none
set_option maxRecDepth 100000 in
theorem gp_X12_isDouble {n : Nat} {r : Nat → Nat → Option Nat}  {p1 : Int32} {p2 : Int32} {p3 : Int32} {m : fm_} {q : Int32 × fm_}  (e : f_X12_isDouble p1 p2 p3 m = some q) : G_X12_isDouble n r [.ref 106, .int p1, .int p2, .int p3] m = some (en_i q) := by
  show (gd_ (Nat.beq 106 106) ((f_X12_isDouble p1 p2 p3 m).map en_i)) = _
  exact fn_gd rfl (fn_mp e)
set_option maxRecDepth 100000 in
theorem ok_X12_isDouble : am_mok 12 246 m_X12_isDouble = true := by decide +kernel
set_option maxRecDepth 100000 in
theorem c_X12_isDouble (l : Launch) {g : am_G} (hg : fx_ l g) : am_Met l g 2 246 (fn_s fn_F G_X12_isDouble) := by
  refine am_sound (own := 12) (M := m_X12_isDouble) (SP := sp_X12_isDouble) hg.1 (by decide +kernel) ok_X12_isDouble (by decide +kernel) ?_ (fun q hq hk => absurd hk (am_no61 (M := m_X12_isDouble) (by decide +kernel) q hq)) (fn_ext l _ rfl g 12) (Or.inl (by decide +kernel)) ?_ ?_
  · intro q hq hk
    have hm : q.2.2.2.1 ∈ am_cs m_X12_isDouble := am_cs_in hq hk
    rw [show am_cs m_X12_isDouble = [227, 219, 235, 237, 235, 237, 241] by decide +kernel] at hm
    have hm : q.2.2.2.1 ∈ [219, 227, 235, 237, 241] := (List.all_eq_true.mp (show ([227, 219, 235, 237, 235, 237, 241] : List Nat).all (fun a => decide (a ∈ ([219, 227, 235, 237, 241] : List Nat))) = true by decide +kernel) _ hm |> of_decide_eq_true)
    simp only [List.mem_cons, List.not_mem_nil, or_false] at hm
    rcases hm with hm | hm | hm | hm | hm
    · rw [hm]; exact ⟨0, by omega, c_X12_isDay l hg⟩
    · rw [hm]; exact ⟨0, by omega, c_X12_isPlate l hg⟩
    · rw [hm]; exact ⟨0, by omega, c_X12_counts l hg⟩
    · rw [hm]; exact ⟨1, by omega, c_X12_price l hg⟩
    · rw [hm]; exact ⟨1, by omega, c_X12_together l hg⟩
  · intro as w K h
    obtain ⟨hf, y, m1, hG, hK⟩ := h
    unfold G_X12_isDouble at hG
    split at hG
    · exact Nat.le_of_ble_eq_true rfl
    · cases hG
  · intro as w K h
    obtain ⟨n, i0, l0, r⟩ := w
    obtain ⟨hf, y, m1, hG, hK⟩ := h
    unfold G_X12_isDouble at hG
    split at hG
    · next x0 p1 p2 p3 =>
      obtain ⟨hx1, hG1⟩ := gd_u hG
      obtain rfl := Nat.eq_of_beq_eq_true hx1
      obtain ⟨q, hq, he⟩ := fn_mu hG1
      obtain ⟨rfl, rfl⟩ := Prod.mk.inj he
      exact t_X12_isDouble  hf  p1 p2 p3 (m := (i0, l0)) hq hK
    · cases hG

/-! == X12_line == -/
abbrev S_X12_line : Type := (Int32 × Int32 × fm_) ⊕ (Int32 × Int32 × Int32 × fm_)
noncomputable def st_X12_line (s : S_X12_line) : Option (S_X12_line ⊕ (Int32 × fm_)) := match s with
  | Sum.inl ((x1, x2, m)) =>
    (if (gi_ m 106 77) ≤ x2 then
((some (Sum.inr (0, m))))
else
(gd_ (ix_ x2 8)
(if (gi_ m 153 (Int32.toNatClampNeg x2)) = x1 then
((some (Sum.inl (Sum.inr ((x1, x2, (gi_ m 106 80), m))))))
else
((some (Sum.inl (Sum.inl ((x1, (x2 + 1), m)))))))))
  | Sum.inr ((x1, x2, x3, m)) =>
    (if x3 ≤ 0 then
(gd_ (ix_ x2 8)
(gd_ (ix_ x3 8)
((some (Sum.inl (Sum.inl ((x1, (x2 + 1), (si_ (si_ m 155 (Int32.toNatClampNeg x3) (gi_ m 151 (Int32.toNatClampNeg x2))) 106 80 ((gi_ m 106 80) + 1))))))))))
else
(gd_ (ix_ (x3 - 1) 8)
(gd_ (ix_ (gi_ m 155 (Int32.toNatClampNeg (x3 - 1))) 200)
(gd_ (ix_ x2 8)
(gd_ (ix_ (gi_ m 151 (Int32.toNatClampNeg x2)) 200)
(if (gi_ m 144 (Int32.toNatClampNeg (gi_ m 155 (Int32.toNatClampNeg (x3 - 1))))) ≤ (gi_ m 144 (Int32.toNatClampNeg (gi_ m 151 (Int32.toNatClampNeg x2)))) then
(gd_ (ix_ x2 8)
(gd_ (ix_ x3 8)
((some (Sum.inl (Sum.inl ((x1, (x2 + 1), (si_ (si_ m 155 (Int32.toNatClampNeg x3) (gi_ m 151 (Int32.toNatClampNeg x2))) 106 80 ((gi_ m 106 80) + 1))))))))))
else
(gd_ (ix_ (x3 - 1) 8)
(gd_ (ix_ x3 8)
((some (Sum.inl (Sum.inr ((x1, x2, (x3 + (-1)), (si_ m 155 (Int32.toNatClampNeg x3) (gi_ m 155 (Int32.toNatClampNeg (x3 - 1))))))))))))))))))
noncomputable def f_X12_line_7 (x1 : Int32) (x2 : Int32) (m : fm_) : Option (Int32 × fm_) := am_lp (st_X12_line) (Sum.inl ((x1, x2, m)))
noncomputable def f_X12_line_33 (x1 : Int32) (x2 : Int32) (x3 : Int32) (m : fm_) : Option (Int32 × fm_) := am_lp (st_X12_line) (Sum.inr ((x1, x2, x3, m)))
theorem e_X12_line_7 (x1 : Int32) (x2 : Int32) (m : fm_) : f_X12_line_7 x1 x2 m =
(if (gi_ m 106 77) ≤ x2 then
((some (0, m)))
else
(gd_ (ix_ x2 8)
(if (gi_ m 153 (Int32.toNatClampNeg x2)) = x1 then
((f_X12_line_33 x1 x2 (gi_ m 106 80) m))
else
((f_X12_line_7 x1 (x2 + 1) m))))) :=
  (am_lp_eq _ _).trans (fe_if (rfl) (fe_gd (fe_if (rfl) (rfl))))
theorem e_X12_line_33 (x1 : Int32) (x2 : Int32) (x3 : Int32) (m : fm_) : f_X12_line_33 x1 x2 x3 m =
(if x3 ≤ 0 then
(gd_ (ix_ x2 8)
(gd_ (ix_ x3 8)
((f_X12_line_7 x1 (x2 + 1) (si_ (si_ m 155 (Int32.toNatClampNeg x3) (gi_ m 151 (Int32.toNatClampNeg x2))) 106 80 ((gi_ m 106 80) + 1))))))
else
(gd_ (ix_ (x3 - 1) 8)
(gd_ (ix_ (gi_ m 155 (Int32.toNatClampNeg (x3 - 1))) 200)
(gd_ (ix_ x2 8)
(gd_ (ix_ (gi_ m 151 (Int32.toNatClampNeg x2)) 200)
(if (gi_ m 144 (Int32.toNatClampNeg (gi_ m 155 (Int32.toNatClampNeg (x3 - 1))))) ≤ (gi_ m 144 (Int32.toNatClampNeg (gi_ m 151 (Int32.toNatClampNeg x2)))) then
(gd_ (ix_ x2 8)
(gd_ (ix_ x3 8)
((f_X12_line_7 x1 (x2 + 1) (si_ (si_ m 155 (Int32.toNatClampNeg x3) (gi_ m 151 (Int32.toNatClampNeg x2))) 106 80 ((gi_ m 106 80) + 1))))))
else
(gd_ (ix_ (x3 - 1) 8)
(gd_ (ix_ x3 8)
((f_X12_line_33 x1 x2 (x3 + (-1)) (si_ m 155 (Int32.toNatClampNeg x3) (gi_ m 155 (Int32.toNatClampNeg (x3 - 1)))))))))))))) :=
  (am_lp_eq _ _).trans (fe_if (fe_gd (fe_gd (rfl))) (fe_gd (fe_gd (fe_gd (fe_gd (fe_if (fe_gd (fe_gd (rfl))) (fe_gd (fe_gd (rfl)))))))))
noncomputable def f_X12_line (p1 : Int32) (m : fm_) : Option (Int32 × fm_) :=
  ((f_X12_line_7 p1 0 (si_ m 106 80 0)))
def sp_X12_line : am_S := fn_sp []
theorem sm_X12_line : am_Smono (sp_X12_line) := fn_sp_mono _
def P_X12_line (n : Nat) (r : Nat → Nat → Option Nat) (s : S_X12_line) (q : Int32 × fm_) : Prop := match s with
  | Sum.inl ((x1, x2, m)) => ∀ (Q : Option Value → am_W → Prop) (y3 : Option Value), Q (en_v q).1 (mk_ n r q.2) → am_T m_X12_line sp_X12_line n Q 7 [some (.ref 106), some (.int x1), some (.int x2), y3] [] (mk_ n r m)
  | Sum.inr ((x1, x2, x3, m)) => ∀ (Q : Option Value → am_W → Prop), Q (en_v q).1 (mk_ n r q.2) → am_T m_X12_line sp_X12_line n Q 33 [some (.ref 106), some (.int x1), some (.int x2), some (.int x3)] [] (mk_ n r m)
set_option maxRecDepth 100000 in
theorem t_X12_line_7 {n : Nat} {r : Nat → Nat → Option Nat} (hf : fn_F n r) {K : S_X12_line → Option (Int32 × fm_)} {q : Int32 × fm_} (hK : ∀ s, K s = some q → P_X12_line n r s q) (x1 : Int32) (x2 : Int32) (m : fm_)
  (h : am_k K (st_X12_line (Sum.inl ((x1, x2, m)))) = some q) : P_X12_line n r (Sum.inl ((x1, x2, m))) q := fun Q y3 hQ =>
  am_T.wp sm_X12_line (K := am_T m_X12_line sp_X12_line n Q) (cuts := [7, 33]) (fun _ _ _ _ h => h) 15
    (⟨fn_aF hf rfl rfl, fj_if h (fun c1 h2 => ⟨rfl, fj_rt h2 hQ⟩) (fun c1 h2 => ⟨fn_aF hf rfl rfl, Or.inl ⟨_, hf.2 106 75 153 rfl, fj_gd h2 fun g4 h3 => ⟨8, fn_aF hf rfl rfl, ix_t g4, fj_if h3 (fun c5 h6 => ⟨fn_aF hf rfl rfl, hK _ h6 _ hQ⟩) (fun c5 h6 => hK _ h6 _ _ hQ)⟩⟩⟩)⟩)
set_option maxRecDepth 100000 in
theorem t_X12_line_33 {n : Nat} {r : Nat → Nat → Option Nat} (hf : fn_F n r) {K : S_X12_line → Option (Int32 × fm_)} {q : Int32 × fm_} (hK : ∀ s, K s = some q → P_X12_line n r s q) (x1 : Int32) (x2 : Int32) (x3 : Int32) (m : fm_)
  (h : am_k K (st_X12_line (Sum.inr ((x1, x2, x3, m)))) = some q) : P_X12_line n r (Sum.inr ((x1, x2, x3, m))) q := fun Q hQ =>
  am_T.wp sm_X12_line (K := am_T m_X12_line sp_X12_line n Q) (cuts := [7, 33]) (fun _ _ _ _ h => h) 37
    (fj_if h (fun c1 h2 => ⟨fn_aF hf rfl rfl, Or.inl ⟨_, hf.2 106 79 155 rfl, ⟨fn_aF hf rfl rfl, Or.inl ⟨_, hf.2 106 73 151 rfl, fj_gd h2 fun g4 h3 => ⟨8, fn_aF hf rfl rfl, ix_t g4, fj_gd h3 fun g6 h5 => ⟨8, fn_aF hf rfl rfl, ix_t g6, ⟨fn_aF hf rfl rfl, ⟨fn_aF hf rfl rfl, hK _ h5 _ _ hQ⟩⟩⟩⟩⟩⟩⟩⟩) (fun c1 h2 => ⟨fn_aF hf rfl rfl, Or.inl ⟨_, hf.2 106 66 144 rfl, ⟨fn_aF hf rfl rfl, Or.inl ⟨_, hf.2 106 79 155 rfl, fj_gd h2 fun g8 h7 => ⟨8, fn_aF hf rfl rfl, ix_t g8, fj_gd h7 fun g10 h9 => ⟨200, fn_aF hf rfl rfl, ix_t g10, ⟨fn_aF hf rfl rfl, Or.inl ⟨_, hf.2 106 66 144 rfl, ⟨fn_aF hf rfl rfl, Or.inl ⟨_, hf.2 106 73 151 rfl, fj_gd h9 fun g12 h11 => ⟨8, fn_aF hf rfl rfl, ix_t g12, fj_gd h11 fun g14 h13 => ⟨200, fn_aF hf rfl rfl, ix_t g14, fj_if h13 (fun c15 h16 => ⟨fn_aF hf rfl rfl, Or.inl ⟨_, hf.2 106 79 155 rfl, ⟨fn_aF hf rfl rfl, Or.inl ⟨_, hf.2 106 73 151 rfl, fj_gd h16 fun g18 h17 => ⟨8, fn_aF hf rfl rfl, ix_t g18, fj_gd h17 fun g20 h19 => ⟨8, fn_aF hf rfl rfl, ix_t g20, ⟨fn_aF hf rfl rfl, ⟨fn_aF hf rfl rfl, hK _ h19 _ _ hQ⟩⟩⟩⟩⟩⟩⟩⟩) (fun c15 h16 => ⟨fn_aF hf rfl rfl, Or.inl ⟨_, hf.2 106 79 155 rfl, ⟨fn_aF hf rfl rfl, Or.inl ⟨_, hf.2 106 79 155 rfl, fj_gd h16 fun g22 h21 => ⟨8, fn_aF hf rfl rfl, ix_t g22, fj_gd h21 fun g24 h23 => ⟨8, fn_aF hf rfl rfl, ix_t g24, hK _ h23 _ hQ⟩⟩⟩⟩⟩⟩)⟩⟩⟩⟩⟩⟩⟩⟩⟩⟩⟩⟩))
theorem l_X12_line {n : Nat} {r : Nat → Nat → Option Nat} (hf : fn_F n r) (s : S_X12_line) (q : Int32 × fm_) (h : am_lp (st_X12_line) s = some q) : P_X12_line n r s q :=
  am_lp_snd (P := P_X12_line n r) (fun K hK s q h => match s, h with
    | Sum.inl ((x1, x2, m)), h => t_X12_line_7 hf (fun s => hK s q) x1 x2 m h
    | Sum.inr ((x1, x2, x3, m)), h => t_X12_line_33 hf (fun s => hK s q) x1 x2 x3 m h) s q h
set_option maxRecDepth 100000 in
theorem t_X12_line {n : Nat} {r : Nat → Nat → Option Nat} (hf : fn_F n r) {q : Int32 × fm_} (p1 : Int32) {m : fm_}
  (h : f_X12_line p1 m = some q) {Q : Option Value → am_W → Prop} (hQ : Q (en_v q).1 (mk_ n r q.2)) : am_T m_X12_line sp_X12_line n Q 0 [some (.ref 106), some (.int p1), none, none] [] (mk_ n r m) :=
  am_T.wp sm_X12_line (K := am_T m_X12_line sp_X12_line n Q) (cuts := [7, 33]) (fun _ _ _ _ h => h) 7
    (⟨fn_aF hf rfl rfl, l_X12_line hf _ _ h _ _ hQ⟩)
noncomputable def G_X12_line (n : Nat) (r : Nat → Nat → Option Nat) (as : List Value) (m : fm_) : Option (Option Value × fm_) := match as with
  | [.ref x0, .int p1] => gd_ (Nat.beq x0 106) ((f_X12_line p1 m).map en_v)
  | _ => none
set_option maxRecDepth 100000 in
theorem gp_X12_line {n : Nat} {r : Nat → Nat → Option Nat}  {p1 : Int32} {m : fm_} {q : Int32 × fm_}  (e : f_X12_line p1 m = some q) : G_X12_line n r [.ref 106, .int p1] m = some (en_v q) := by
  show (gd_ (Nat.beq 106 106) ((f_X12_line p1 m).map en_v)) = _
  exact fn_gd rfl (fn_mp e)
set_option maxRecDepth 100000 in
theorem ok_X12_line : am_mok 12 247 m_X12_line = true := by decide +kernel
set_option maxRecDepth 100000 in
theorem c_X12_line (l : Launch) {g : am_G} (hg : fx_ l g) : am_Met l g 0 247 (fn_s fn_F G_X12_line) := by
  refine am_sound (own := 12) (M := m_X12_line) (SP := sp_X12_line) hg.1 (by decide +kernel) ok_X12_line (by decide +kernel) ?_ (fun q hq hk => absurd hk (am_no61 (M := m_X12_line) (by decide +kernel) q hq)) (fn_ext l _ rfl g 12) (Or.inl (by decide +kernel)) ?_ ?_
  · intro q hq hk
    have hm : q.2.2.2.1 ∈ am_cs m_X12_line := am_cs_in hq hk
    rw [show am_cs m_X12_line = [] by decide +kernel] at hm
    cases hm
  · intro as w K h
    obtain ⟨hf, y, m1, hG, hK⟩ := h
    unfold G_X12_line at hG
    split at hG
    · exact Nat.le_of_ble_eq_true rfl
    · cases hG
  · intro as w K h
    obtain ⟨n, i0, l0, r⟩ := w
    obtain ⟨hf, y, m1, hG, hK⟩ := h
    unfold G_X12_line at hG
    split at hG
    · next x0 p1 =>
      obtain ⟨hx1, hG1⟩ := gd_u hG
      obtain rfl := Nat.eq_of_beq_eq_true hx1
      obtain ⟨q, hq, he⟩ := fn_mu hG1
      obtain ⟨rfl, rfl⟩ := Prod.mk.inj he
      exact t_X12_line  hf  p1 (m := (i0, l0)) hq hK
    · cases hG

/-! == X12_by == -/
abbrev S_X12_by : Type := (Int32 × Int32 × Int32 × Int32 × Int32 × fm_)
noncomputable def st_X12_by (s : S_X12_by) : Option (S_X12_by ⊕ (Int32 × fm_)) := match s with
  | (x1, x2, x3, x4, x5, m) =>
    (if 12 ≤ x5 then
((some (Sum.inr (x4, m))))
else
(gd_ (ix_ ((12 * x1) + x5) 144)
(gd_ (ix_ ((12 * x5) + x2) 144)
(Option.bind (f_X12_isInZone x5 m) fun q7 =>
(if q7.1 = x3 then
(if x4 ≤ ((gi_ m 120 (Int32.toNatClampNeg ((12 * x1) + x5))) + (gi_ m 120 (Int32.toNatClampNeg ((12 * x5) + x2)))) then
((some (Sum.inl ((x1, x2, x3, x4, (x5 + 1), q7.2)))))
else
((some (Sum.inl ((x1, x2, x3, ((gi_ m 120 (Int32.toNatClampNeg ((12 * x1) + x5))) + (gi_ m 120 (Int32.toNatClampNeg ((12 * x5) + x2)))), (x5 + 1), q7.2))))))
else
((some (Sum.inl ((x1, x2, x3, x4, (x5 + 1), q7.2))))))))))
noncomputable def f_X12_by_8 (x1 : Int32) (x2 : Int32) (x3 : Int32) (x4 : Int32) (x5 : Int32) (m : fm_) : Option (Int32 × fm_) := am_lp (st_X12_by) ((x1, x2, x3, x4, x5, m))
theorem e_X12_by_8 (x1 : Int32) (x2 : Int32) (x3 : Int32) (x4 : Int32) (x5 : Int32) (m : fm_) : f_X12_by_8 x1 x2 x3 x4 x5 m =
(if 12 ≤ x5 then
((some (x4, m)))
else
(gd_ (ix_ ((12 * x1) + x5) 144)
(gd_ (ix_ ((12 * x5) + x2) 144)
(Option.bind (f_X12_isInZone x5 m) fun q7 =>
(if q7.1 = x3 then
(if x4 ≤ ((gi_ m 120 (Int32.toNatClampNeg ((12 * x1) + x5))) + (gi_ m 120 (Int32.toNatClampNeg ((12 * x5) + x2)))) then
((f_X12_by_8 x1 x2 x3 x4 (x5 + 1) q7.2))
else
((f_X12_by_8 x1 x2 x3 ((gi_ m 120 (Int32.toNatClampNeg ((12 * x1) + x5))) + (gi_ m 120 (Int32.toNatClampNeg ((12 * x5) + x2)))) (x5 + 1) q7.2)))
else
((f_X12_by_8 x1 x2 x3 x4 (x5 + 1) q7.2))))))) :=
  (am_lp_eq _ _).trans (fe_if (rfl) (fe_gd (fe_gd (fe_bd fun q7 => (fe_if (fe_if (rfl) (rfl)) (rfl))))))
noncomputable def f_X12_by (p1 : Int32) (p2 : Int32) (p3 : Int32) (m : fm_) : Option (Int32 × fm_) :=
  ((f_X12_by_8 p1 p2 p3 1000000 0 m))
def sp_X12_by : am_S := fn_sp [(204, fn_F, G_X12_isInZone)]
theorem sm_X12_by : am_Smono (sp_X12_by) := fn_sp_mono _
def P_X12_by (n : Nat) (r : Nat → Nat → Option Nat) (s : S_X12_by) (q : Int32 × fm_) : Prop := match s with
  | (x1, x2, x3, x4, x5, m) => ∀ (Q : Option Value → am_W → Prop) (y6 : Option Value), Q (en_i q).1 (mk_ n r q.2) → am_T m_X12_by sp_X12_by n Q 8 [some (.ref 106), some (.int x1), some (.int x2), some (.int x3), some (.int x4), some (.int x5), y6] [] (mk_ n r m)
set_option maxRecDepth 100000 in
theorem t_X12_by_8 {n : Nat} {r : Nat → Nat → Option Nat} (hf : fn_F n r) {K : S_X12_by → Option (Int32 × fm_)} {q : Int32 × fm_} (hK : ∀ s, K s = some q → P_X12_by n r s q) (x1 : Int32) (x2 : Int32) (x3 : Int32) (x4 : Int32) (x5 : Int32) (m : fm_)
  (h : am_k K (st_X12_by ((x1, x2, x3, x4, x5, m))) = some q) : P_X12_by n r ((x1, x2, x3, x4, x5, m)) q := fun Q y6 hQ =>
  am_T.wp sm_X12_by (K := am_T m_X12_by sp_X12_by n Q) (cuts := [8]) (fun _ _ _ _ h => h) 36
    (fj_if h (fun c1 h2 => ⟨rfl, fj_rt h2 hQ⟩) (fun c1 h2 => ⟨fn_aF hf rfl rfl, Or.inl ⟨_, hf.2 106 27 120 rfl, fj_gd h2 fun g4 h3 => ⟨144, fn_aF hf rfl rfl, ix_t g4, ⟨fn_aF hf rfl rfl, Or.inl ⟨_, hf.2 106 27 120 rfl, fj_gd h3 fun g6 h5 => ⟨144, fn_aF hf rfl rfl, ix_t g6, fj_bd h5 fun q7 e8 h9 => ⟨Nat.le_of_ble_eq_true rfl, fn_aF hf rfl rfl, ⟨hf, some (.int q7.1), q7.2, gp_X12_isInZone (n := n) (r := r)  e8, fun _ => fj_in h9 (fun c10 h11 => hK _ h11 _ _ hQ) (fun c10 h11 => fj_if h11 (fun c12 h13 => hK _ h13 _ _ hQ) (fun c12 h13 => hK _ h13 _ _ hQ))⟩⟩⟩⟩⟩⟩⟩⟩))
theorem l_X12_by {n : Nat} {r : Nat → Nat → Option Nat} (hf : fn_F n r) (s : S_X12_by) (q : Int32 × fm_) (h : am_lp (st_X12_by) s = some q) : P_X12_by n r s q :=
  am_lp_snd (P := P_X12_by n r) (fun K hK s q h => match s, h with
    | (x1, x2, x3, x4, x5, m), h => t_X12_by_8 hf (fun s => hK s q) x1 x2 x3 x4 x5 m h) s q h
set_option maxRecDepth 100000 in
theorem t_X12_by {n : Nat} {r : Nat → Nat → Option Nat} (hf : fn_F n r) {q : Int32 × fm_} (p1 : Int32) (p2 : Int32) (p3 : Int32) {m : fm_}
  (h : f_X12_by p1 p2 p3 m = some q) {Q : Option Value → am_W → Prop} (hQ : Q (en_i q).1 (mk_ n r q.2)) : am_T m_X12_by sp_X12_by n Q 0 [some (.ref 106), some (.int p1), some (.int p2), some (.int p3), none, none, none] [] (mk_ n r m) :=
  am_T.wp sm_X12_by (K := am_T m_X12_by sp_X12_by n Q) (cuts := [8]) (fun _ _ _ _ h => h) 6
    (l_X12_by hf _ _ h _ _ hQ)
noncomputable def G_X12_by (n : Nat) (r : Nat → Nat → Option Nat) (as : List Value) (m : fm_) : Option (Option Value × fm_) := match as with
  | [.ref x0, .int p1, .int p2, .int p3] => gd_ (Nat.beq x0 106) ((f_X12_by p1 p2 p3 m).map en_i)
  | _ => none
set_option maxRecDepth 100000 in
theorem gp_X12_by {n : Nat} {r : Nat → Nat → Option Nat}  {p1 : Int32} {p2 : Int32} {p3 : Int32} {m : fm_} {q : Int32 × fm_}  (e : f_X12_by p1 p2 p3 m = some q) : G_X12_by n r [.ref 106, .int p1, .int p2, .int p3] m = some (en_i q) := by
  show (gd_ (Nat.beq 106 106) ((f_X12_by p1 p2 p3 m).map en_i)) = _
  exact fn_gd rfl (fn_mp e)
set_option maxRecDepth 100000 in
theorem ok_X12_by : am_mok 12 248 m_X12_by = true := by decide +kernel
set_option maxRecDepth 100000 in
theorem c_X12_by (l : Launch) {g : am_G} (hg : fx_ l g) : am_Met l g 1 248 (fn_s fn_F G_X12_by) := by
  refine am_sound (own := 12) (M := m_X12_by) (SP := sp_X12_by) hg.1 (by decide +kernel) ok_X12_by (by decide +kernel) ?_ (fun q hq hk => absurd hk (am_no61 (M := m_X12_by) (by decide +kernel) q hq)) (fn_ext l _ rfl g 12) (Or.inl (by decide +kernel)) ?_ ?_
  · intro q hq hk
    have hm : q.2.2.2.1 ∈ am_cs m_X12_by := am_cs_in hq hk
    rw [show am_cs m_X12_by = [204] by decide +kernel] at hm
    have hm : q.2.2.2.1 ∈ [204] := (List.all_eq_true.mp (show ([204] : List Nat).all (fun a => decide (a ∈ ([204] : List Nat))) = true by decide +kernel) _ hm |> of_decide_eq_true)
    simp only [List.mem_cons, List.not_mem_nil, or_false] at hm
    rcases hm with hm
    · rw [hm]; exact ⟨0, by omega, c_X12_isInZone l hg⟩
  · intro as w K h
    obtain ⟨hf, y, m1, hG, hK⟩ := h
    unfold G_X12_by at hG
    split at hG
    · exact Nat.le_of_ble_eq_true rfl
    · cases hG
  · intro as w K h
    obtain ⟨n, i0, l0, r⟩ := w
    obtain ⟨hf, y, m1, hG, hK⟩ := h
    unfold G_X12_by at hG
    split at hG
    · next x0 p1 p2 p3 =>
      obtain ⟨hx1, hG1⟩ := gd_u hG
      obtain rfl := Nat.eq_of_beq_eq_true hx1
      obtain ⟨q, hq, he⟩ := fn_mu hG1
      obtain ⟨rfl, rfl⟩ := Prod.mk.inj he
      exact t_X12_by  hf  p1 p2 p3 (m := (i0, l0)) hq hK
    · cases hG

/-! == X12_within == -/
noncomputable def f_X12_within (p1 : Int32) (p2 : Int32) (p3 : Int32) (p4 : Int32) (m : fm_) : Option (Int32 × fm_) :=
  (Option.bind (f_X12_isInZone p1 m) fun q1 =>
(Option.bind (f_X12_isInZone p2 q1.2) fun q4 =>
(if q1.1 = 0 then
(if q1.1 = 0 then
(if q4.1 = 0 then
(Option.bind (f_X12_by p1 p2 1 q4.2) fun q17 =>
(if p4 = 0 then
((some (0, q17.2)))
else
(if q17.1 ≤ p3 then
((some ((p3 - q17.1), q17.2)))
else
((some (0, q17.2))))))
else
(if p4 = 0 then
((some (0, q4.2)))
else
((some (p3, q4.2)))))
else
(if p4 = 0 then
((some (0, q4.2)))
else
((some (p3, q4.2)))))
else
(if q4.1 = 0 then
(if q1.1 = 0 then
(if q4.1 = 0 then
(Option.bind (f_X12_by p1 p2 1 q4.2) fun q34 =>
(if p4 = 0 then
((some (0, q34.2)))
else
(if q34.1 ≤ p3 then
((some ((p3 - q34.1), q34.2)))
else
((some (0, q34.2))))))
else
(if p4 = 0 then
((some (0, q4.2)))
else
((some (p3, q4.2)))))
else
(if p4 = 0 then
((some (0, q4.2)))
else
((some (p3, q4.2)))))
else
(Option.bind (f_X12_by p1 p2 0 q4.2) fun q41 =>
(if p4 = 0 then
(if q41.1 ≤ p3 then
((some (q41.1, q41.2)))
else
((some (p3, q41.2))))
else
((some (p3, q41.2)))))))))
def sp_X12_within : am_S := fn_sp [(204, fn_F, G_X12_isInZone), (248, fn_F, G_X12_by)]
theorem sm_X12_within : am_Smono (sp_X12_within) := fn_sp_mono _
set_option maxRecDepth 100000 in
theorem t_X12_within {n : Nat} {r : Nat → Nat → Option Nat} (hf : fn_F n r) {q : Int32 × fm_} (p1 : Int32) (p2 : Int32) (p3 : Int32) (p4 : Int32) {m : fm_}
  (h : f_X12_within p1 p2 p3 p4 m = some q) {Q : Option Value → am_W → Prop} (hQ : Q (en_i q).1 (mk_ n r q.2)) : am_T m_X12_within sp_X12_within n Q 0 [some (.ref 106), some (.int p1), some (.int p2), some (.int p3), some (.int p4), none, none, none] [] (mk_ n r m) :=
  am_T.wp sm_X12_within (K := am_T m_X12_within sp_X12_within n Q) (cuts := []) (fun _ _ _ _ h => h) 32
    (fh_bd h fun q1 e2 h3 => ⟨Nat.le_of_ble_eq_true rfl, fn_aF hf rfl rfl, ⟨hf, some (.int q1.1), q1.2, gp_X12_isInZone (n := n) (r := r)  e2, fun _ => fh_bd h3 fun q4 e5 h6 => ⟨Nat.le_of_ble_eq_true rfl, fn_aF hf rfl rfl, ⟨hf, some (.int q4.1), q4.2, gp_X12_isInZone (n := n) (r := r)  e5, fun _ => fh_if h6 (fun c7 h8 => fh_in h8 (fun c9 h10 => fh_if h10 (fun c11 h12 => ⟨rfl, fh_rt h12 hQ⟩) (fun c11 h12 => ⟨rfl, fh_rt h12 hQ⟩)) (fun c9 h10 => fh_in h10 (fun c13 h14 => fh_if h14 (fun c15 h16 => ⟨rfl, fh_rt h16 hQ⟩) (fun c15 h16 => ⟨rfl, fh_rt h16 hQ⟩)) (fun c13 h14 => fh_bd h14 fun q17 e18 h19 => ⟨Nat.le_of_ble_eq_true rfl, fn_aF hf rfl rfl, ⟨hf, some (.int q17.1), q17.2, gp_X12_by (n := n) (r := r)  e18, fun _ => fh_if h19 (fun c20 h21 => ⟨rfl, fh_rt h21 hQ⟩) (fun c20 h21 => fh_if h21 (fun c22 h23 => ⟨rfl, fh_rt h23 hQ⟩) (fun c22 h23 => ⟨rfl, fh_rt h23 hQ⟩))⟩⟩))) (fun c7 h8 => fh_if h8 (fun c24 h25 => fh_in h25 (fun c26 h27 => fh_if h27 (fun c28 h29 => ⟨rfl, fh_rt h29 hQ⟩) (fun c28 h29 => ⟨rfl, fh_rt h29 hQ⟩)) (fun c26 h27 => fh_in h27 (fun c30 h31 => fh_if h31 (fun c32 h33 => ⟨rfl, fh_rt h33 hQ⟩) (fun c32 h33 => ⟨rfl, fh_rt h33 hQ⟩)) (fun c30 h31 => fh_bd h31 fun q34 e35 h36 => ⟨Nat.le_of_ble_eq_true rfl, fn_aF hf rfl rfl, ⟨hf, some (.int q34.1), q34.2, gp_X12_by (n := n) (r := r)  e35, fun _ => fh_if h36 (fun c37 h38 => ⟨rfl, fh_rt h38 hQ⟩) (fun c37 h38 => fh_if h38 (fun c39 h40 => ⟨rfl, fh_rt h40 hQ⟩) (fun c39 h40 => ⟨rfl, fh_rt h40 hQ⟩))⟩⟩))) (fun c24 h25 => fh_bd h25 fun q41 e42 h43 => ⟨Nat.le_of_ble_eq_true rfl, fn_aF hf rfl rfl, ⟨hf, some (.int q41.1), q41.2, gp_X12_by (n := n) (r := r)  e42, fun _ => fh_in h43 (fun c44 h45 => ⟨rfl, fh_rt h45 hQ⟩) (fun c44 h45 => fh_if h45 (fun c46 h47 => ⟨rfl, fh_rt h47 hQ⟩) (fun c46 h47 => ⟨rfl, fh_rt h47 hQ⟩))⟩⟩))⟩⟩⟩⟩)
noncomputable def G_X12_within (n : Nat) (r : Nat → Nat → Option Nat) (as : List Value) (m : fm_) : Option (Option Value × fm_) := match as with
  | [.ref x0, .int p1, .int p2, .int p3, .int p4] => gd_ (Nat.beq x0 106) ((f_X12_within p1 p2 p3 p4 m).map en_i)
  | _ => none
set_option maxRecDepth 100000 in
theorem gp_X12_within {n : Nat} {r : Nat → Nat → Option Nat}  {p1 : Int32} {p2 : Int32} {p3 : Int32} {p4 : Int32} {m : fm_} {q : Int32 × fm_}  (e : f_X12_within p1 p2 p3 p4 m = some q) : G_X12_within n r [.ref 106, .int p1, .int p2, .int p3, .int p4] m = some (en_i q) := by
  show (gd_ (Nat.beq 106 106) ((f_X12_within p1 p2 p3 p4 m).map en_i)) = _
  exact fn_gd rfl (fn_mp e)
set_option maxRecDepth 100000 in
theorem ok_X12_within : am_mok 12 249 m_X12_within = true := by decide +kernel
set_option maxRecDepth 100000 in
theorem c_X12_within (l : Launch) {g : am_G} (hg : fx_ l g) : am_Met l g 2 249 (fn_s fn_F G_X12_within) := by
  refine am_sound (own := 12) (M := m_X12_within) (SP := sp_X12_within) hg.1 (by decide +kernel) ok_X12_within (by decide +kernel) ?_ (fun q hq hk => absurd hk (am_no61 (M := m_X12_within) (by decide +kernel) q hq)) (fn_ext l _ rfl g 12) (Or.inl (by decide +kernel)) ?_ ?_
  · intro q hq hk
    have hm : q.2.2.2.1 ∈ am_cs m_X12_within := am_cs_in hq hk
    rw [show am_cs m_X12_within = [204, 204, 248, 248] by decide +kernel] at hm
    have hm : q.2.2.2.1 ∈ [204, 248] := (List.all_eq_true.mp (show ([204, 204, 248, 248] : List Nat).all (fun a => decide (a ∈ ([204, 248] : List Nat))) = true by decide +kernel) _ hm |> of_decide_eq_true)
    simp only [List.mem_cons, List.not_mem_nil, or_false] at hm
    rcases hm with hm | hm
    · rw [hm]; exact ⟨0, by omega, c_X12_isInZone l hg⟩
    · rw [hm]; exact ⟨1, by omega, c_X12_by l hg⟩
  · intro as w K h
    obtain ⟨hf, y, m1, hG, hK⟩ := h
    unfold G_X12_within at hG
    split at hG
    · exact Nat.le_of_ble_eq_true rfl
    · cases hG
  · intro as w K h
    obtain ⟨n, i0, l0, r⟩ := w
    obtain ⟨hf, y, m1, hG, hK⟩ := h
    unfold G_X12_within at hG
    split at hG
    · next x0 p1 p2 p3 p4 =>
      obtain ⟨hx1, hG1⟩ := gd_u hG
      obtain rfl := Nat.eq_of_beq_eq_true hx1
      obtain ⟨q, hq, he⟩ := fn_mu hG1
      obtain ⟨rfl, rfl⟩ := Prod.mk.inj he
      exact t_X12_within  hf  p1 p2 p3 p4 (m := (i0, l0)) hq hK
    · cases hG

/-! == X12_inside == -/
abbrev S_X12_inside : Type := (Int32 × Int32 × Int32 × Int32 × Int32 × Int32 × fm_)
noncomputable def st_X12_inside (s : S_X12_inside) : Option (S_X12_inside ⊕ (Int32 × fm_)) := match s with
  | (x1, x2, x3, x4, x5, x6, m) =>
    (if (gi_ m 106 80) ≤ x6 then
((some (Sum.inr (x5, m))))
else
(gd_ (ix_ (x6 - 1) 8)
(Option.bind (f_X12_pointOf (gi_ m 155 (Int32.toNatClampNeg (x6 - 1))) m) fun q5 =>
(gd_ (ix_ x6 8)
(Option.bind (f_X12_pointOf (gi_ q5.2 155 (Int32.toNatClampNeg x6)) q5.2) fun q10 =>
(gd_ (ix_ x6 8)
(gd_ (ix_ (gi_ q10.2 155 (Int32.toNatClampNeg x6)) 200)
(gd_ (ix_ (x6 - 1) 8)
(gd_ (ix_ (gi_ q10.2 155 (Int32.toNatClampNeg (x6 - 1))) 200)
(Option.bind (f_X12_within q5.1 q10.1 ((gi_ q10.2 144 (Int32.toNatClampNeg (gi_ q10.2 155 (Int32.toNatClampNeg x6)))) - (gi_ q10.2 144 (Int32.toNatClampNeg (gi_ q10.2 155 (Int32.toNatClampNeg (x6 - 1)))))) x3 q10.2) fun q21 =>
((some (Sum.inl ((x1, x2, x3, x4, (x5 + q21.1), (x6 + 1), q21.2)))))))))))))))
noncomputable def f_X12_inside_35 (x1 : Int32) (x2 : Int32) (x3 : Int32) (x4 : Int32) (x5 : Int32) (x6 : Int32) (m : fm_) : Option (Int32 × fm_) := am_lp (st_X12_inside) ((x1, x2, x3, x4, x5, x6, m))
theorem e_X12_inside_35 (x1 : Int32) (x2 : Int32) (x3 : Int32) (x4 : Int32) (x5 : Int32) (x6 : Int32) (m : fm_) : f_X12_inside_35 x1 x2 x3 x4 x5 x6 m =
(if (gi_ m 106 80) ≤ x6 then
((some (x5, m)))
else
(gd_ (ix_ (x6 - 1) 8)
(Option.bind (f_X12_pointOf (gi_ m 155 (Int32.toNatClampNeg (x6 - 1))) m) fun q5 =>
(gd_ (ix_ x6 8)
(Option.bind (f_X12_pointOf (gi_ q5.2 155 (Int32.toNatClampNeg x6)) q5.2) fun q10 =>
(gd_ (ix_ x6 8)
(gd_ (ix_ (gi_ q10.2 155 (Int32.toNatClampNeg x6)) 200)
(gd_ (ix_ (x6 - 1) 8)
(gd_ (ix_ (gi_ q10.2 155 (Int32.toNatClampNeg (x6 - 1))) 200)
(Option.bind (f_X12_within q5.1 q10.1 ((gi_ q10.2 144 (Int32.toNatClampNeg (gi_ q10.2 155 (Int32.toNatClampNeg x6)))) - (gi_ q10.2 144 (Int32.toNatClampNeg (gi_ q10.2 155 (Int32.toNatClampNeg (x6 - 1)))))) x3 q10.2) fun q21 =>
((f_X12_inside_35 x1 x2 x3 x4 (x5 + q21.1) (x6 + 1) q21.2)))))))))))) :=
  (am_lp_eq _ _).trans (fe_if (rfl) (fe_gd (fe_bd fun q5 => (fe_gd (fe_bd fun q10 => (fe_gd (fe_gd (fe_gd (fe_gd (fe_bd fun q21 => (rfl)))))))))))
noncomputable def f_X12_inside (p1 : Int32) (p2 : Int32) (p3 : Int32) (p4 : Int32) (m : fm_) : Option (Int32 × fm_) :=
  (Option.bind (f_X12_isPlate p1 m) fun q1 =>
(if q1.1 = 0 then
((some ((-1), q1.2)))
else
(Option.bind (f_X12_isDay p2 q1.2) fun q6 =>
(if q6.1 = 0 then
((some ((-1), q6.2)))
else
(Option.bind (f_X12_know p2 p4 q6.2) fun q11 =>
(Option.bind (f_X12_line p1 q11.2) fun q14 =>
((f_X12_inside_35 p1 p2 p3 p4 0 1 q14.2))))))))
def sp_X12_inside : am_S := fn_sp [(227, fn_F, G_X12_isPlate), (219, fn_0, G_X12_isDay), (243, fn_F, G_X12_know), (247, fn_F, G_X12_line), (240, fn_F, G_X12_pointOf), (249, fn_F, G_X12_within)]
theorem sm_X12_inside : am_Smono (sp_X12_inside) := fn_sp_mono _
def P_X12_inside (n : Nat) (r : Nat → Nat → Option Nat) (s : S_X12_inside) (q : Int32 × fm_) : Prop := match s with
  | (x1, x2, x3, x4, x5, x6, m) => ∀ (Q : Option Value → am_W → Prop), Q (en_i q).1 (mk_ n r q.2) → am_T m_X12_inside sp_X12_inside n Q 35 [some (.ref 106), some (.int x1), some (.int x2), some (.int x3), some (.int x4), some (.int x5), some (.int x6)] [] (mk_ n r m)
set_option maxRecDepth 100000 in
theorem t_X12_inside_35 {n : Nat} {r : Nat → Nat → Option Nat} (hf : fn_F n r) {K : S_X12_inside → Option (Int32 × fm_)} {q : Int32 × fm_} (hK : ∀ s, K s = some q → P_X12_inside n r s q) (x1 : Int32) (x2 : Int32) (x3 : Int32) (x4 : Int32) (x5 : Int32) (x6 : Int32) (m : fm_)
  (h : am_k K (st_X12_inside ((x1, x2, x3, x4, x5, x6, m))) = some q) : P_X12_inside n r ((x1, x2, x3, x4, x5, x6, m)) q := fun Q hQ =>
  am_T.wp sm_X12_inside (K := am_T m_X12_inside sp_X12_inside n Q) (cuts := [35]) (fun _ _ _ _ h => h) 45
    (⟨fn_aF hf rfl rfl, fj_if h (fun c1 h2 => ⟨rfl, fj_rt h2 hQ⟩) (fun c1 h2 => ⟨fn_aF hf rfl rfl, Or.inl ⟨_, hf.2 106 79 155 rfl, fj_gd h2 fun g4 h3 => ⟨8, fn_aF hf rfl rfl, ix_t g4, fj_bd h3 fun q5 e6 h7 => ⟨Nat.le_of_ble_eq_true rfl, fn_aF hf rfl rfl, ⟨hf, some (.int q5.1), q5.2, gp_X12_pointOf (n := n) (r := r)  e6, fun _ => ⟨fn_aF hf rfl rfl, Or.inl ⟨_, hf.2 106 79 155 rfl, fj_gd h7 fun g9 h8 => ⟨8, fn_aF hf rfl rfl, ix_t g9, fj_bd h8 fun q10 e11 h12 => ⟨Nat.le_of_ble_eq_true rfl, fn_aF hf rfl rfl, ⟨hf, some (.int q10.1), q10.2, gp_X12_pointOf (n := n) (r := r)  e11, fun _ => ⟨fn_aF hf rfl rfl, Or.inl ⟨_, hf.2 106 66 144 rfl, ⟨fn_aF hf rfl rfl, Or.inl ⟨_, hf.2 106 79 155 rfl, fj_gd h12 fun g14 h13 => ⟨8, fn_aF hf rfl rfl, ix_t g14, fj_gd h13 fun g16 h15 => ⟨200, fn_aF hf rfl rfl, ix_t g16, ⟨fn_aF hf rfl rfl, Or.inl ⟨_, hf.2 106 66 144 rfl, ⟨fn_aF hf rfl rfl, Or.inl ⟨_, hf.2 106 79 155 rfl, fj_gd h15 fun g18 h17 => ⟨8, fn_aF hf rfl rfl, ix_t g18, fj_gd h17 fun g20 h19 => ⟨200, fn_aF hf rfl rfl, ix_t g20, fj_bd h19 fun q21 e22 h23 => ⟨Nat.le_of_ble_eq_true rfl, fn_aF hf rfl rfl, ⟨hf, some (.int q21.1), q21.2, gp_X12_within (n := n) (r := r)  e22, fun _ => hK _ h23 _ hQ⟩⟩⟩⟩⟩⟩⟩⟩⟩⟩⟩⟩⟩⟩⟩⟩⟩⟩⟩⟩⟩⟩⟩⟩)⟩)
theorem l_X12_inside {n : Nat} {r : Nat → Nat → Option Nat} (hf : fn_F n r) (s : S_X12_inside) (q : Int32 × fm_) (h : am_lp (st_X12_inside) s = some q) : P_X12_inside n r s q :=
  am_lp_snd (P := P_X12_inside n r) (fun K hK s q h => match s, h with
    | (x1, x2, x3, x4, x5, x6, m), h => t_X12_inside_35 hf (fun s => hK s q) x1 x2 x3 x4 x5 x6 m h) s q h
set_option maxRecDepth 100000 in
theorem t_X12_inside {n : Nat} {r : Nat → Nat → Option Nat} (hf : fn_F n r) {q : Int32 × fm_} (p1 : Int32) (p2 : Int32) (p3 : Int32) (p4 : Int32) {m : fm_}
  (h : f_X12_inside p1 p2 p3 p4 m = some q) {Q : Option Value → am_W → Prop} (hQ : Q (en_i q).1 (mk_ n r q.2)) : am_T m_X12_inside sp_X12_inside n Q 0 [some (.ref 106), some (.int p1), some (.int p2), some (.int p3), some (.int p4), none, none] [] (mk_ n r m) :=
  am_T.wp sm_X12_inside (K := am_T m_X12_inside sp_X12_inside n Q) (cuts := [35]) (fun _ _ _ _ h => h) 20
    (fh_bd h fun q1 e2 h3 => ⟨Nat.le_of_ble_eq_true rfl, fn_aF hf rfl rfl, ⟨hf, some (.int q1.1), q1.2, gp_X12_isPlate (n := n) (r := r)  e2, fun _ => fh_if h3 (fun c4 h5 => ⟨rfl, fh_rt h5 hQ⟩) (fun c4 h5 => fh_bd h5 fun q6 e7 h8 => ⟨Nat.le_of_ble_eq_true rfl, trivial, ⟨trivial, some (.int q6.1), q6.2, gp_X12_isDay (n := n) (r := r)  e7, fun _ => fh_in h8 (fun c9 h10 => fh_bd h10 fun q11 e12 h13 => ⟨Nat.le_of_ble_eq_true rfl, fn_aF hf rfl rfl, ⟨hf, none, q11.2, gp_X12_know (n := n) (r := r)  e12, fun _ => ⟨rfl, fh_bd h13 fun q14 e15 h16 => ⟨Nat.le_of_ble_eq_true rfl, fn_aF hf rfl rfl, ⟨hf, none, q14.2, gp_X12_line (n := n) (r := r)  e15, fun _ => ⟨rfl, l_X12_inside hf _ _ h16 _ hQ⟩⟩⟩⟩⟩⟩) (fun c9 h10 => ⟨rfl, fh_rt h10 hQ⟩)⟩⟩)⟩⟩)
noncomputable def G_X12_inside (n : Nat) (r : Nat → Nat → Option Nat) (as : List Value) (m : fm_) : Option (Option Value × fm_) := match as with
  | [.ref x0, .int p1, .int p2, .int p3, .int p4] => gd_ (Nat.beq x0 106) ((f_X12_inside p1 p2 p3 p4 m).map en_i)
  | _ => none
set_option maxRecDepth 100000 in
theorem gp_X12_inside {n : Nat} {r : Nat → Nat → Option Nat}  {p1 : Int32} {p2 : Int32} {p3 : Int32} {p4 : Int32} {m : fm_} {q : Int32 × fm_}  (e : f_X12_inside p1 p2 p3 p4 m = some q) : G_X12_inside n r [.ref 106, .int p1, .int p2, .int p3, .int p4] m = some (en_i q) := by
  show (gd_ (Nat.beq 106 106) ((f_X12_inside p1 p2 p3 p4 m).map en_i)) = _
  exact fn_gd rfl (fn_mp e)
set_option maxRecDepth 100000 in
theorem ok_X12_inside : am_mok 12 250 m_X12_inside = true := by decide +kernel
set_option maxRecDepth 100000 in
theorem c_X12_inside (l : Launch) {g : am_G} (hg : fx_ l g) : am_Met l g 4 250 (fn_s fn_F G_X12_inside) := by
  refine am_sound (own := 12) (M := m_X12_inside) (SP := sp_X12_inside) hg.1 (by decide +kernel) ok_X12_inside (by decide +kernel) ?_ (fun q hq hk => absurd hk (am_no61 (M := m_X12_inside) (by decide +kernel) q hq)) (fn_ext l _ rfl g 12) (Or.inl (by decide +kernel)) ?_ ?_
  · intro q hq hk
    have hm : q.2.2.2.1 ∈ am_cs m_X12_inside := am_cs_in hq hk
    rw [show am_cs m_X12_inside = [227, 219, 243, 247, 240, 240, 249] by decide +kernel] at hm
    have hm : q.2.2.2.1 ∈ [219, 227, 240, 243, 247, 249] := (List.all_eq_true.mp (show ([227, 219, 243, 247, 240, 240, 249] : List Nat).all (fun a => decide (a ∈ ([219, 227, 240, 243, 247, 249] : List Nat))) = true by decide +kernel) _ hm |> of_decide_eq_true)
    simp only [List.mem_cons, List.not_mem_nil, or_false] at hm
    rcases hm with hm | hm | hm | hm | hm | hm
    · rw [hm]; exact ⟨0, by omega, c_X12_isDay l hg⟩
    · rw [hm]; exact ⟨0, by omega, c_X12_isPlate l hg⟩
    · rw [hm]; exact ⟨0, by omega, c_X12_pointOf l hg⟩
    · rw [hm]; exact ⟨3, by omega, c_X12_know l hg⟩
    · rw [hm]; exact ⟨0, by omega, c_X12_line l hg⟩
    · rw [hm]; exact ⟨2, by omega, c_X12_within l hg⟩
  · intro as w K h
    obtain ⟨hf, y, m1, hG, hK⟩ := h
    unfold G_X12_inside at hG
    split at hG
    · exact Nat.le_of_ble_eq_true rfl
    · cases hG
  · intro as w K h
    obtain ⟨n, i0, l0, r⟩ := w
    obtain ⟨hf, y, m1, hG, hK⟩ := h
    unfold G_X12_inside at hG
    split at hG
    · next x0 p1 p2 p3 p4 =>
      obtain ⟨hx1, hG1⟩ := gd_u hG
      obtain rfl := Nat.eq_of_beq_eq_true hx1
      obtain ⟨q, hq, he⟩ := fn_mu hG1
      obtain ⟨rfl, rfl⟩ := Prod.mk.inj he
      exact t_X12_inside  hf  p1 p2 p3 p4 (m := (i0, l0)) hq hK
    · cases hG

