/-! == X12_fault == -/
noncomputable def f_X12_fault (p1 : Int32) (m : fm_) : Option (Int32 × fm_) :=
  (if p1 = 0 then
((some ((gi_ m 106 2), m)))
else
(if p1 = 1 then
((some ((gi_ m 106 3), m)))
else
((some ((-1), m)))))
def sp_X12_fault : am_S := fn_sp []
theorem sm_X12_fault : am_Smono (sp_X12_fault) := fn_sp_mono _
set_option maxRecDepth 100000 in
theorem t_X12_fault {n : Nat} {r : Nat → Nat → Option Nat} (hf : fn_F n r) {q : Int32 × fm_} (p1 : Int32) {m : fm_}
  (h : f_X12_fault p1 m = some q) {Q : Option Value → am_W → Prop} (hQ : Q (en_i q).1 (mk_ n r q.2)) : am_T m_X12_fault sp_X12_fault n Q 0 [some (.ref 106), some (.int p1)] [] (mk_ n r m) :=
  am_T.wp sm_X12_fault (K := am_T m_X12_fault sp_X12_fault n Q) (cuts := []) (fun _ _ _ _ h => h) 10
    (fh_in h (fun c1 h2 => fh_in h2 (fun c3 h4 => ⟨rfl, fh_rt h4 hQ⟩) (fun c3 h4 => ⟨fn_aF hf rfl rfl, ⟨rfl, fh_rt h4 hQ⟩⟩)) (fun c1 h2 => ⟨fn_aF hf rfl rfl, ⟨rfl, fh_rt h2 hQ⟩⟩))
noncomputable def G_X12_fault (n : Nat) (r : Nat → Nat → Option Nat) (as : List Value) (m : fm_) : Option (Option Value × fm_) := match as with
  | [.ref x0, .int p1] => gd_ (Nat.beq x0 106) ((f_X12_fault p1 m).map en_i)
  | _ => none
set_option maxRecDepth 100000 in
theorem gp_X12_fault {n : Nat} {r : Nat → Nat → Option Nat}  {p1 : Int32} {m : fm_} {q : Int32 × fm_}  (e : f_X12_fault p1 m = some q) : G_X12_fault n r [.ref 106, .int p1] m = some (en_i q) := by
  show (gd_ (Nat.beq 106 106) ((f_X12_fault p1 m).map en_i)) = _
  exact fn_gd rfl (fn_mp e)
set_option maxRecDepth 100000 in
theorem ok_X12_fault : am_mok 12 221 m_X12_fault = true := by decide +kernel
set_option maxRecDepth 100000 in
theorem c_X12_fault (l : Launch) {g : am_G} (hg : fx_ l g) : am_Met l g 0 221 (fn_s fn_F G_X12_fault) := by
  refine am_sound (own := 12) (M := m_X12_fault) (SP := sp_X12_fault) hg.1 (by decide +kernel) ok_X12_fault (by decide +kernel) ?_ (fun q hq hk => absurd hk (am_no61 (M := m_X12_fault) (by decide +kernel) q hq)) (fn_ext l _ rfl g 12) (Or.inl (by decide +kernel)) ?_ ?_
  · intro q hq hk
    have hm : q.2.2.2.1 ∈ am_cs m_X12_fault := am_cs_in hq hk
    rw [show am_cs m_X12_fault = [] by decide +kernel] at hm
    cases hm
  · intro as w K h
    obtain ⟨hf, y, m1, hG, hK⟩ := h
    unfold G_X12_fault at hG
    split at hG
    · exact Nat.le_of_ble_eq_true rfl
    · cases hG
  · intro as w K h
    obtain ⟨n, i0, l0, r⟩ := w
    obtain ⟨hf, y, m1, hG, hK⟩ := h
    unfold G_X12_fault at hG
    split at hG
    · next x0 p1 =>
      obtain ⟨hx1, hG1⟩ := gd_u hG
      obtain rfl := Nat.eq_of_beq_eq_true hx1
      obtain ⟨q, hq, he⟩ := fn_mu hG1
      obtain ⟨rfl, rfl⟩ := Prod.mk.inj he
      exact t_X12_fault  hf  p1 (m := (i0, l0)) hq hK
    · cases hG

/-! == X12_inForce == -/
abbrev S_X12_inForce : Type := (Int32 × Int32 × Int32 × fm_)
noncomputable def st_X12_inForce (s : S_X12_inForce) : Option (S_X12_inForce ⊕ (Int32 × fm_)) := match s with
  | (x1, x2, x3, m) =>
    (if (gi_ m 106 33) ≤ x3 then
((some (Sum.inr (x2, m))))
else
(gd_ (ix_ x3 7)
(if x1 < (gi_ m 132 (Int32.toNatClampNeg x3)) then
((some (Sum.inl ((x1, x2, (x3 + 1), m)))))
else
(if x2 < 0 then
((some (Sum.inl ((x1, x3, (x3 + 1), m)))))
else
(gd_ (ix_ x3 7)
(gd_ (ix_ x2 7)
(if (gi_ m 132 (Int32.toNatClampNeg x3)) < (gi_ m 132 (Int32.toNatClampNeg x2)) then
((some (Sum.inl ((x1, x2, (x3 + 1), m)))))
else
((some (Sum.inl ((x1, x3, (x3 + 1), m))))))))))))
noncomputable def f_X12_inForce_4 (x1 : Int32) (x2 : Int32) (x3 : Int32) (m : fm_) : Option (Int32 × fm_) := am_lp (st_X12_inForce) ((x1, x2, x3, m))
theorem e_X12_inForce_4 (x1 : Int32) (x2 : Int32) (x3 : Int32) (m : fm_) : f_X12_inForce_4 x1 x2 x3 m =
(if (gi_ m 106 33) ≤ x3 then
((some (x2, m)))
else
(gd_ (ix_ x3 7)
(if x1 < (gi_ m 132 (Int32.toNatClampNeg x3)) then
((f_X12_inForce_4 x1 x2 (x3 + 1) m))
else
(if x2 < 0 then
((f_X12_inForce_4 x1 x3 (x3 + 1) m))
else
(gd_ (ix_ x3 7)
(gd_ (ix_ x2 7)
(if (gi_ m 132 (Int32.toNatClampNeg x3)) < (gi_ m 132 (Int32.toNatClampNeg x2)) then
((f_X12_inForce_4 x1 x2 (x3 + 1) m))
else
((f_X12_inForce_4 x1 x3 (x3 + 1) m))))))))) :=
  (am_lp_eq _ _).trans (fe_if (rfl) (fe_gd (fe_if (rfl) (fe_if (rfl) (fe_gd (fe_gd (fe_if (rfl) (rfl))))))))
noncomputable def f_X12_inForce (p1 : Int32) (m : fm_) : Option (Int32 × fm_) :=
  ((f_X12_inForce_4 p1 (-1) 0 m))
def sp_X12_inForce : am_S := fn_sp []
theorem sm_X12_inForce : am_Smono (sp_X12_inForce) := fn_sp_mono _
def P_X12_inForce (n : Nat) (r : Nat → Nat → Option Nat) (s : S_X12_inForce) (q : Int32 × fm_) : Prop := match s with
  | (x1, x2, x3, m) => ∀ (Q : Option Value → am_W → Prop), Q (en_i q).1 (mk_ n r q.2) → am_T m_X12_inForce sp_X12_inForce n Q 4 [some (.ref 106), some (.int x1), some (.int x2), some (.int x3)] [] (mk_ n r m)
set_option maxRecDepth 100000 in
theorem t_X12_inForce_4 {n : Nat} {r : Nat → Nat → Option Nat} (hf : fn_F n r) {K : S_X12_inForce → Option (Int32 × fm_)} {q : Int32 × fm_} (hK : ∀ s, K s = some q → P_X12_inForce n r s q) (x1 : Int32) (x2 : Int32) (x3 : Int32) (m : fm_)
  (h : am_k K (st_X12_inForce ((x1, x2, x3, m))) = some q) : P_X12_inForce n r ((x1, x2, x3, m)) q := fun Q hQ =>
  am_T.wp sm_X12_inForce (K := am_T m_X12_inForce sp_X12_inForce n Q) (cuts := [4]) (fun _ _ _ _ h => h) 27
    (⟨fn_aF hf rfl rfl, fj_if h (fun c1 h2 => ⟨rfl, fj_rt h2 hQ⟩) (fun c1 h2 => ⟨fn_aF hf rfl rfl, Or.inl ⟨_, hf.2 106 44 132 rfl, fj_gd h2 fun g4 h3 => ⟨7, fn_aF hf rfl rfl, ix_t g4, fj_if h3 (fun c5 h6 => hK _ h6 _ hQ) (fun c5 h6 => fj_if h6 (fun c7 h8 => hK _ h8 _ hQ) (fun c7 h8 => ⟨fn_aF hf rfl rfl, Or.inl ⟨_, hf.2 106 44 132 rfl, fj_gd h8 fun g10 h9 => ⟨7, fn_aF hf rfl rfl, ix_t g10, ⟨fn_aF hf rfl rfl, Or.inl ⟨_, hf.2 106 44 132 rfl, fj_gd h9 fun g12 h11 => ⟨7, fn_aF hf rfl rfl, ix_t g12, fj_if h11 (fun c13 h14 => hK _ h14 _ hQ) (fun c13 h14 => hK _ h14 _ hQ)⟩⟩⟩⟩⟩⟩))⟩⟩⟩)⟩)
theorem l_X12_inForce {n : Nat} {r : Nat → Nat → Option Nat} (hf : fn_F n r) (s : S_X12_inForce) (q : Int32 × fm_) (h : am_lp (st_X12_inForce) s = some q) : P_X12_inForce n r s q :=
  am_lp_snd (P := P_X12_inForce n r) (fun K hK s q h => match s, h with
    | (x1, x2, x3, m), h => t_X12_inForce_4 hf (fun s => hK s q) x1 x2 x3 m h) s q h
set_option maxRecDepth 100000 in
theorem t_X12_inForce {n : Nat} {r : Nat → Nat → Option Nat} (hf : fn_F n r) {q : Int32 × fm_} (p1 : Int32) {m : fm_}
  (h : f_X12_inForce p1 m = some q) {Q : Option Value → am_W → Prop} (hQ : Q (en_i q).1 (mk_ n r q.2)) : am_T m_X12_inForce sp_X12_inForce n Q 0 [some (.ref 106), some (.int p1), none, none] [] (mk_ n r m) :=
  am_T.wp sm_X12_inForce (K := am_T m_X12_inForce sp_X12_inForce n Q) (cuts := [4]) (fun _ _ _ _ h => h) 6
    (l_X12_inForce hf _ _ h _ hQ)
noncomputable def G_X12_inForce (n : Nat) (r : Nat → Nat → Option Nat) (as : List Value) (m : fm_) : Option (Option Value × fm_) := match as with
  | [.ref x0, .int p1] => gd_ (Nat.beq x0 106) ((f_X12_inForce p1 m).map en_i)
  | _ => none
set_option maxRecDepth 100000 in
theorem gp_X12_inForce {n : Nat} {r : Nat → Nat → Option Nat}  {p1 : Int32} {m : fm_} {q : Int32 × fm_}  (e : f_X12_inForce p1 m = some q) : G_X12_inForce n r [.ref 106, .int p1] m = some (en_i q) := by
  show (gd_ (Nat.beq 106 106) ((f_X12_inForce p1 m).map en_i)) = _
  exact fn_gd rfl (fn_mp e)
set_option maxRecDepth 100000 in
theorem ok_X12_inForce : am_mok 12 222 m_X12_inForce = true := by decide +kernel
set_option maxRecDepth 100000 in
theorem c_X12_inForce (l : Launch) {g : am_G} (hg : fx_ l g) : am_Met l g 0 222 (fn_s fn_F G_X12_inForce) := by
  refine am_sound (own := 12) (M := m_X12_inForce) (SP := sp_X12_inForce) hg.1 (by decide +kernel) ok_X12_inForce (by decide +kernel) ?_ (fun q hq hk => absurd hk (am_no61 (M := m_X12_inForce) (by decide +kernel) q hq)) (fn_ext l _ rfl g 12) (Or.inl (by decide +kernel)) ?_ ?_
  · intro q hq hk
    have hm : q.2.2.2.1 ∈ am_cs m_X12_inForce := am_cs_in hq hk
    rw [show am_cs m_X12_inForce = [] by decide +kernel] at hm
    cases hm
  · intro as w K h
    obtain ⟨hf, y, m1, hG, hK⟩ := h
    unfold G_X12_inForce at hG
    split at hG
    · exact Nat.le_of_ble_eq_true rfl
    · cases hG
  · intro as w K h
    obtain ⟨n, i0, l0, r⟩ := w
    obtain ⟨hf, y, m1, hG, hK⟩ := h
    unfold G_X12_inForce at hG
    split at hG
    · next x0 p1 =>
      obtain ⟨hx1, hG1⟩ := gd_u hG
      obtain rfl := Nat.eq_of_beq_eq_true hx1
      obtain ⟨q, hq, he⟩ := fn_mu hG1
      obtain ⟨rfl, rfl⟩ := Prod.mk.inj he
      exact t_X12_inForce  hf  p1 (m := (i0, l0)) hq hK
    · cases hG

/-! == X12_holds == -/
abbrev S_X12_holds : Type := (Int32 × Int32 × Int32 × Int32 × fm_)
noncomputable def st_X12_holds (s : S_X12_holds) : Option (S_X12_holds ⊕ (Int32 × fm_)) := match s with
  | (x1, x2, x3, x4, m) =>
    (gd_ (ix_ ((8 * x1) + x2) 56)
(if ((700 * x1) + (gi_ m 125 (Int32.toNatClampNeg ((8 * x1) + x2)))) ≤ x4 then
(gd_ (ix_ 0 60)
(if (gi_ m 137 (Int32.toNatClampNeg 0)) = 1 then
((some (Sum.inr (1, m))))
else
((some (Sum.inr (0, m))))))
else
(gd_ (ix_ x4 4900)
(if 20 ≤ (gi_ m 122 (Int32.toNatClampNeg x4)) then
(if (gi_ m 122 (Int32.toNatClampNeg x4)) = 20 then
(gd_ (ix_ (x3 - 1) 60)
(gd_ (ix_ (x3 - 1) 60)
((some (Sum.inl ((x1, x2, x3, (x4 + 1), (si_ m 137 (Int32.toNatClampNeg (x3 - 1)) (1 - (gi_ m 137 (Int32.toNatClampNeg (x3 - 1))))))))))))
else
(gd_ (ix_ ((x3 + (-1)) - 1) 60)
(gd_ (ix_ (x3 + (-1)) 60)
(if (gi_ m 122 (Int32.toNatClampNeg x4)) = 21 then
(if ((gi_ m 137 (Int32.toNatClampNeg ((x3 + (-1)) - 1))) + (gi_ m 137 (Int32.toNatClampNeg (x3 + (-1))))) ≤ 0 then
(gd_ (ix_ ((x3 + (-1)) - 1) 60)
((some (Sum.inl ((x1, x2, (x3 + (-1)), (x4 + 1), (si_ m 137 (Int32.toNatClampNeg ((x3 + (-1)) - 1)) 0)))))))
else
(gd_ (ix_ ((x3 + (-1)) - 1) 60)
((some (Sum.inl ((x1, x2, (x3 + (-1)), (x4 + 1), (si_ m 137 (Int32.toNatClampNeg ((x3 + (-1)) - 1)) 1))))))))
else
(if (gi_ m 122 (Int32.toNatClampNeg x4)) = 22 then
(if ((gi_ m 137 (Int32.toNatClampNeg ((x3 + (-1)) - 1))) + (gi_ m 137 (Int32.toNatClampNeg (x3 + (-1))))) ≤ 1 then
(gd_ (ix_ ((x3 + (-1)) - 1) 60)
((some (Sum.inl ((x1, x2, (x3 + (-1)), (x4 + 1), (si_ m 137 (Int32.toNatClampNeg ((x3 + (-1)) - 1)) 0)))))))
else
(gd_ (ix_ ((x3 + (-1)) - 1) 60)
((some (Sum.inl ((x1, x2, (x3 + (-1)), (x4 + 1), (si_ m 137 (Int32.toNatClampNeg ((x3 + (-1)) - 1)) 1))))))))
else
(if (gi_ m 122 (Int32.toNatClampNeg x4)) = 23 then
(if (gi_ m 137 (Int32.toNatClampNeg ((x3 + (-1)) - 1))) = (gi_ m 137 (Int32.toNatClampNeg (x3 + (-1)))) then
(gd_ (ix_ ((x3 + (-1)) - 1) 60)
((some (Sum.inl ((x1, x2, (x3 + (-1)), (x4 + 1), (si_ m 137 (Int32.toNatClampNeg ((x3 + (-1)) - 1)) 1)))))))
else
(gd_ (ix_ ((x3 + (-1)) - 1) 60)
((some (Sum.inl ((x1, x2, (x3 + (-1)), (x4 + 1), (si_ m 137 (Int32.toNatClampNeg ((x3 + (-1)) - 1)) 0))))))))
else
(if (gi_ m 122 (Int32.toNatClampNeg x4)) = 24 then
(if (gi_ m 137 (Int32.toNatClampNeg (x3 + (-1)))) ≤ (gi_ m 137 (Int32.toNatClampNeg ((x3 + (-1)) - 1))) then
(gd_ (ix_ ((x3 + (-1)) - 1) 60)
((some (Sum.inl ((x1, x2, (x3 + (-1)), (x4 + 1), (si_ m 137 (Int32.toNatClampNeg ((x3 + (-1)) - 1)) 0)))))))
else
(gd_ (ix_ ((x3 + (-1)) - 1) 60)
((some (Sum.inl ((x1, x2, (x3 + (-1)), (x4 + 1), (si_ m 137 (Int32.toNatClampNeg ((x3 + (-1)) - 1)) 1))))))))
else
(if (gi_ m 122 (Int32.toNatClampNeg x4)) = 25 then
(if (gi_ m 137 (Int32.toNatClampNeg ((x3 + (-1)) - 1))) ≤ (gi_ m 137 (Int32.toNatClampNeg (x3 + (-1)))) then
(gd_ (ix_ ((x3 + (-1)) - 1) 60)
((some (Sum.inl ((x1, x2, (x3 + (-1)), (x4 + 1), (si_ m 137 (Int32.toNatClampNeg ((x3 + (-1)) - 1)) 0)))))))
else
(gd_ (ix_ ((x3 + (-1)) - 1) 60)
((some (Sum.inl ((x1, x2, (x3 + (-1)), (x4 + 1), (si_ m 137 (Int32.toNatClampNeg ((x3 + (-1)) - 1)) 1))))))))
else
(if (gi_ m 122 (Int32.toNatClampNeg x4)) = 26 then
(gd_ (ix_ ((x3 + (-1)) - 1) 60)
((some (Sum.inl ((x1, x2, (x3 + (-1)), (x4 + 1), (si_ m 137 (Int32.toNatClampNeg ((x3 + (-1)) - 1)) ((gi_ m 137 (Int32.toNatClampNeg ((x3 + (-1)) - 1))) + (gi_ m 137 (Int32.toNatClampNeg (x3 + (-1))))))))))))
else
(gd_ (ix_ ((x3 + (-1)) - 1) 60)
((some (Sum.inl ((x1, x2, (x3 + (-1)), (x4 + 1), (si_ m 137 (Int32.toNatClampNeg ((x3 + (-1)) - 1)) ((gi_ m 137 (Int32.toNatClampNeg ((x3 + (-1)) - 1))) - (gi_ m 137 (Int32.toNatClampNeg (x3 + (-1)))))))))))))))))))))
else
(if (gi_ m 122 (Int32.toNatClampNeg x4)) = 0 then
(gd_ (ix_ x4 4900)
(gd_ (ix_ x3 60)
((some (Sum.inl ((x1, x2, (x3 + 1), (x4 + 1), (si_ m 137 (Int32.toNatClampNeg x3) (gi_ m 123 (Int32.toNatClampNeg x4))))))))))
else
(gd_ (ix_ (gi_ m 122 (Int32.toNatClampNeg x4)) 9)
(gd_ (ix_ x3 60)
((some (Sum.inl ((x1, x2, (x3 + 1), (x4 + 1), (si_ m 137 (Int32.toNatClampNeg x3) (gi_ m 136 (Int32.toNatClampNeg (gi_ m 122 (Int32.toNatClampNeg x4)))))))))))))))))
noncomputable def f_X12_holds_37 (x1 : Int32) (x2 : Int32) (x3 : Int32) (x4 : Int32) (m : fm_) : Option (Int32 × fm_) := am_lp (st_X12_holds) ((x1, x2, x3, x4, m))
theorem e_X12_holds_37 (x1 : Int32) (x2 : Int32) (x3 : Int32) (x4 : Int32) (m : fm_) : f_X12_holds_37 x1 x2 x3 x4 m =
(gd_ (ix_ ((8 * x1) + x2) 56)
(if ((700 * x1) + (gi_ m 125 (Int32.toNatClampNeg ((8 * x1) + x2)))) ≤ x4 then
(gd_ (ix_ 0 60)
(if (gi_ m 137 (Int32.toNatClampNeg 0)) = 1 then
((some (1, m)))
else
((some (0, m)))))
else
(gd_ (ix_ x4 4900)
(if 20 ≤ (gi_ m 122 (Int32.toNatClampNeg x4)) then
(if (gi_ m 122 (Int32.toNatClampNeg x4)) = 20 then
(gd_ (ix_ (x3 - 1) 60)
(gd_ (ix_ (x3 - 1) 60)
((f_X12_holds_37 x1 x2 x3 (x4 + 1) (si_ m 137 (Int32.toNatClampNeg (x3 - 1)) (1 - (gi_ m 137 (Int32.toNatClampNeg (x3 - 1)))))))))
else
(gd_ (ix_ ((x3 + (-1)) - 1) 60)
(gd_ (ix_ (x3 + (-1)) 60)
(if (gi_ m 122 (Int32.toNatClampNeg x4)) = 21 then
(if ((gi_ m 137 (Int32.toNatClampNeg ((x3 + (-1)) - 1))) + (gi_ m 137 (Int32.toNatClampNeg (x3 + (-1))))) ≤ 0 then
(gd_ (ix_ ((x3 + (-1)) - 1) 60)
((f_X12_holds_37 x1 x2 (x3 + (-1)) (x4 + 1) (si_ m 137 (Int32.toNatClampNeg ((x3 + (-1)) - 1)) 0))))
else
(gd_ (ix_ ((x3 + (-1)) - 1) 60)
((f_X12_holds_37 x1 x2 (x3 + (-1)) (x4 + 1) (si_ m 137 (Int32.toNatClampNeg ((x3 + (-1)) - 1)) 1)))))
else
(if (gi_ m 122 (Int32.toNatClampNeg x4)) = 22 then
(if ((gi_ m 137 (Int32.toNatClampNeg ((x3 + (-1)) - 1))) + (gi_ m 137 (Int32.toNatClampNeg (x3 + (-1))))) ≤ 1 then
(gd_ (ix_ ((x3 + (-1)) - 1) 60)
((f_X12_holds_37 x1 x2 (x3 + (-1)) (x4 + 1) (si_ m 137 (Int32.toNatClampNeg ((x3 + (-1)) - 1)) 0))))
else
(gd_ (ix_ ((x3 + (-1)) - 1) 60)
((f_X12_holds_37 x1 x2 (x3 + (-1)) (x4 + 1) (si_ m 137 (Int32.toNatClampNeg ((x3 + (-1)) - 1)) 1)))))
else
(if (gi_ m 122 (Int32.toNatClampNeg x4)) = 23 then
(if (gi_ m 137 (Int32.toNatClampNeg ((x3 + (-1)) - 1))) = (gi_ m 137 (Int32.toNatClampNeg (x3 + (-1)))) then
(gd_ (ix_ ((x3 + (-1)) - 1) 60)
((f_X12_holds_37 x1 x2 (x3 + (-1)) (x4 + 1) (si_ m 137 (Int32.toNatClampNeg ((x3 + (-1)) - 1)) 1))))
else
(gd_ (ix_ ((x3 + (-1)) - 1) 60)
((f_X12_holds_37 x1 x2 (x3 + (-1)) (x4 + 1) (si_ m 137 (Int32.toNatClampNeg ((x3 + (-1)) - 1)) 0)))))
else
(if (gi_ m 122 (Int32.toNatClampNeg x4)) = 24 then
(if (gi_ m 137 (Int32.toNatClampNeg (x3 + (-1)))) ≤ (gi_ m 137 (Int32.toNatClampNeg ((x3 + (-1)) - 1))) then
(gd_ (ix_ ((x3 + (-1)) - 1) 60)
((f_X12_holds_37 x1 x2 (x3 + (-1)) (x4 + 1) (si_ m 137 (Int32.toNatClampNeg ((x3 + (-1)) - 1)) 0))))
else
(gd_ (ix_ ((x3 + (-1)) - 1) 60)
((f_X12_holds_37 x1 x2 (x3 + (-1)) (x4 + 1) (si_ m 137 (Int32.toNatClampNeg ((x3 + (-1)) - 1)) 1)))))
else
(if (gi_ m 122 (Int32.toNatClampNeg x4)) = 25 then
(if (gi_ m 137 (Int32.toNatClampNeg ((x3 + (-1)) - 1))) ≤ (gi_ m 137 (Int32.toNatClampNeg (x3 + (-1)))) then
(gd_ (ix_ ((x3 + (-1)) - 1) 60)
((f_X12_holds_37 x1 x2 (x3 + (-1)) (x4 + 1) (si_ m 137 (Int32.toNatClampNeg ((x3 + (-1)) - 1)) 0))))
else
(gd_ (ix_ ((x3 + (-1)) - 1) 60)
((f_X12_holds_37 x1 x2 (x3 + (-1)) (x4 + 1) (si_ m 137 (Int32.toNatClampNeg ((x3 + (-1)) - 1)) 1)))))
else
(if (gi_ m 122 (Int32.toNatClampNeg x4)) = 26 then
(gd_ (ix_ ((x3 + (-1)) - 1) 60)
((f_X12_holds_37 x1 x2 (x3 + (-1)) (x4 + 1) (si_ m 137 (Int32.toNatClampNeg ((x3 + (-1)) - 1)) ((gi_ m 137 (Int32.toNatClampNeg ((x3 + (-1)) - 1))) + (gi_ m 137 (Int32.toNatClampNeg (x3 + (-1)))))))))
else
(gd_ (ix_ ((x3 + (-1)) - 1) 60)
((f_X12_holds_37 x1 x2 (x3 + (-1)) (x4 + 1) (si_ m 137 (Int32.toNatClampNeg ((x3 + (-1)) - 1)) ((gi_ m 137 (Int32.toNatClampNeg ((x3 + (-1)) - 1))) - (gi_ m 137 (Int32.toNatClampNeg (x3 + (-1))))))))))))))))))
else
(if (gi_ m 122 (Int32.toNatClampNeg x4)) = 0 then
(gd_ (ix_ x4 4900)
(gd_ (ix_ x3 60)
((f_X12_holds_37 x1 x2 (x3 + 1) (x4 + 1) (si_ m 137 (Int32.toNatClampNeg x3) (gi_ m 123 (Int32.toNatClampNeg x4)))))))
else
(gd_ (ix_ (gi_ m 122 (Int32.toNatClampNeg x4)) 9)
(gd_ (ix_ x3 60)
((f_X12_holds_37 x1 x2 (x3 + 1) (x4 + 1) (si_ m 137 (Int32.toNatClampNeg x3) (gi_ m 136 (Int32.toNatClampNeg (gi_ m 122 (Int32.toNatClampNeg x4)))))))))))))) :=
  (am_lp_eq _ _).trans (fe_gd (fe_if (fe_gd (fe_if (rfl) (rfl))) (fe_gd (fe_if (fe_if (fe_gd (fe_gd (rfl))) (fe_gd (fe_gd (fe_if (fe_if (fe_gd (rfl)) (fe_gd (rfl))) (fe_if (fe_if (fe_gd (rfl)) (fe_gd (rfl))) (fe_if (fe_if (fe_gd (rfl)) (fe_gd (rfl))) (fe_if (fe_if (fe_gd (rfl)) (fe_gd (rfl))) (fe_if (fe_if (fe_gd (rfl)) (fe_gd (rfl))) (fe_if (fe_gd (rfl)) (fe_gd (rfl))))))))))) (fe_if (fe_gd (fe_gd (rfl))) (fe_gd (fe_gd (rfl))))))))
noncomputable def f_X12_holds (p1 : Int32) (p2 : Int32) (m : fm_) : Option (Int32 × fm_) :=
  (gd_ (ix_ ((8 * p1) + p2) 56)
(if (gi_ m 133 (Int32.toNatClampNeg ((8 * p1) + p2))) = 0 then
((some (0, m)))
else
(gd_ (ix_ ((8 * p1) + p2) 56)
((f_X12_holds_37 p1 p2 0 ((700 * p1) + (gi_ m 124 (Int32.toNatClampNeg ((8 * p1) + p2)))) m)))))
def sp_X12_holds : am_S := fn_sp []
theorem sm_X12_holds : am_Smono (sp_X12_holds) := fn_sp_mono _
def P_X12_holds (n : Nat) (r : Nat → Nat → Option Nat) (s : S_X12_holds) (q : Int32 × fm_) : Prop := match s with
  | (x1, x2, x3, x4, m) => ∀ (Q : Option Value → am_W → Prop) (y5 : Option Value) (y6 : Option Value) (y7 : Option Value), Q (en_i q).1 (mk_ n r q.2) → am_T m_X12_holds sp_X12_holds n Q 37 [some (.ref 106), some (.int x1), some (.int x2), some (.int x3), some (.int x4), y5, y6, y7] [] (mk_ n r m)
set_option maxRecDepth 100000 in
theorem t_X12_holds_37 {n : Nat} {r : Nat → Nat → Option Nat} (hf : fn_F n r) {K : S_X12_holds → Option (Int32 × fm_)} {q : Int32 × fm_} (hK : ∀ s, K s = some q → P_X12_holds n r s q) (x1 : Int32) (x2 : Int32) (x3 : Int32) (x4 : Int32) (m : fm_)
  (h : am_k K (st_X12_holds ((x1, x2, x3, x4, m))) = some q) : P_X12_holds n r ((x1, x2, x3, x4, m)) q := fun Q y5 y6 y7 hQ =>
  am_T.wp sm_X12_holds (K := am_T m_X12_holds sp_X12_holds n Q) (cuts := [37]) (fun _ _ _ _ h => h) 58
    (⟨fn_aF hf rfl rfl, Or.inl ⟨_, hf.2 106 37 125 rfl, fj_gd h fun g2 h1 => ⟨56, fn_aF hf rfl rfl, ix_t g2, fj_if h1 (fun c3 h4 => ⟨fn_aF hf rfl rfl, Or.inl ⟨_, hf.2 106 56 137 rfl, fj_gd h4 fun g6 h5 => ⟨60, fn_aF hf rfl rfl, ix_t g6, fj_in h5 (fun c7 h8 => ⟨rfl, Or.inl rfl, fj_rt h8 hQ⟩) (fun c7 h8 => ⟨rfl, Or.inr rfl, fj_rt h8 hQ⟩)⟩⟩⟩) (fun c3 h4 => ⟨fn_aF hf rfl rfl, Or.inl ⟨_, hf.2 106 34 122 rfl, fj_gd h4 fun g10 h9 => ⟨4900, fn_aF hf rfl rfl, ix_t g10, fj_if h9 (fun c11 h12 => fj_in h12 (fun c13 h14 => ⟨fn_aF hf rfl rfl, Or.inl ⟨_, hf.2 106 56 137 rfl, fj_gd h14 fun g16 h15 => ⟨60, fn_aF hf rfl rfl, ix_t g16, ⟨fn_aF hf rfl rfl, Or.inl ⟨_, hf.2 106 56 137 rfl, fj_gd h15 fun g18 h17 => ⟨60, fn_aF hf rfl rfl, ix_t g18, ⟨fun c19 => have h20 := fj_t h17 c19; ⟨fn_aF hf rfl rfl, Or.inl ⟨_, hf.2 106 56 137 rfl, fj_if h20 (fun c21 h22 => fj_gd h22 fun g24 h23 => ⟨60, fn_aF hf rfl rfl, ix_t g24, hK _ h23 _ _ _ _ hQ⟩) (fun c21 h22 => fj_gd h22 fun g26 h25 => ⟨60, fn_aF hf rfl rfl, ix_t g26, hK _ h25 _ _ _ _ hQ⟩)⟩⟩, fun c19 => have h20 := fj_f h17 c19; am_swc (fj_if h20 (fun c27 h28 => ⟨fn_aF hf rfl rfl, Or.inl ⟨_, hf.2 106 56 137 rfl, fj_if h28 (fun c29 h30 => fj_gd h30 fun g32 h31 => ⟨60, fn_aF hf rfl rfl, ix_t g32, hK _ h31 _ _ _ _ hQ⟩) (fun c29 h30 => fj_gd h30 fun g34 h33 => ⟨60, fn_aF hf rfl rfl, ix_t g34, hK _ h33 _ _ _ _ hQ⟩)⟩⟩) (fun c27 h28 => am_swc (fj_if h28 (fun c35 h36 => ⟨fn_aF hf rfl rfl, Or.inl ⟨_, hf.2 106 56 137 rfl, fj_in h36 (fun c37 h38 => fj_gd h38 fun g40 h39 => ⟨60, fn_aF hf rfl rfl, ix_t g40, hK _ h39 _ _ _ _ hQ⟩) (fun c37 h38 => fj_gd h38 fun g42 h41 => ⟨60, fn_aF hf rfl rfl, ix_t g42, hK _ h41 _ _ _ _ hQ⟩)⟩⟩) (fun c35 h36 => am_swc (fj_if h36 (fun c43 h44 => ⟨fn_aF hf rfl rfl, Or.inl ⟨_, hf.2 106 56 137 rfl, fj_if h44 (fun c45 h46 => fj_gd h46 fun g48 h47 => ⟨60, fn_aF hf rfl rfl, ix_t g48, hK _ h47 _ _ _ _ hQ⟩) (fun c45 h46 => fj_gd h46 fun g50 h49 => ⟨60, fn_aF hf rfl rfl, ix_t g50, hK _ h49 _ _ _ _ hQ⟩)⟩⟩) (fun c43 h44 => am_swc (fj_if h44 (fun c51 h52 => ⟨fn_aF hf rfl rfl, Or.inl ⟨_, hf.2 106 56 137 rfl, fj_if h52 (fun c53 h54 => fj_gd h54 fun g56 h55 => ⟨60, fn_aF hf rfl rfl, ix_t g56, hK _ h55 _ _ _ _ hQ⟩) (fun c53 h54 => fj_gd h54 fun g58 h57 => ⟨60, fn_aF hf rfl rfl, ix_t g58, hK _ h57 _ _ _ _ hQ⟩)⟩⟩) (fun c51 h52 => am_swc (fj_if h52 (fun c59 h60 => ⟨fn_aF hf rfl rfl, Or.inl ⟨_, hf.2 106 56 137 rfl, fj_gd h60 fun g62 h61 => ⟨60, fn_aF hf rfl rfl, ix_t g62, hK _ h61 _ _ _ _ hQ⟩⟩⟩) (fun c59 h60 => am_swn (⟨fn_aF hf rfl rfl, Or.inl ⟨_, hf.2 106 56 137 rfl, fj_gd h60 fun g64 h63 => ⟨60, fn_aF hf rfl rfl, ix_t g64, hK _ h63 _ _ _ _ hQ⟩⟩⟩)))))))))))⟩⟩⟩⟩⟩⟩⟩) (fun c13 h14 => ⟨fn_aF hf rfl rfl, Or.inl ⟨_, hf.2 106 56 137 rfl, ⟨fn_aF hf rfl rfl, Or.inl ⟨_, hf.2 106 56 137 rfl, fj_gd h14 fun g66 h65 => ⟨60, fn_aF hf rfl rfl, ix_t g66, fj_gd h65 fun g68 h67 => ⟨60, fn_aF hf rfl rfl, ix_t g68, hK _ h67 _ _ _ _ hQ⟩⟩⟩⟩⟩⟩)) (fun c11 h12 => ⟨fn_aF hf rfl rfl, Or.inl ⟨_, hf.2 106 56 137 rfl, fj_in h12 (fun c69 h70 => ⟨fn_aF hf rfl rfl, Or.inl ⟨_, hf.2 106 55 136 rfl, fj_gd h70 fun g72 h71 => ⟨9, fn_aF hf rfl rfl, ix_t g72, fj_gd h71 fun g74 h73 => ⟨60, fn_aF hf rfl rfl, ix_t g74, hK _ h73 _ _ _ _ hQ⟩⟩⟩⟩) (fun c69 h70 => ⟨fn_aF hf rfl rfl, Or.inl ⟨_, hf.2 106 35 123 rfl, fj_gd h70 fun g76 h75 => ⟨4900, fn_aF hf rfl rfl, ix_t g76, fj_gd h75 fun g78 h77 => ⟨60, fn_aF hf rfl rfl, ix_t g78, hK _ h77 _ _ _ _ hQ⟩⟩⟩⟩)⟩⟩)⟩⟩⟩)⟩⟩⟩)
theorem l_X12_holds {n : Nat} {r : Nat → Nat → Option Nat} (hf : fn_F n r) (s : S_X12_holds) (q : Int32 × fm_) (h : am_lp (st_X12_holds) s = some q) : P_X12_holds n r s q :=
  am_lp_snd (P := P_X12_holds n r) (fun K hK s q h => match s, h with
    | (x1, x2, x3, x4, m), h => t_X12_holds_37 hf (fun s => hK s q) x1 x2 x3 x4 m h) s q h
set_option maxRecDepth 100000 in
theorem t_X12_holds {n : Nat} {r : Nat → Nat → Option Nat} (hf : fn_F n r) {q : Int32 × fm_} (p1 : Int32) (p2 : Int32) {m : fm_}
  (h : f_X12_holds p1 p2 m = some q) {Q : Option Value → am_W → Prop} (hQ : Q (en_i q).1 (mk_ n r q.2)) : am_T m_X12_holds sp_X12_holds n Q 0 [some (.ref 106), some (.int p1), some (.int p2), none, none, none, none, none] [] (mk_ n r m) :=
  am_T.wp sm_X12_holds (K := am_T m_X12_holds sp_X12_holds n Q) (cuts := [37]) (fun _ _ _ _ h => h) 26
    (⟨fn_aF hf rfl rfl, Or.inl ⟨_, hf.2 106 45 133 rfl, fh_gd h fun g2 h1 => ⟨56, Or.inr (fn_aF hf rfl rfl), ix_t g2, fh_in h1 (fun c3 h4 => ⟨fn_aF hf rfl rfl, Or.inl ⟨_, hf.2 106 36 124 rfl, fh_gd h4 fun g6 h5 => ⟨56, fn_aF hf rfl rfl, ix_t g6, l_X12_holds hf _ _ h5 _ _ _ _ hQ⟩⟩⟩) (fun c3 h4 => ⟨rfl, Or.inl rfl, fh_rt h4 hQ⟩)⟩⟩⟩)
noncomputable def G_X12_holds (n : Nat) (r : Nat → Nat → Option Nat) (as : List Value) (m : fm_) : Option (Option Value × fm_) := match as with
  | [.ref x0, .int p1, .int p2] => gd_ (Nat.beq x0 106) ((f_X12_holds p1 p2 m).map en_i)
  | _ => none
set_option maxRecDepth 100000 in
theorem gp_X12_holds {n : Nat} {r : Nat → Nat → Option Nat}  {p1 : Int32} {p2 : Int32} {m : fm_} {q : Int32 × fm_}  (e : f_X12_holds p1 p2 m = some q) : G_X12_holds n r [.ref 106, .int p1, .int p2] m = some (en_i q) := by
  show (gd_ (Nat.beq 106 106) ((f_X12_holds p1 p2 m).map en_i)) = _
  exact fn_gd rfl (fn_mp e)
set_option maxRecDepth 100000 in
theorem ok_X12_holds : am_mok 12 223 m_X12_holds = true := by decide +kernel
set_option maxRecDepth 100000 in
theorem c_X12_holds (l : Launch) {g : am_G} (hg : fx_ l g) : am_Met l g 0 223 (fn_s fn_F G_X12_holds) := by
  refine am_sound (own := 12) (M := m_X12_holds) (SP := sp_X12_holds) hg.1 (by decide +kernel) ok_X12_holds (by decide +kernel) ?_ (fun q hq hk => absurd hk (am_no61 (M := m_X12_holds) (by decide +kernel) q hq)) (fn_ext l _ rfl g 12) (Or.inl (by decide +kernel)) ?_ ?_
  · intro q hq hk
    have hm : q.2.2.2.1 ∈ am_cs m_X12_holds := am_cs_in hq hk
    rw [show am_cs m_X12_holds = [] by decide +kernel] at hm
    cases hm
  · intro as w K h
    obtain ⟨hf, y, m1, hG, hK⟩ := h
    unfold G_X12_holds at hG
    split at hG
    · exact Nat.le_of_ble_eq_true rfl
    · cases hG
  · intro as w K h
    obtain ⟨n, i0, l0, r⟩ := w
    obtain ⟨hf, y, m1, hG, hK⟩ := h
    unfold G_X12_holds at hG
    split at hG
    · next x0 p1 p2 =>
      obtain ⟨hx1, hG1⟩ := gd_u hG
      obtain rfl := Nat.eq_of_beq_eq_true hx1
      obtain ⟨q, hq, he⟩ := fn_mu hG1
      obtain ⟨rfl, rfl⟩ := Prod.mk.inj he
      exact t_X12_holds  hf  p1 p2 (m := (i0, l0)) hq hK
    · cases hG

/-! == X12_signAt == -/
noncomputable def f_X12_signAt (p1 : Int64) (p2 : Int32) (m : fm_) : Option (Int32 × fm_) :=
  ((some ((Int64.toInt32 ((p1 >>> (Int32.toInt64 (8 * (5 - p2)) &&& 63)) &&& 255)), m)))
def sp_X12_signAt : am_S := fn_sp []
theorem sm_X12_signAt : am_Smono (sp_X12_signAt) := fn_sp_mono _
set_option maxRecDepth 100000 in
theorem t_X12_signAt {n : Nat} {r : Nat → Nat → Option Nat} (hf : fn_0 n r) {q : Int32 × fm_} (p1 : Int64) (p2 : Int32) {m : fm_}
  (h : f_X12_signAt p1 p2 m = some q) {Q : Option Value → am_W → Prop} (hQ : Q (en_i q).1 (mk_ n r q.2)) : am_T m_X12_signAt sp_X12_signAt n Q 0 [some (.long p1), none, some (.int p2)] [] (mk_ n r m) :=
  am_T.wp sm_X12_signAt (K := am_T m_X12_signAt sp_X12_signAt n Q) (cuts := []) (fun _ _ _ _ h => h) 12
    (⟨rfl, fh_rt h hQ⟩)
noncomputable def G_X12_signAt (n : Nat) (r : Nat → Nat → Option Nat) (as : List Value) (m : fm_) : Option (Option Value × fm_) := match as with
  | [.long p1, .int p2] => (f_X12_signAt p1 p2 m).map en_i
  | _ => none
set_option maxRecDepth 100000 in
theorem gp_X12_signAt {n : Nat} {r : Nat → Nat → Option Nat}  {p1 : Int64} {p2 : Int32} {m : fm_} {q : Int32 × fm_}  (e : f_X12_signAt p1 p2 m = some q) : G_X12_signAt n r [.long p1, .int p2] m = some (en_i q) := by
  show ((f_X12_signAt p1 p2 m).map en_i) = _
  exact fn_mp e
set_option maxRecDepth 100000 in
theorem ok_X12_signAt : am_mok 12 224 m_X12_signAt = true := by decide +kernel
set_option maxRecDepth 100000 in
theorem c_X12_signAt (l : Launch) {g : am_G} (hg : fx_ l g) : am_Met l g 0 224 (fn_s fn_0 G_X12_signAt) := by
  refine am_sound (own := 12) (M := m_X12_signAt) (SP := sp_X12_signAt) hg.1 (by decide +kernel) ok_X12_signAt (by decide +kernel) ?_ (fun q hq hk => absurd hk (am_no61 (M := m_X12_signAt) (by decide +kernel) q hq)) (fn_ext l _ rfl g 12) (Or.inl (by decide +kernel)) ?_ ?_
  · intro q hq hk
    have hm : q.2.2.2.1 ∈ am_cs m_X12_signAt := am_cs_in hq hk
    rw [show am_cs m_X12_signAt = [] by decide +kernel] at hm
    cases hm
  · intro as w K h
    obtain ⟨hf, y, m1, hG, hK⟩ := h
    unfold G_X12_signAt at hG
    split at hG
    · exact Nat.le_of_ble_eq_true rfl
    · cases hG
  · intro as w K h
    obtain ⟨n, i0, l0, r⟩ := w
    obtain ⟨hf, y, m1, hG, hK⟩ := h
    unfold G_X12_signAt at hG
    split at hG
    · next p1 p2 =>
      obtain ⟨q, hq, he⟩ := fn_mu hG
      obtain ⟨rfl, rfl⟩ := Prod.mk.inj he
      exact t_X12_signAt  hf  p1 p2 (m := (i0, l0)) hq hK
    · cases hG

/-! == X12_areSigns == -/
abbrev S_X12_areSigns : Type := (Int64 × Int32 × Int32 × Int32 × fm_)
noncomputable def st_X12_areSigns (s : S_X12_areSigns) : Option (S_X12_areSigns ⊕ (Int32 × fm_)) := match s with
  | (x0, x2, x3, x4, m) =>
    (if 6 ≤ x4 then
(gd_ (bl_ x3)
((some (Sum.inr (x3, m)))))
else
(Option.bind (f_X12_signAt x0 x4 m) fun q5 =>
(if x3 = 0 then
((some (Sum.inl ((x0, x2, 0, (x4 + 1), q5.2)))))
else
(Option.bind (f_X12_isLetter q5.1 q5.2) fun q10 =>
(if q10.1 = 0 then
(Option.bind (f_X12_isDigit q5.1 q10.2) fun q15 =>
(if q15.1 = 0 then
(if x2 = 0 then
((some (Sum.inl ((x0, x2, 0, (x4 + 1), q15.2)))))
else
(if q5.1 = 63 then
((some (Sum.inl ((x0, x2, 1, (x4 + 1), q15.2)))))
else
((some (Sum.inl ((x0, x2, 0, (x4 + 1), q15.2)))))))
else
((some (Sum.inl ((x0, x2, 1, (x4 + 1), q15.2)))))))
else
((some (Sum.inl ((x0, x2, 1, (x4 + 1), q10.2))))))))))
noncomputable def f_X12_areSigns_5 (x0 : Int64) (x2 : Int32) (x3 : Int32) (x4 : Int32) (m : fm_) : Option (Int32 × fm_) := am_lp (st_X12_areSigns) ((x0, x2, x3, x4, m))
theorem e_X12_areSigns_5 (x0 : Int64) (x2 : Int32) (x3 : Int32) (x4 : Int32) (m : fm_) : f_X12_areSigns_5 x0 x2 x3 x4 m =
(if 6 ≤ x4 then
(gd_ (bl_ x3)
((some (x3, m))))
else
(Option.bind (f_X12_signAt x0 x4 m) fun q5 =>
(if x3 = 0 then
((f_X12_areSigns_5 x0 x2 0 (x4 + 1) q5.2))
else
(Option.bind (f_X12_isLetter q5.1 q5.2) fun q10 =>
(if q10.1 = 0 then
(Option.bind (f_X12_isDigit q5.1 q10.2) fun q15 =>
(if q15.1 = 0 then
(if x2 = 0 then
((f_X12_areSigns_5 x0 x2 0 (x4 + 1) q15.2))
else
(if q5.1 = 63 then
((f_X12_areSigns_5 x0 x2 1 (x4 + 1) q15.2))
else
((f_X12_areSigns_5 x0 x2 0 (x4 + 1) q15.2))))
else
((f_X12_areSigns_5 x0 x2 1 (x4 + 1) q15.2))))
else
((f_X12_areSigns_5 x0 x2 1 (x4 + 1) q10.2))))))) :=
  (am_lp_eq _ _).trans (fe_if (fe_gd rfl) (fe_bd fun q5 => (fe_if (rfl) (fe_bd fun q10 => (fe_if (fe_bd fun q15 => (fe_if (fe_if (rfl) (fe_if (rfl) (rfl))) (rfl))) (rfl))))))
noncomputable def f_X12_areSigns (p1 : Int64) (p2 : Int32) (m : fm_) : Option (Int32 × fm_) :=
  ((f_X12_areSigns_5 p1 p2 1 0 m))
def sp_X12_areSigns : am_S := fn_sp [(224, fn_0, G_X12_signAt), (188, fn_0, G_X12_isLetter), (189, fn_0, G_X12_isDigit)]
theorem sm_X12_areSigns : am_Smono (sp_X12_areSigns) := fn_sp_mono _
def P_X12_areSigns (n : Nat) (r : Nat → Nat → Option Nat) (s : S_X12_areSigns) (q : Int32 × fm_) : Prop := match s with
  | (x0, x2, x3, x4, m) => ∀ (Q : Option Value → am_W → Prop) (y5 : Option Value), Q (en_i q).1 (mk_ n r q.2) → am_T m_X12_areSigns sp_X12_areSigns n Q 5 [some (.long x0), none, some (.int x2), some (.int x3), some (.int x4), y5] [] (mk_ n r m)
set_option maxRecDepth 100000 in
theorem t_X12_areSigns_5 {n : Nat} {r : Nat → Nat → Option Nat} (hf : fn_0 n r) {K : S_X12_areSigns → Option (Int32 × fm_)} {q : Int32 × fm_} (hK : ∀ s, K s = some q → P_X12_areSigns n r s q) (x0 : Int64) (x2 : Int32) (x3 : Int32) (x4 : Int32) (m : fm_)
  (h : am_k K (st_X12_areSigns ((x0, x2, x3, x4, m))) = some q) : P_X12_areSigns n r ((x0, x2, x3, x4, m)) q := fun Q y5 hQ =>
  am_T.wp sm_X12_areSigns (K := am_T m_X12_areSigns sp_X12_areSigns n Q) (cuts := [5]) (fun _ _ _ _ h => h) 27
    (fj_if h (fun c1 h2 => fj_gd h2 fun g4 h3 => ⟨rfl, bl_t g4, fj_rt h3 hQ⟩) (fun c1 h2 => fj_bd h2 fun q5 e6 h7 => ⟨Nat.le_of_ble_eq_true rfl, trivial, ⟨trivial, some (.int q5.1), q5.2, gp_X12_signAt (n := n) (r := r)  e6, fun _ => fj_if h7 (fun c8 h9 => hK _ h9 _ _ hQ) (fun c8 h9 => fj_bd h9 fun q10 e11 h12 => ⟨Nat.le_of_ble_eq_true rfl, trivial, ⟨trivial, some (.int q10.1), q10.2, gp_X12_isLetter (n := n) (r := r)  e11, fun _ => fj_in h12 (fun c13 h14 => hK _ h14 _ _ hQ) (fun c13 h14 => fj_bd h14 fun q15 e16 h17 => ⟨Nat.le_of_ble_eq_true rfl, trivial, ⟨trivial, some (.int q15.1), q15.2, gp_X12_isDigit (n := n) (r := r)  e16, fun _ => fj_in h17 (fun c18 h19 => hK _ h19 _ _ hQ) (fun c18 h19 => fj_if h19 (fun c20 h21 => hK _ h21 _ _ hQ) (fun c20 h21 => fj_in h21 (fun c22 h23 => hK _ h23 _ _ hQ) (fun c22 h23 => hK _ h23 _ _ hQ)))⟩⟩)⟩⟩)⟩⟩))
theorem l_X12_areSigns {n : Nat} {r : Nat → Nat → Option Nat} (hf : fn_0 n r) (s : S_X12_areSigns) (q : Int32 × fm_) (h : am_lp (st_X12_areSigns) s = some q) : P_X12_areSigns n r s q :=
  am_lp_snd (P := P_X12_areSigns n r) (fun K hK s q h => match s, h with
    | (x0, x2, x3, x4, m), h => t_X12_areSigns_5 hf (fun s => hK s q) x0 x2 x3 x4 m h) s q h
set_option maxRecDepth 100000 in
theorem t_X12_areSigns {n : Nat} {r : Nat → Nat → Option Nat} (hf : fn_0 n r) {q : Int32 × fm_} (p1 : Int64) (p2 : Int32) {m : fm_}
  (h : f_X12_areSigns p1 p2 m = some q) {Q : Option Value → am_W → Prop} (hQ : Q (en_i q).1 (mk_ n r q.2)) : am_T m_X12_areSigns sp_X12_areSigns n Q 0 [some (.long p1), none, some (.int p2), none, none, none] [] (mk_ n r m) :=
  am_T.wp sm_X12_areSigns (K := am_T m_X12_areSigns sp_X12_areSigns n Q) (cuts := [5]) (fun _ _ _ _ h => h) 6
    (l_X12_areSigns hf _ _ h _ _ hQ)
noncomputable def G_X12_areSigns (n : Nat) (r : Nat → Nat → Option Nat) (as : List Value) (m : fm_) : Option (Option Value × fm_) := match as with
  | [.long p1, .int p2] => (f_X12_areSigns p1 p2 m).map en_i
  | _ => none
set_option maxRecDepth 100000 in
theorem gp_X12_areSigns {n : Nat} {r : Nat → Nat → Option Nat}  {p1 : Int64} {p2 : Int32} {m : fm_} {q : Int32 × fm_}  (e : f_X12_areSigns p1 p2 m = some q) : G_X12_areSigns n r [.long p1, .int p2] m = some (en_i q) := by
  show ((f_X12_areSigns p1 p2 m).map en_i) = _
  exact fn_mp e
set_option maxRecDepth 100000 in
theorem ok_X12_areSigns : am_mok 12 225 m_X12_areSigns = true := by decide +kernel
set_option maxRecDepth 100000 in
theorem c_X12_areSigns (l : Launch) {g : am_G} (hg : fx_ l g) : am_Met l g 1 225 (fn_s fn_0 G_X12_areSigns) := by
  refine am_sound (own := 12) (M := m_X12_areSigns) (SP := sp_X12_areSigns) hg.1 (by decide +kernel) ok_X12_areSigns (by decide +kernel) ?_ (fun q hq hk => absurd hk (am_no61 (M := m_X12_areSigns) (by decide +kernel) q hq)) (fn_ext l _ rfl g 12) (Or.inl (by decide +kernel)) ?_ ?_
  · intro q hq hk
    have hm : q.2.2.2.1 ∈ am_cs m_X12_areSigns := am_cs_in hq hk
    rw [show am_cs m_X12_areSigns = [224, 188, 189] by decide +kernel] at hm
    have hm : q.2.2.2.1 ∈ [188, 189, 224] := (List.all_eq_true.mp (show ([224, 188, 189] : List Nat).all (fun a => decide (a ∈ ([188, 189, 224] : List Nat))) = true by decide +kernel) _ hm |> of_decide_eq_true)
    simp only [List.mem_cons, List.not_mem_nil, or_false] at hm
    rcases hm with hm | hm | hm
    · rw [hm]; exact ⟨0, by omega, c_X12_isLetter l hg⟩
    · rw [hm]; exact ⟨0, by omega, c_X12_isDigit l hg⟩
    · rw [hm]; exact ⟨0, by omega, c_X12_signAt l hg⟩
  · intro as w K h
    obtain ⟨hf, y, m1, hG, hK⟩ := h
    unfold G_X12_areSigns at hG
    split at hG
    · exact Nat.le_of_ble_eq_true rfl
    · cases hG
  · intro as w K h
    obtain ⟨n, i0, l0, r⟩ := w
    obtain ⟨hf, y, m1, hG, hK⟩ := h
    unfold G_X12_areSigns at hG
    split at hG
    · next p1 p2 =>
      obtain ⟨q, hq, he⟩ := fn_mu hG
      obtain ⟨rfl, rfl⟩ := Prod.mk.inj he
      exact t_X12_areSigns  hf  p1 p2 (m := (i0, l0)) hq hK
    · cases hG

/-! == X12_plate == -/
abbrev S_X12_plate : Type := (Int64 × Int32 × Int64 × Int32 × fm_)
noncomputable def st_X12_plate (s : S_X12_plate) : Option (S_X12_plate ⊕ (Int32 × fm_)) := match s with
  | (x1, x3, x4, x6, m) =>
    (if (gi_ m 106 57) ≤ x6 then
(gd_ (ix_ (gi_ m 106 57) 10)
(gd_ (ix_ (gi_ m 106 57) 10)
((some (Sum.inr ((((gi_ m 106 57) + 1) - 1), (si_ (si_ (sl_ m 138 (Int32.toNatClampNeg (gi_ m 106 57)) x4) 140 (Int32.toNatClampNeg (gi_ m 106 57)) x3) 106 57 ((gi_ m 106 57) + 1))))))))
else
(gd_ (ix_ x6 10)
(if (lg_cmp (gl_ m 138 (Int32.toNatClampNeg x6)) x4) = 0 then
((some (Sum.inr ((-1), m))))
else
((some (Sum.inl ((x1, x3, x4, (x6 + 1), m))))))))
noncomputable def f_X12_plate_39 (x1 : Int64) (x3 : Int32) (x4 : Int64) (x6 : Int32) (m : fm_) : Option (Int32 × fm_) := am_lp (st_X12_plate) ((x1, x3, x4, x6, m))
theorem e_X12_plate_39 (x1 : Int64) (x3 : Int32) (x4 : Int64) (x6 : Int32) (m : fm_) : f_X12_plate_39 x1 x3 x4 x6 m =
(if (gi_ m 106 57) ≤ x6 then
(gd_ (ix_ (gi_ m 106 57) 10)
(gd_ (ix_ (gi_ m 106 57) 10)
((some ((((gi_ m 106 57) + 1) - 1), (si_ (si_ (sl_ m 138 (Int32.toNatClampNeg (gi_ m 106 57)) x4) 140 (Int32.toNatClampNeg (gi_ m 106 57)) x3) 106 57 ((gi_ m 106 57) + 1)))))))
else
(gd_ (ix_ x6 10)
(if (lg_cmp (gl_ m 138 (Int32.toNatClampNeg x6)) x4) = 0 then
((some ((-1), m)))
else
((f_X12_plate_39 x1 x3 x4 (x6 + 1) m))))) :=
  (am_lp_eq _ _).trans (fe_if (fe_gd (fe_gd (rfl))) (fe_gd (fe_if (rfl) (rfl))))
noncomputable def f_X12_plate (p1 : Int64) (p2 : Int32) (m : fm_) : Option (Int32 × fm_) :=
  (if (gi_ m 106 57) = 10 then
((some ((-1), m)))
else
(Option.bind (f_X12_areSigns p1 0 m) fun q3 =>
(if q3.1 = 0 then
((some ((-1), q3.2)))
else
(if p2 < 0 then
((some ((-1), q3.2)))
else
(if p2 ≤ 9 then
((f_X12_plate_39 p1 p2 (p1 &&& 281474976710655) 0 q3.2))
else
((some ((-1), q3.2))))))))
def sp_X12_plate : am_S := fn_sp [(225, fn_0, G_X12_areSigns)]
theorem sm_X12_plate : am_Smono (sp_X12_plate) := fn_sp_mono _
def P_X12_plate (n : Nat) (r : Nat → Nat → Option Nat) (s : S_X12_plate) (q : Int32 × fm_) : Prop := match s with
  | (x1, x3, x4, x6, m) => ∀ (Q : Option Value → am_W → Prop), Q (en_i q).1 (mk_ n r q.2) → am_T m_X12_plate sp_X12_plate n Q 39 [some (.ref 106), some (.long x1), none, some (.int x3), some (.long x4), none, some (.int x6)] [] (mk_ n r m)
set_option maxRecDepth 100000 in
theorem t_X12_plate_39 {n : Nat} {r : Nat → Nat → Option Nat} (hf : fn_F n r) {K : S_X12_plate → Option (Int32 × fm_)} {q : Int32 × fm_} (hK : ∀ s, K s = some q → P_X12_plate n r s q) (x1 : Int64) (x3 : Int32) (x4 : Int64) (x6 : Int32) (m : fm_)
  (h : am_k K (st_X12_plate ((x1, x3, x4, x6, m))) = some q) : P_X12_plate n r ((x1, x3, x4, x6, m)) q := fun Q hQ =>
  am_T.wp sm_X12_plate (K := am_T m_X12_plate sp_X12_plate n Q) (cuts := [39]) (fun _ _ _ _ h => h) 28
    (⟨fn_aF hf rfl rfl, fj_if h (fun c1 h2 => ⟨fn_aF hf rfl rfl, Or.inl ⟨_, hf.2 106 60 138 rfl, ⟨fn_aF hf rfl rfl, fj_gd h2 fun g4 h3 => ⟨10, fn_aF hf rfl rfl, ix_t g4, ⟨fn_aF hf rfl rfl, Or.inl ⟨_, hf.2 106 62 140 rfl, ⟨fn_aF hf rfl rfl, fj_gd h3 fun g6 h5 => ⟨10, fn_aF hf rfl rfl, ix_t g6, ⟨fn_aF hf rfl rfl, ⟨fn_aF hf rfl rfl, ⟨fn_aF hf rfl rfl, ⟨rfl, fj_rt h5 hQ⟩⟩⟩⟩⟩⟩⟩⟩⟩⟩⟩⟩) (fun c1 h2 => ⟨fn_aF hf rfl rfl, Or.inl ⟨_, hf.2 106 60 138 rfl, fj_gd h2 fun g8 h7 => ⟨10, fn_aF hf rfl rfl, ix_t g8, fj_in h7 (fun c9 h10 => hK _ h10 _ hQ) (fun c9 h10 => ⟨rfl, fj_rt h10 hQ⟩)⟩⟩⟩)⟩)
theorem l_X12_plate {n : Nat} {r : Nat → Nat → Option Nat} (hf : fn_F n r) (s : S_X12_plate) (q : Int32 × fm_) (h : am_lp (st_X12_plate) s = some q) : P_X12_plate n r s q :=
  am_lp_snd (P := P_X12_plate n r) (fun K hK s q h => match s, h with
    | (x1, x3, x4, x6, m), h => t_X12_plate_39 hf (fun s => hK s q) x1 x3 x4 x6 m h) s q h
set_option maxRecDepth 100000 in
theorem t_X12_plate {n : Nat} {r : Nat → Nat → Option Nat} (hf : fn_F n r) {q : Int32 × fm_} (p1 : Int64) (p2 : Int32) {m : fm_}
  (h : f_X12_plate p1 p2 m = some q) {Q : Option Value → am_W → Prop} (hQ : Q (en_i q).1 (mk_ n r q.2)) : am_T m_X12_plate sp_X12_plate n Q 0 [some (.ref 106), some (.long p1), none, some (.int p2), none, none, none] [] (mk_ n r m) :=
  am_T.wp sm_X12_plate (K := am_T m_X12_plate sp_X12_plate n Q) (cuts := [39]) (fun _ _ _ _ h => h) 21
    (⟨fn_aF hf rfl rfl, fh_if h (fun c1 h2 => ⟨rfl, fh_rt h2 hQ⟩) (fun c1 h2 => fh_bd h2 fun q3 e4 h5 => ⟨Nat.le_of_ble_eq_true rfl, trivial, ⟨trivial, some (.int q3.1), q3.2, gp_X12_areSigns (n := n) (r := r)  e4, fun _ => fh_if h5 (fun c6 h7 => ⟨rfl, fh_rt h7 hQ⟩) (fun c6 h7 => fh_if h7 (fun c8 h9 => ⟨rfl, fh_rt h9 hQ⟩) (fun c8 h9 => fh_if h9 (fun c10 h11 => l_X12_plate hf _ _ h11 _ hQ) (fun c10 h11 => ⟨rfl, fh_rt h11 hQ⟩)))⟩⟩)⟩)
noncomputable def G_X12_plate (n : Nat) (r : Nat → Nat → Option Nat) (as : List Value) (m : fm_) : Option (Option Value × fm_) := match as with
  | [.ref x0, .long p1, .int p2] => gd_ (Nat.beq x0 106) ((f_X12_plate p1 p2 m).map en_i)
  | _ => none
set_option maxRecDepth 100000 in
theorem gp_X12_plate {n : Nat} {r : Nat → Nat → Option Nat}  {p1 : Int64} {p2 : Int32} {m : fm_} {q : Int32 × fm_}  (e : f_X12_plate p1 p2 m = some q) : G_X12_plate n r [.ref 106, .long p1, .int p2] m = some (en_i q) := by
  show (gd_ (Nat.beq 106 106) ((f_X12_plate p1 p2 m).map en_i)) = _
  exact fn_gd rfl (fn_mp e)
set_option maxRecDepth 100000 in
theorem ok_X12_plate : am_mok 12 226 m_X12_plate = true := by decide +kernel
set_option maxRecDepth 100000 in
theorem c_X12_plate (l : Launch) {g : am_G} (hg : fx_ l g) : am_Met l g 2 226 (fn_s fn_F G_X12_plate) := by
  refine am_sound (own := 12) (M := m_X12_plate) (SP := sp_X12_plate) hg.1 (by decide +kernel) ok_X12_plate (by decide +kernel) ?_ (fun q hq hk => absurd hk (am_no61 (M := m_X12_plate) (by decide +kernel) q hq)) (fn_ext l _ rfl g 12) (Or.inl (by decide +kernel)) ?_ ?_
  · intro q hq hk
    have hm : q.2.2.2.1 ∈ am_cs m_X12_plate := am_cs_in hq hk
    rw [show am_cs m_X12_plate = [225] by decide +kernel] at hm
    have hm : q.2.2.2.1 ∈ [225] := (List.all_eq_true.mp (show ([225] : List Nat).all (fun a => decide (a ∈ ([225] : List Nat))) = true by decide +kernel) _ hm |> of_decide_eq_true)
    simp only [List.mem_cons, List.not_mem_nil, or_false] at hm
    rcases hm with hm
    · rw [hm]; exact ⟨1, by omega, c_X12_areSigns l hg⟩
  · intro as w K h
    obtain ⟨hf, y, m1, hG, hK⟩ := h
    unfold G_X12_plate at hG
    split at hG
    · exact Nat.le_of_ble_eq_true rfl
    · cases hG
  · intro as w K h
    obtain ⟨n, i0, l0, r⟩ := w
    obtain ⟨hf, y, m1, hG, hK⟩ := h
    unfold G_X12_plate at hG
    split at hG
    · next x0 p1 p2 =>
      obtain ⟨hx1, hG1⟩ := gd_u hG
      obtain rfl := Nat.eq_of_beq_eq_true hx1
      obtain ⟨q, hq, he⟩ := fn_mu hG1
      obtain ⟨rfl, rfl⟩ := Prod.mk.inj he
      exact t_X12_plate  hf  p1 p2 (m := (i0, l0)) hq hK
    · cases hG

/-! == X12_isPlate == -/
noncomputable def f_X12_isPlate (p1 : Int32) (m : fm_) : Option (Int32 × fm_) :=
  (if p1 < 0 then
((some (0, m)))
else
(if (gi_ m 106 57) ≤ p1 then
((some (0, m)))
else
((some (1, m)))))
def sp_X12_isPlate : am_S := fn_sp []
theorem sm_X12_isPlate : am_Smono (sp_X12_isPlate) := fn_sp_mono _
set_option maxRecDepth 100000 in
theorem t_X12_isPlate {n : Nat} {r : Nat → Nat → Option Nat} (hf : fn_F n r) {q : Int32 × fm_} (p1 : Int32) {m : fm_}
  (h : f_X12_isPlate p1 m = some q) {Q : Option Value → am_W → Prop} (hQ : Q (en_i q).1 (mk_ n r q.2)) : am_T m_X12_isPlate sp_X12_isPlate n Q 0 [some (.ref 106), some (.int p1)] [] (mk_ n r m) :=
  am_T.wp sm_X12_isPlate (K := am_T m_X12_isPlate sp_X12_isPlate n Q) (cuts := []) (fun _ _ _ _ h => h) 10
    (fh_if h (fun c1 h2 => ⟨rfl, Or.inl rfl, fh_rt h2 hQ⟩) (fun c1 h2 => ⟨fn_aF hf rfl rfl, fh_if h2 (fun c3 h4 => ⟨rfl, Or.inl rfl, fh_rt h4 hQ⟩) (fun c3 h4 => ⟨rfl, Or.inr rfl, fh_rt h4 hQ⟩)⟩))
noncomputable def G_X12_isPlate (n : Nat) (r : Nat → Nat → Option Nat) (as : List Value) (m : fm_) : Option (Option Value × fm_) := match as with
  | [.ref x0, .int p1] => gd_ (Nat.beq x0 106) ((f_X12_isPlate p1 m).map en_i)
  | _ => none
set_option maxRecDepth 100000 in
theorem gp_X12_isPlate {n : Nat} {r : Nat → Nat → Option Nat}  {p1 : Int32} {m : fm_} {q : Int32 × fm_}  (e : f_X12_isPlate p1 m = some q) : G_X12_isPlate n r [.ref 106, .int p1] m = some (en_i q) := by
  show (gd_ (Nat.beq 106 106) ((f_X12_isPlate p1 m).map en_i)) = _
  exact fn_gd rfl (fn_mp e)
set_option maxRecDepth 100000 in
theorem ok_X12_isPlate : am_mok 12 227 m_X12_isPlate = true := by decide +kernel
set_option maxRecDepth 100000 in
theorem c_X12_isPlate (l : Launch) {g : am_G} (hg : fx_ l g) : am_Met l g 0 227 (fn_s fn_F G_X12_isPlate) := by
  refine am_sound (own := 12) (M := m_X12_isPlate) (SP := sp_X12_isPlate) hg.1 (by decide +kernel) ok_X12_isPlate (by decide +kernel) ?_ (fun q hq hk => absurd hk (am_no61 (M := m_X12_isPlate) (by decide +kernel) q hq)) (fn_ext l _ rfl g 12) (Or.inl (by decide +kernel)) ?_ ?_
  · intro q hq hk
    have hm : q.2.2.2.1 ∈ am_cs m_X12_isPlate := am_cs_in hq hk
    rw [show am_cs m_X12_isPlate = [] by decide +kernel] at hm
    cases hm
  · intro as w K h
    obtain ⟨hf, y, m1, hG, hK⟩ := h
    unfold G_X12_isPlate at hG
    split at hG
    · exact Nat.le_of_ble_eq_true rfl
    · cases hG
  · intro as w K h
    obtain ⟨n, i0, l0, r⟩ := w
    obtain ⟨hf, y, m1, hG, hK⟩ := h
    unfold G_X12_isPlate at hG
    split at hG
    · next x0 p1 =>
      obtain ⟨hx1, hG1⟩ := gd_u hG
      obtain rfl := Nat.eq_of_beq_eq_true hx1
      obtain ⟨q, hq, he⟩ := fn_mu hG1
      obtain ⟨rfl, rfl⟩ := Prod.mk.inj he
      exact t_X12_isPlate  hf  p1 (m := (i0, l0)) hq hK
    · cases hG

