/-! == X12_enteredAt == -/
abbrev S_X12_enteredAt : Type := (Int32 × Int32 × Int32 × Int32 × Int32 × Int32 × fm_)
noncomputable def st_X12_enteredAt (s : S_X12_enteredAt) : Option (S_X12_enteredAt ⊕ (Int32 × fm_)) := match s with
  | (x1, x2, x3, x4, x5, x6, m) =>
    (if (gi_ m 106 77) ≤ x6 then
((some (Sum.inr (x5, m))))
else
(gd_ (ix_ x6 8)
(gd_ (ix_ (gi_ m 151 (Int32.toNatClampNeg x6)) 200)
(gd_ (ix_ x6 8)
(if (gi_ m 153 (Int32.toNatClampNeg x6)) = x1 then
(gd_ (ix_ x6 8)
(Option.bind (f_X12_pointOf (gi_ m 151 (Int32.toNatClampNeg x6)) m) fun q13 =>
(Option.bind (f_X12_isInZone q13.1 q13.2) fun q16 =>
(if q16.1 = 0 then
((some (Sum.inl ((x1, x2, x3, x4, x5, (x6 + 1), q16.2)))))
else
(gd_ (ix_ x4 7)
(if (gi_ m 144 (Int32.toNatClampNeg (gi_ m 151 (Int32.toNatClampNeg x6)))) < (gi_ q16.2 129 (Int32.toNatClampNeg x4)) then
((some (Sum.inl ((x1, x2, x3, x4, x5, (x6 + 1), q16.2)))))
else
(gd_ (ix_ x4 7)
(if (gi_ m 144 (Int32.toNatClampNeg (gi_ m 151 (Int32.toNatClampNeg x6)))) < (gi_ q16.2 130 (Int32.toNatClampNeg x4)) then
(if x5 < 0 then
((some (Sum.inl ((x1, x2, x3, x4, (gi_ m 144 (Int32.toNatClampNeg (gi_ m 151 (Int32.toNatClampNeg x6)))), (x6 + 1), q16.2)))))
else
(if x5 ≤ (gi_ m 144 (Int32.toNatClampNeg (gi_ m 151 (Int32.toNatClampNeg x6)))) then
((some (Sum.inl ((x1, x2, x3, x4, x5, (x6 + 1), q16.2)))))
else
((some (Sum.inl ((x1, x2, x3, x4, (gi_ m 144 (Int32.toNatClampNeg (gi_ m 151 (Int32.toNatClampNeg x6)))), (x6 + 1), q16.2)))))))
else
((some (Sum.inl ((x1, x2, x3, x4, x5, (x6 + 1), q16.2)))))))))))))
else
((some (Sum.inl ((x1, x2, x3, x4, x5, (x6 + 1), m))))))))))
noncomputable def f_X12_enteredAt_26 (x1 : Int32) (x2 : Int32) (x3 : Int32) (x4 : Int32) (x5 : Int32) (x6 : Int32) (m : fm_) : Option (Int32 × fm_) := am_lp (st_X12_enteredAt) ((x1, x2, x3, x4, x5, x6, m))
theorem e_X12_enteredAt_26 (x1 : Int32) (x2 : Int32) (x3 : Int32) (x4 : Int32) (x5 : Int32) (x6 : Int32) (m : fm_) : f_X12_enteredAt_26 x1 x2 x3 x4 x5 x6 m =
(if (gi_ m 106 77) ≤ x6 then
((some (x5, m)))
else
(gd_ (ix_ x6 8)
(gd_ (ix_ (gi_ m 151 (Int32.toNatClampNeg x6)) 200)
(gd_ (ix_ x6 8)
(if (gi_ m 153 (Int32.toNatClampNeg x6)) = x1 then
(gd_ (ix_ x6 8)
(Option.bind (f_X12_pointOf (gi_ m 151 (Int32.toNatClampNeg x6)) m) fun q13 =>
(Option.bind (f_X12_isInZone q13.1 q13.2) fun q16 =>
(if q16.1 = 0 then
((f_X12_enteredAt_26 x1 x2 x3 x4 x5 (x6 + 1) q16.2))
else
(gd_ (ix_ x4 7)
(if (gi_ m 144 (Int32.toNatClampNeg (gi_ m 151 (Int32.toNatClampNeg x6)))) < (gi_ q16.2 129 (Int32.toNatClampNeg x4)) then
((f_X12_enteredAt_26 x1 x2 x3 x4 x5 (x6 + 1) q16.2))
else
(gd_ (ix_ x4 7)
(if (gi_ m 144 (Int32.toNatClampNeg (gi_ m 151 (Int32.toNatClampNeg x6)))) < (gi_ q16.2 130 (Int32.toNatClampNeg x4)) then
(if x5 < 0 then
((f_X12_enteredAt_26 x1 x2 x3 x4 (gi_ m 144 (Int32.toNatClampNeg (gi_ m 151 (Int32.toNatClampNeg x6)))) (x6 + 1) q16.2))
else
(if x5 ≤ (gi_ m 144 (Int32.toNatClampNeg (gi_ m 151 (Int32.toNatClampNeg x6)))) then
((f_X12_enteredAt_26 x1 x2 x3 x4 x5 (x6 + 1) q16.2))
else
((f_X12_enteredAt_26 x1 x2 x3 x4 (gi_ m 144 (Int32.toNatClampNeg (gi_ m 151 (Int32.toNatClampNeg x6)))) (x6 + 1) q16.2))))
else
((f_X12_enteredAt_26 x1 x2 x3 x4 x5 (x6 + 1) q16.2))))))))))
else
((f_X12_enteredAt_26 x1 x2 x3 x4 x5 (x6 + 1) m))))))) :=
  (am_lp_eq _ _).trans (fe_if (rfl) (fe_gd (fe_gd (fe_gd (fe_if (fe_gd (fe_bd fun q13 => (fe_bd fun q16 => (fe_if (rfl) (fe_gd (fe_if (rfl) (fe_gd (fe_if (fe_if (rfl) (fe_if (rfl) (rfl))) (rfl))))))))) (rfl))))))
noncomputable def f_X12_enteredAt (p1 : Int32) (p2 : Int32) (p3 : Int32) (m : fm_) : Option (Int32 × fm_) :=
  (Option.bind (f_X12_inForce p2 m) fun q1 =>
(if 0 ≤ q1.1 then
(Option.bind (f_X12_know p2 p3 q1.2) fun q6 =>
((f_X12_enteredAt_26 p1 p2 p3 q1.1 (-1) 0 q6.2)))
else
((some ((-1), q1.2)))))
def sp_X12_enteredAt : am_S := fn_sp [(222, fn_F, G_X12_inForce), (243, fn_F, G_X12_know), (240, fn_F, G_X12_pointOf), (204, fn_F, G_X12_isInZone)]
theorem sm_X12_enteredAt : am_Smono (sp_X12_enteredAt) := fn_sp_mono _
def P_X12_enteredAt (n : Nat) (r : Nat → Nat → Option Nat) (s : S_X12_enteredAt) (q : Int32 × fm_) : Prop := match s with
  | (x1, x2, x3, x4, x5, x6, m) => ∀ (Q : Option Value → am_W → Prop) (y7 : Option Value), Q (en_i q).1 (mk_ n r q.2) → am_T m_X12_enteredAt sp_X12_enteredAt n Q 26 [some (.ref 106), some (.int x1), some (.int x2), some (.int x3), some (.int x4), some (.int x5), some (.int x6), y7] [] (mk_ n r m)
set_option maxRecDepth 100000 in
theorem t_X12_enteredAt_26 {n : Nat} {r : Nat → Nat → Option Nat} (hf : fn_F n r) {K : S_X12_enteredAt → Option (Int32 × fm_)} {q : Int32 × fm_} (hK : ∀ s, K s = some q → P_X12_enteredAt n r s q) (x1 : Int32) (x2 : Int32) (x3 : Int32) (x4 : Int32) (x5 : Int32) (x6 : Int32) (m : fm_)
  (h : am_k K (st_X12_enteredAt ((x1, x2, x3, x4, x5, x6, m))) = some q) : P_X12_enteredAt n r ((x1, x2, x3, x4, x5, x6, m)) q := fun Q y7 hQ =>
  am_T.wp sm_X12_enteredAt (K := am_T m_X12_enteredAt sp_X12_enteredAt n Q) (cuts := [26]) (fun _ _ _ _ h => h) 51
    (⟨fn_aF hf rfl rfl, fj_if h (fun c1 h2 => ⟨rfl, fj_rt h2 hQ⟩) (fun c1 h2 => ⟨fn_aF hf rfl rfl, Or.inl ⟨_, hf.2 106 66 144 rfl, ⟨fn_aF hf rfl rfl, Or.inl ⟨_, hf.2 106 73 151 rfl, fj_gd h2 fun g4 h3 => ⟨8, fn_aF hf rfl rfl, ix_t g4, fj_gd h3 fun g6 h5 => ⟨200, fn_aF hf rfl rfl, ix_t g6, ⟨fn_aF hf rfl rfl, Or.inl ⟨_, hf.2 106 75 153 rfl, fj_gd h5 fun g8 h7 => ⟨8, fn_aF hf rfl rfl, ix_t g8, fj_in h7 (fun c9 h10 => hK _ h10 _ _ hQ) (fun c9 h10 => ⟨fn_aF hf rfl rfl, Or.inl ⟨_, hf.2 106 73 151 rfl, fj_gd h10 fun g12 h11 => ⟨8, fn_aF hf rfl rfl, ix_t g12, fj_bd h11 fun q13 e14 h15 => ⟨Nat.le_of_ble_eq_true rfl, fn_aF hf rfl rfl, ⟨hf, some (.int q13.1), q13.2, gp_X12_pointOf (n := n) (r := r)  e14, fun _ => fj_bd h15 fun q16 e17 h18 => ⟨Nat.le_of_ble_eq_true rfl, fn_aF hf rfl rfl, ⟨hf, some (.int q16.1), q16.2, gp_X12_isInZone (n := n) (r := r)  e17, fun _ => fj_if h18 (fun c19 h20 => hK _ h20 _ _ hQ) (fun c19 h20 => ⟨fn_aF hf rfl rfl, Or.inl ⟨_, hf.2 106 41 129 rfl, fj_gd h20 fun g22 h21 => ⟨7, fn_aF hf rfl rfl, ix_t g22, fj_if h21 (fun c23 h24 => hK _ h24 _ _ hQ) (fun c23 h24 => ⟨fn_aF hf rfl rfl, Or.inl ⟨_, hf.2 106 42 130 rfl, fj_gd h24 fun g26 h25 => ⟨7, fn_aF hf rfl rfl, ix_t g26, fj_if h25 (fun c27 h28 => fj_if h28 (fun c29 h30 => hK _ h30 _ _ hQ) (fun c29 h30 => fj_if h30 (fun c31 h32 => hK _ h32 _ _ hQ) (fun c31 h32 => hK _ h32 _ _ hQ))) (fun c27 h28 => hK _ h28 _ _ hQ)⟩⟩⟩)⟩⟩⟩)⟩⟩⟩⟩⟩⟩⟩)⟩⟩⟩⟩⟩⟩⟩⟩⟩)⟩)
theorem l_X12_enteredAt {n : Nat} {r : Nat → Nat → Option Nat} (hf : fn_F n r) (s : S_X12_enteredAt) (q : Int32 × fm_) (h : am_lp (st_X12_enteredAt) s = some q) : P_X12_enteredAt n r s q :=
  am_lp_snd (P := P_X12_enteredAt n r) (fun K hK s q h => match s, h with
    | (x1, x2, x3, x4, x5, x6, m), h => t_X12_enteredAt_26 hf (fun s => hK s q) x1 x2 x3 x4 x5 x6 m h) s q h
set_option maxRecDepth 100000 in
theorem t_X12_enteredAt {n : Nat} {r : Nat → Nat → Option Nat} (hf : fn_F n r) {q : Int32 × fm_} (p1 : Int32) (p2 : Int32) (p3 : Int32) {m : fm_}
  (h : f_X12_enteredAt p1 p2 p3 m = some q) {Q : Option Value → am_W → Prop} (hQ : Q (en_i q).1 (mk_ n r q.2)) : am_T m_X12_enteredAt sp_X12_enteredAt n Q 0 [some (.ref 106), some (.int p1), some (.int p2), some (.int p3), none, none, none, none] [] (mk_ n r m) :=
  am_T.wp sm_X12_enteredAt (K := am_T m_X12_enteredAt sp_X12_enteredAt n Q) (cuts := [26]) (fun _ _ _ _ h => h) 16
    (fh_bd h fun q1 e2 h3 => ⟨Nat.le_of_ble_eq_true rfl, fn_aF hf rfl rfl, ⟨hf, some (.int q1.1), q1.2, gp_X12_inForce (n := n) (r := r)  e2, fun _ => fh_if h3 (fun c4 h5 => fh_bd h5 fun q6 e7 h8 => ⟨Nat.le_of_ble_eq_true rfl, fn_aF hf rfl rfl, ⟨hf, none, q6.2, gp_X12_know (n := n) (r := r)  e7, fun _ => ⟨rfl, l_X12_enteredAt hf _ _ h8 _ _ hQ⟩⟩⟩) (fun c4 h5 => ⟨rfl, fh_rt h5 hQ⟩)⟩⟩)
noncomputable def G_X12_enteredAt (n : Nat) (r : Nat → Nat → Option Nat) (as : List Value) (m : fm_) : Option (Option Value × fm_) := match as with
  | [.ref x0, .int p1, .int p2, .int p3] => gd_ (Nat.beq x0 106) ((f_X12_enteredAt p1 p2 p3 m).map en_i)
  | _ => none
set_option maxRecDepth 100000 in
theorem gp_X12_enteredAt {n : Nat} {r : Nat → Nat → Option Nat}  {p1 : Int32} {p2 : Int32} {p3 : Int32} {m : fm_} {q : Int32 × fm_}  (e : f_X12_enteredAt p1 p2 p3 m = some q) : G_X12_enteredAt n r [.ref 106, .int p1, .int p2, .int p3] m = some (en_i q) := by
  show (gd_ (Nat.beq 106 106) ((f_X12_enteredAt p1 p2 p3 m).map en_i)) = _
  exact fn_gd rfl (fn_mp e)
set_option maxRecDepth 100000 in
theorem ok_X12_enteredAt : am_mok 12 254 m_X12_enteredAt = true := by decide +kernel
set_option maxRecDepth 100000 in
theorem c_X12_enteredAt (l : Launch) {g : am_G} (hg : fx_ l g) : am_Met l g 4 254 (fn_s fn_F G_X12_enteredAt) := by
  refine am_sound (own := 12) (M := m_X12_enteredAt) (SP := sp_X12_enteredAt) hg.1 (by decide +kernel) ok_X12_enteredAt (by decide +kernel) ?_ (fun q hq hk => absurd hk (am_no61 (M := m_X12_enteredAt) (by decide +kernel) q hq)) (fn_ext l _ rfl g 12) (Or.inl (by decide +kernel)) ?_ ?_
  · intro q hq hk
    have hm : q.2.2.2.1 ∈ am_cs m_X12_enteredAt := am_cs_in hq hk
    rw [show am_cs m_X12_enteredAt = [222, 243, 240, 204] by decide +kernel] at hm
    have hm : q.2.2.2.1 ∈ [204, 222, 240, 243] := (List.all_eq_true.mp (show ([222, 243, 240, 204] : List Nat).all (fun a => decide (a ∈ ([204, 222, 240, 243] : List Nat))) = true by decide +kernel) _ hm |> of_decide_eq_true)
    simp only [List.mem_cons, List.not_mem_nil, or_false] at hm
    rcases hm with hm | hm | hm | hm
    · rw [hm]; exact ⟨0, by omega, c_X12_isInZone l hg⟩
    · rw [hm]; exact ⟨0, by omega, c_X12_inForce l hg⟩
    · rw [hm]; exact ⟨0, by omega, c_X12_pointOf l hg⟩
    · rw [hm]; exact ⟨3, by omega, c_X12_know l hg⟩
  · intro as w K h
    obtain ⟨hf, y, m1, hG, hK⟩ := h
    unfold G_X12_enteredAt at hG
    split at hG
    · exact Nat.le_of_ble_eq_true rfl
    · cases hG
  · intro as w K h
    obtain ⟨n, i0, l0, r⟩ := w
    obtain ⟨hf, y, m1, hG, hK⟩ := h
    unfold G_X12_enteredAt at hG
    split at hG
    · next x0 p1 p2 p3 =>
      obtain ⟨hx1, hG1⟩ := gd_u hG
      obtain rfl := Nat.eq_of_beq_eq_true hx1
      obtain ⟨q, hq, he⟩ := fn_mu hG1
      obtain ⟨rfl, rfl⟩ := Prod.mk.inj he
      exact t_X12_enteredAt  hf  p1 p2 p3 (m := (i0, l0)) hq hK
    · cases hG

/-! == X12_entriesOf == -/
abbrev S_X12_entriesOf : Type := (Int32 × Int32 × Int32 × Int32 × Int32 × fm_)
noncomputable def st_X12_entriesOf (s : S_X12_entriesOf) : Option (S_X12_entriesOf ⊕ (Int32 × fm_)) := match s with
  | (x1, x2, x3, x4, x5, m) =>
    (if x2 ≤ x5 then
((some (Sum.inr (x4, m))))
else
(Option.bind (f_X12_enteredAt x1 x5 x3 m) fun q3 =>
(if q3.1 < 0 then
((some (Sum.inl ((x1, x2, x3, (x4 + 0), (x5 + 1), q3.2)))))
else
((some (Sum.inl ((x1, x2, x3, (x4 + 1), (x5 + 1), q3.2))))))))
noncomputable def f_X12_entriesOf_6 (x1 : Int32) (x2 : Int32) (x3 : Int32) (x4 : Int32) (x5 : Int32) (m : fm_) : Option (Int32 × fm_) := am_lp (st_X12_entriesOf) ((x1, x2, x3, x4, x5, m))
theorem e_X12_entriesOf_6 (x1 : Int32) (x2 : Int32) (x3 : Int32) (x4 : Int32) (x5 : Int32) (m : fm_) : f_X12_entriesOf_6 x1 x2 x3 x4 x5 m =
(if x2 ≤ x5 then
((some (x4, m)))
else
(Option.bind (f_X12_enteredAt x1 x5 x3 m) fun q3 =>
(if q3.1 < 0 then
((f_X12_entriesOf_6 x1 x2 x3 (x4 + 0) (x5 + 1) q3.2))
else
((f_X12_entriesOf_6 x1 x2 x3 (x4 + 1) (x5 + 1) q3.2))))) :=
  (am_lp_eq _ _).trans (fe_if (rfl) (fe_bd fun q3 => (fe_if (rfl) (rfl))))
noncomputable def f_X12_entriesOf (p1 : Int32) (p2 : Int32) (p3 : Int32) (m : fm_) : Option (Int32 × fm_) :=
  ((f_X12_entriesOf_6 p1 p2 p3 0 0 m))
def sp_X12_entriesOf : am_S := fn_sp [(254, fn_F, G_X12_enteredAt)]
theorem sm_X12_entriesOf : am_Smono (sp_X12_entriesOf) := fn_sp_mono _
def P_X12_entriesOf (n : Nat) (r : Nat → Nat → Option Nat) (s : S_X12_entriesOf) (q : Int32 × fm_) : Prop := match s with
  | (x1, x2, x3, x4, x5, m) => ∀ (Q : Option Value → am_W → Prop), Q (en_i q).1 (mk_ n r q.2) → am_T m_X12_entriesOf sp_X12_entriesOf n Q 6 [some (.ref 106), some (.int x1), some (.int x2), some (.int x3), some (.int x4), some (.int x5)] [] (mk_ n r m)
set_option maxRecDepth 100000 in
theorem t_X12_entriesOf_6 {n : Nat} {r : Nat → Nat → Option Nat} (hf : fn_F n r) {K : S_X12_entriesOf → Option (Int32 × fm_)} {q : Int32 × fm_} (hK : ∀ s, K s = some q → P_X12_entriesOf n r s q) (x1 : Int32) (x2 : Int32) (x3 : Int32) (x4 : Int32) (x5 : Int32) (m : fm_)
  (h : am_k K (st_X12_entriesOf ((x1, x2, x3, x4, x5, m))) = some q) : P_X12_entriesOf n r ((x1, x2, x3, x4, x5, m)) q := fun Q hQ =>
  am_T.wp sm_X12_entriesOf (K := am_T m_X12_entriesOf sp_X12_entriesOf n Q) (cuts := [6]) (fun _ _ _ _ h => h) 18
    (fj_if h (fun c1 h2 => ⟨rfl, fj_rt h2 hQ⟩) (fun c1 h2 => fj_bd h2 fun q3 e4 h5 => ⟨Nat.le_of_ble_eq_true rfl, fn_aF hf rfl rfl, ⟨hf, some (.int q3.1), q3.2, gp_X12_enteredAt (n := n) (r := r)  e4, fun _ => fj_if h5 (fun c6 h7 => hK _ h7 _ hQ) (fun c6 h7 => hK _ h7 _ hQ)⟩⟩))
theorem l_X12_entriesOf {n : Nat} {r : Nat → Nat → Option Nat} (hf : fn_F n r) (s : S_X12_entriesOf) (q : Int32 × fm_) (h : am_lp (st_X12_entriesOf) s = some q) : P_X12_entriesOf n r s q :=
  am_lp_snd (P := P_X12_entriesOf n r) (fun K hK s q h => match s, h with
    | (x1, x2, x3, x4, x5, m), h => t_X12_entriesOf_6 hf (fun s => hK s q) x1 x2 x3 x4 x5 m h) s q h
set_option maxRecDepth 100000 in
theorem t_X12_entriesOf {n : Nat} {r : Nat → Nat → Option Nat} (hf : fn_F n r) {q : Int32 × fm_} (p1 : Int32) (p2 : Int32) (p3 : Int32) {m : fm_}
  (h : f_X12_entriesOf p1 p2 p3 m = some q) {Q : Option Value → am_W → Prop} (hQ : Q (en_i q).1 (mk_ n r q.2)) : am_T m_X12_entriesOf sp_X12_entriesOf n Q 0 [some (.ref 106), some (.int p1), some (.int p2), some (.int p3), none, none] [] (mk_ n r m) :=
  am_T.wp sm_X12_entriesOf (K := am_T m_X12_entriesOf sp_X12_entriesOf n Q) (cuts := [6]) (fun _ _ _ _ h => h) 6
    (l_X12_entriesOf hf _ _ h _ hQ)
noncomputable def G_X12_entriesOf (n : Nat) (r : Nat → Nat → Option Nat) (as : List Value) (m : fm_) : Option (Option Value × fm_) := match as with
  | [.ref x0, .int p1, .int p2, .int p3] => gd_ (Nat.beq x0 106) ((f_X12_entriesOf p1 p2 p3 m).map en_i)
  | _ => none
set_option maxRecDepth 100000 in
theorem gp_X12_entriesOf {n : Nat} {r : Nat → Nat → Option Nat}  {p1 : Int32} {p2 : Int32} {p3 : Int32} {m : fm_} {q : Int32 × fm_}  (e : f_X12_entriesOf p1 p2 p3 m = some q) : G_X12_entriesOf n r [.ref 106, .int p1, .int p2, .int p3] m = some (en_i q) := by
  show (gd_ (Nat.beq 106 106) ((f_X12_entriesOf p1 p2 p3 m).map en_i)) = _
  exact fn_gd rfl (fn_mp e)
set_option maxRecDepth 100000 in
theorem ok_X12_entriesOf : am_mok 12 255 m_X12_entriesOf = true := by decide +kernel
set_option maxRecDepth 100000 in
theorem c_X12_entriesOf (l : Launch) {g : am_G} (hg : fx_ l g) : am_Met l g 5 255 (fn_s fn_F G_X12_entriesOf) := by
  refine am_sound (own := 12) (M := m_X12_entriesOf) (SP := sp_X12_entriesOf) hg.1 (by decide +kernel) ok_X12_entriesOf (by decide +kernel) ?_ (fun q hq hk => absurd hk (am_no61 (M := m_X12_entriesOf) (by decide +kernel) q hq)) (fn_ext l _ rfl g 12) (Or.inl (by decide +kernel)) ?_ ?_
  · intro q hq hk
    have hm : q.2.2.2.1 ∈ am_cs m_X12_entriesOf := am_cs_in hq hk
    rw [show am_cs m_X12_entriesOf = [254] by decide +kernel] at hm
    have hm : q.2.2.2.1 ∈ [254] := (List.all_eq_true.mp (show ([254] : List Nat).all (fun a => decide (a ∈ ([254] : List Nat))) = true by decide +kernel) _ hm |> of_decide_eq_true)
    simp only [List.mem_cons, List.not_mem_nil, or_false] at hm
    rcases hm with hm
    · rw [hm]; exact ⟨4, by omega, c_X12_enteredAt l hg⟩
  · intro as w K h
    obtain ⟨hf, y, m1, hG, hK⟩ := h
    unfold G_X12_entriesOf at hG
    split at hG
    · exact Nat.le_of_ble_eq_true rfl
    · cases hG
  · intro as w K h
    obtain ⟨n, i0, l0, r⟩ := w
    obtain ⟨hf, y, m1, hG, hK⟩ := h
    unfold G_X12_entriesOf at hG
    split at hG
    · next x0 p1 p2 p3 =>
      obtain ⟨hx1, hG1⟩ := gd_u hG
      obtain rfl := Nat.eq_of_beq_eq_true hx1
      obtain ⟨q, hq, he⟩ := fn_mu hG1
      obtain ⟨rfl, rfl⟩ := Prod.mk.inj he
      exact t_X12_entriesOf  hf  p1 p2 p3 (m := (i0, l0)) hq hK
    · cases hG

/-! == X12_entries == -/
noncomputable def f_X12_entries (p1 : Int32) (p2 : Int32) (p3 : Int32) (m : fm_) : Option (Int32 × fm_) :=
  (Option.bind (f_X12_isPlate p1 m) fun q1 =>
(if q1.1 = 0 then
((some ((-1), q1.2)))
else
(Option.bind (f_X12_isDay p2 q1.2) fun q6 =>
(if q6.1 = 0 then
((some ((-1), q6.2)))
else
(Option.bind (f_X12_entriesOf p1 p2 p3 q6.2) fun q11 =>
((some (q11.1, q11.2))))))))
def sp_X12_entries : am_S := fn_sp [(227, fn_F, G_X12_isPlate), (219, fn_0, G_X12_isDay), (255, fn_F, G_X12_entriesOf)]
theorem sm_X12_entries : am_Smono (sp_X12_entries) := fn_sp_mono _
set_option maxRecDepth 100000 in
theorem t_X12_entries {n : Nat} {r : Nat → Nat → Option Nat} (hf : fn_F n r) {q : Int32 × fm_} (p1 : Int32) (p2 : Int32) (p3 : Int32) {m : fm_}
  (h : f_X12_entries p1 p2 p3 m = some q) {Q : Option Value → am_W → Prop} (hQ : Q (en_i q).1 (mk_ n r q.2)) : am_T m_X12_entries sp_X12_entries n Q 0 [some (.ref 106), some (.int p1), some (.int p2), some (.int p3)] [] (mk_ n r m) :=
  am_T.wp sm_X12_entries (K := am_T m_X12_entries sp_X12_entries n Q) (cuts := []) (fun _ _ _ _ h => h) 15
    (fh_bd h fun q1 e2 h3 => ⟨Nat.le_of_ble_eq_true rfl, fn_aF hf rfl rfl, ⟨hf, some (.int q1.1), q1.2, gp_X12_isPlate (n := n) (r := r)  e2, fun _ => fh_if h3 (fun c4 h5 => ⟨rfl, fh_rt h5 hQ⟩) (fun c4 h5 => fh_bd h5 fun q6 e7 h8 => ⟨Nat.le_of_ble_eq_true rfl, trivial, ⟨trivial, some (.int q6.1), q6.2, gp_X12_isDay (n := n) (r := r)  e7, fun _ => fh_if h8 (fun c9 h10 => ⟨rfl, fh_rt h10 hQ⟩) (fun c9 h10 => fh_bd h10 fun q11 e12 h13 => ⟨Nat.le_of_ble_eq_true rfl, fn_aF hf rfl rfl, ⟨hf, some (.int q11.1), q11.2, gp_X12_entriesOf (n := n) (r := r)  e12, fun _ => ⟨rfl, fh_rt h13 hQ⟩⟩⟩)⟩⟩)⟩⟩)
noncomputable def G_X12_entries (n : Nat) (r : Nat → Nat → Option Nat) (as : List Value) (m : fm_) : Option (Option Value × fm_) := match as with
  | [.ref x0, .int p1, .int p2, .int p3] => gd_ (Nat.beq x0 106) ((f_X12_entries p1 p2 p3 m).map en_i)
  | _ => none
set_option maxRecDepth 100000 in
theorem gp_X12_entries {n : Nat} {r : Nat → Nat → Option Nat}  {p1 : Int32} {p2 : Int32} {p3 : Int32} {m : fm_} {q : Int32 × fm_}  (e : f_X12_entries p1 p2 p3 m = some q) : G_X12_entries n r [.ref 106, .int p1, .int p2, .int p3] m = some (en_i q) := by
  show (gd_ (Nat.beq 106 106) ((f_X12_entries p1 p2 p3 m).map en_i)) = _
  exact fn_gd rfl (fn_mp e)
set_option maxRecDepth 100000 in
theorem ok_X12_entries : am_mok 12 256 m_X12_entries = true := by decide +kernel
set_option maxRecDepth 100000 in
theorem c_X12_entries (l : Launch) {g : am_G} (hg : fx_ l g) : am_Met l g 6 256 (fn_s fn_F G_X12_entries) := by
  refine am_sound (own := 12) (M := m_X12_entries) (SP := sp_X12_entries) hg.1 (by decide +kernel) ok_X12_entries (by decide +kernel) ?_ (fun q hq hk => absurd hk (am_no61 (M := m_X12_entries) (by decide +kernel) q hq)) (fn_ext l _ rfl g 12) (Or.inl (by decide +kernel)) ?_ ?_
  · intro q hq hk
    have hm : q.2.2.2.1 ∈ am_cs m_X12_entries := am_cs_in hq hk
    rw [show am_cs m_X12_entries = [227, 219, 255] by decide +kernel] at hm
    have hm : q.2.2.2.1 ∈ [219, 227, 255] := (List.all_eq_true.mp (show ([227, 219, 255] : List Nat).all (fun a => decide (a ∈ ([219, 227, 255] : List Nat))) = true by decide +kernel) _ hm |> of_decide_eq_true)
    simp only [List.mem_cons, List.not_mem_nil, or_false] at hm
    rcases hm with hm | hm | hm
    · rw [hm]; exact ⟨0, by omega, c_X12_isDay l hg⟩
    · rw [hm]; exact ⟨0, by omega, c_X12_isPlate l hg⟩
    · rw [hm]; exact ⟨5, by omega, c_X12_entriesOf l hg⟩
  · intro as w K h
    obtain ⟨hf, y, m1, hG, hK⟩ := h
    unfold G_X12_entries at hG
    split at hG
    · exact Nat.le_of_ble_eq_true rfl
    · cases hG
  · intro as w K h
    obtain ⟨n, i0, l0, r⟩ := w
    obtain ⟨hf, y, m1, hG, hK⟩ := h
    unfold G_X12_entries at hG
    split at hG
    · next x0 p1 p2 p3 =>
      obtain ⟨hx1, hG1⟩ := gd_u hG
      obtain rfl := Nat.eq_of_beq_eq_true hx1
      obtain ⟨q, hq, he⟩ := fn_mu hG1
      obtain ⟨rfl, rfl⟩ := Prod.mk.inj he
      exact t_X12_entries  hf  p1 p2 p3 (m := (i0, l0)) hq hK
    · cases hG

/-! == X12_hasAppeal == -/
abbrev S_X12_hasAppeal : Type := (Int32 × Int32 × Int32 × Int32 × Int32 × fm_)
noncomputable def st_X12_hasAppeal (s : S_X12_hasAppeal) : Option (S_X12_hasAppeal ⊕ (Int32 × fm_)) := match s with
  | (x1, x2, x3, x4, x5, m) =>
    (if (gi_ m 106 58) ≤ x5 then
(gd_ (bl_ x4)
((some (Sum.inr (x4, m)))))
else
(if x4 = 0 then
(gd_ (ix_ x5 200)
(if (gi_ m 141 (Int32.toNatClampNeg x5)) = 2 then
(gd_ (ix_ x5 200)
(if (gi_ m 142 (Int32.toNatClampNeg x5)) = x1 then
(gd_ (ix_ x5 200)
(if (gi_ m 143 (Int32.toNatClampNeg x5)) = x2 then
(Option.bind (f_X12_counts x5 x3 m) fun q19 =>
(if q19.1 = 0 then
((some (Sum.inl ((x1, x2, x3, 0, (x5 + 1), q19.2)))))
else
((some (Sum.inl ((x1, x2, x3, 1, (x5 + 1), q19.2)))))))
else
((some (Sum.inl ((x1, x2, x3, 0, (x5 + 1), m)))))))
else
((some (Sum.inl ((x1, x2, x3, 0, (x5 + 1), m)))))))
else
((some (Sum.inl ((x1, x2, x3, 0, (x5 + 1), m)))))))
else
((some (Sum.inl ((x1, x2, x3, 1, (x5 + 1), m)))))))
noncomputable def f_X12_hasAppeal_6 (x1 : Int32) (x2 : Int32) (x3 : Int32) (x4 : Int32) (x5 : Int32) (m : fm_) : Option (Int32 × fm_) := am_lp (st_X12_hasAppeal) ((x1, x2, x3, x4, x5, m))
theorem e_X12_hasAppeal_6 (x1 : Int32) (x2 : Int32) (x3 : Int32) (x4 : Int32) (x5 : Int32) (m : fm_) : f_X12_hasAppeal_6 x1 x2 x3 x4 x5 m =
(if (gi_ m 106 58) ≤ x5 then
(gd_ (bl_ x4)
((some (x4, m))))
else
(if x4 = 0 then
(gd_ (ix_ x5 200)
(if (gi_ m 141 (Int32.toNatClampNeg x5)) = 2 then
(gd_ (ix_ x5 200)
(if (gi_ m 142 (Int32.toNatClampNeg x5)) = x1 then
(gd_ (ix_ x5 200)
(if (gi_ m 143 (Int32.toNatClampNeg x5)) = x2 then
(Option.bind (f_X12_counts x5 x3 m) fun q19 =>
(if q19.1 = 0 then
((f_X12_hasAppeal_6 x1 x2 x3 0 (x5 + 1) q19.2))
else
((f_X12_hasAppeal_6 x1 x2 x3 1 (x5 + 1) q19.2))))
else
((f_X12_hasAppeal_6 x1 x2 x3 0 (x5 + 1) m))))
else
((f_X12_hasAppeal_6 x1 x2 x3 0 (x5 + 1) m))))
else
((f_X12_hasAppeal_6 x1 x2 x3 0 (x5 + 1) m))))
else
((f_X12_hasAppeal_6 x1 x2 x3 1 (x5 + 1) m)))) :=
  (am_lp_eq _ _).trans (fe_if (fe_gd rfl) (fe_if (fe_gd (fe_if (fe_gd (fe_if (fe_gd (fe_if (fe_bd fun q19 => (fe_if (rfl) (rfl))) (rfl))) (rfl))) (rfl))) (rfl)))
noncomputable def f_X12_hasAppeal (p1 : Int32) (p2 : Int32) (p3 : Int32) (m : fm_) : Option (Int32 × fm_) :=
  ((f_X12_hasAppeal_6 p1 p2 p3 0 0 m))
def sp_X12_hasAppeal : am_S := fn_sp [(235, fn_F, G_X12_counts)]
theorem sm_X12_hasAppeal : am_Smono (sp_X12_hasAppeal) := fn_sp_mono _
def P_X12_hasAppeal (n : Nat) (r : Nat → Nat → Option Nat) (s : S_X12_hasAppeal) (q : Int32 × fm_) : Prop := match s with
  | (x1, x2, x3, x4, x5, m) => ∀ (Q : Option Value → am_W → Prop), Q (en_i q).1 (mk_ n r q.2) → am_T m_X12_hasAppeal sp_X12_hasAppeal n Q 6 [some (.ref 106), some (.int x1), some (.int x2), some (.int x3), some (.int x4), some (.int x5)] [] (mk_ n r m)
set_option maxRecDepth 100000 in
theorem t_X12_hasAppeal_6 {n : Nat} {r : Nat → Nat → Option Nat} (hf : fn_F n r) {K : S_X12_hasAppeal → Option (Int32 × fm_)} {q : Int32 × fm_} (hK : ∀ s, K s = some q → P_X12_hasAppeal n r s q) (x1 : Int32) (x2 : Int32) (x3 : Int32) (x4 : Int32) (x5 : Int32) (m : fm_)
  (h : am_k K (st_X12_hasAppeal ((x1, x2, x3, x4, x5, m))) = some q) : P_X12_hasAppeal n r ((x1, x2, x3, x4, x5, m)) q := fun Q hQ =>
  am_T.wp sm_X12_hasAppeal (K := am_T m_X12_hasAppeal sp_X12_hasAppeal n Q) (cuts := [6]) (fun _ _ _ _ h => h) 36
    (⟨fn_aF hf rfl rfl, fj_if h (fun c1 h2 => fj_gd h2 fun g4 h3 => ⟨rfl, bl_t g4, fj_rt h3 hQ⟩) (fun c1 h2 => fj_in h2 (fun c5 h6 => hK _ h6 _ hQ) (fun c5 h6 => ⟨fn_aF hf rfl rfl, Or.inl ⟨_, hf.2 106 63 141 rfl, fj_gd h6 fun g8 h7 => ⟨200, fn_aF hf rfl rfl, ix_t g8, fj_in h7 (fun c9 h10 => hK _ h10 _ hQ) (fun c9 h10 => ⟨fn_aF hf rfl rfl, Or.inl ⟨_, hf.2 106 64 142 rfl, fj_gd h10 fun g12 h11 => ⟨200, fn_aF hf rfl rfl, ix_t g12, fj_in h11 (fun c13 h14 => hK _ h14 _ hQ) (fun c13 h14 => ⟨fn_aF hf rfl rfl, Or.inl ⟨_, hf.2 106 65 143 rfl, fj_gd h14 fun g16 h15 => ⟨200, fn_aF hf rfl rfl, ix_t g16, fj_in h15 (fun c17 h18 => hK _ h18 _ hQ) (fun c17 h18 => fj_bd h18 fun q19 e20 h21 => ⟨Nat.le_of_ble_eq_true rfl, fn_aF hf rfl rfl, ⟨hf, some (.int q19.1), q19.2, gp_X12_counts (n := n) (r := r)  e20, fun _ => fj_if h21 (fun c22 h23 => hK _ h23 _ hQ) (fun c22 h23 => hK _ h23 _ hQ)⟩⟩)⟩⟩⟩)⟩⟩⟩)⟩⟩⟩))⟩)
theorem l_X12_hasAppeal {n : Nat} {r : Nat → Nat → Option Nat} (hf : fn_F n r) (s : S_X12_hasAppeal) (q : Int32 × fm_) (h : am_lp (st_X12_hasAppeal) s = some q) : P_X12_hasAppeal n r s q :=
  am_lp_snd (P := P_X12_hasAppeal n r) (fun K hK s q h => match s, h with
    | (x1, x2, x3, x4, x5, m), h => t_X12_hasAppeal_6 hf (fun s => hK s q) x1 x2 x3 x4 x5 m h) s q h
set_option maxRecDepth 100000 in
theorem t_X12_hasAppeal {n : Nat} {r : Nat → Nat → Option Nat} (hf : fn_F n r) {q : Int32 × fm_} (p1 : Int32) (p2 : Int32) (p3 : Int32) {m : fm_}
  (h : f_X12_hasAppeal p1 p2 p3 m = some q) {Q : Option Value → am_W → Prop} (hQ : Q (en_i q).1 (mk_ n r q.2)) : am_T m_X12_hasAppeal sp_X12_hasAppeal n Q 0 [some (.ref 106), some (.int p1), some (.int p2), some (.int p3), none, none] [] (mk_ n r m) :=
  am_T.wp sm_X12_hasAppeal (K := am_T m_X12_hasAppeal sp_X12_hasAppeal n Q) (cuts := [6]) (fun _ _ _ _ h => h) 6
    (l_X12_hasAppeal hf _ _ h _ hQ)
noncomputable def G_X12_hasAppeal (n : Nat) (r : Nat → Nat → Option Nat) (as : List Value) (m : fm_) : Option (Option Value × fm_) := match as with
  | [.ref x0, .int p1, .int p2, .int p3] => gd_ (Nat.beq x0 106) ((f_X12_hasAppeal p1 p2 p3 m).map en_i)
  | _ => none
set_option maxRecDepth 100000 in
theorem gp_X12_hasAppeal {n : Nat} {r : Nat → Nat → Option Nat}  {p1 : Int32} {p2 : Int32} {p3 : Int32} {m : fm_} {q : Int32 × fm_}  (e : f_X12_hasAppeal p1 p2 p3 m = some q) : G_X12_hasAppeal n r [.ref 106, .int p1, .int p2, .int p3] m = some (en_i q) := by
  show (gd_ (Nat.beq 106 106) ((f_X12_hasAppeal p1 p2 p3 m).map en_i)) = _
  exact fn_gd rfl (fn_mp e)
set_option maxRecDepth 100000 in
theorem ok_X12_hasAppeal : am_mok 12 257 m_X12_hasAppeal = true := by decide +kernel
set_option maxRecDepth 100000 in
theorem c_X12_hasAppeal (l : Launch) {g : am_G} (hg : fx_ l g) : am_Met l g 1 257 (fn_s fn_F G_X12_hasAppeal) := by
  refine am_sound (own := 12) (M := m_X12_hasAppeal) (SP := sp_X12_hasAppeal) hg.1 (by decide +kernel) ok_X12_hasAppeal (by decide +kernel) ?_ (fun q hq hk => absurd hk (am_no61 (M := m_X12_hasAppeal) (by decide +kernel) q hq)) (fn_ext l _ rfl g 12) (Or.inl (by decide +kernel)) ?_ ?_
  · intro q hq hk
    have hm : q.2.2.2.1 ∈ am_cs m_X12_hasAppeal := am_cs_in hq hk
    rw [show am_cs m_X12_hasAppeal = [235] by decide +kernel] at hm
    have hm : q.2.2.2.1 ∈ [235] := (List.all_eq_true.mp (show ([235] : List Nat).all (fun a => decide (a ∈ ([235] : List Nat))) = true by decide +kernel) _ hm |> of_decide_eq_true)
    simp only [List.mem_cons, List.not_mem_nil, or_false] at hm
    rcases hm with hm
    · rw [hm]; exact ⟨0, by omega, c_X12_counts l hg⟩
  · intro as w K h
    obtain ⟨hf, y, m1, hG, hK⟩ := h
    unfold G_X12_hasAppeal at hG
    split at hG
    · exact Nat.le_of_ble_eq_true rfl
    · cases hG
  · intro as w K h
    obtain ⟨n, i0, l0, r⟩ := w
    obtain ⟨hf, y, m1, hG, hK⟩ := h
    unfold G_X12_hasAppeal at hG
    split at hG
    · next x0 p1 p2 p3 =>
      obtain ⟨hx1, hG1⟩ := gd_u hG
      obtain rfl := Nat.eq_of_beq_eq_true hx1
      obtain ⟨q, hq, he⟩ := fn_mu hG1
      obtain ⟨rfl, rfl⟩ := Prod.mk.inj he
      exact t_X12_hasAppeal  hf  p1 p2 p3 (m := (i0, l0)) hq hK
    · cases hG

/-! == X12_chargeOf == -/
noncomputable def f_X12_chargeOf (p1 : Int32) (p2 : Int32) (p3 : Int32) (p4 : Int32) (p5 : Int32) (m : fm_) : Option (Int32 × fm_) :=
  (if 0 ≤ p4 then
(Option.bind (f_X12_inForce p2 m) fun q3 =>
(Option.bind (f_X12_classBy q3.1 p1 p2 p5 q3.2) fun q6 =>
(gd_ (ix_ 8 9)
(gd_ (ix_ 7 9)
(gd_ (ix_ 6 9)
(Option.bind (f_X12_holds q3.1 6 (si_ (si_ (si_ q6.2 136 (Int32.toNatClampNeg 8) q6.1) 136 (Int32.toNatClampNeg 7) p3) 136 (Int32.toNatClampNeg 6) p4)) fun q15 =>
(if q15.1 = 0 then
(gd_ (ix_ q3.1 7)
(if (gi_ q15.2 131 (Int32.toNatClampNeg q3.1)) ≤ p3 then
(Option.bind (f_X12_hasAppeal p1 p2 p5 q15.2) fun q24 =>
(if q24.1 = 0 then
(gd_ (ix_ ((10 * q3.1) + q6.1) 70)
((some ((gi_ q24.2 128 (Int32.toNatClampNeg ((10 * q3.1) + q6.1))), q24.2))))
else
(Option.bind (f_X12_holds q3.1 7 q24.2) fun q31 =>
(if q31.1 = 0 then
(gd_ (ix_ ((10 * q3.1) + q6.1) 70)
((some ((gi_ q31.2 128 (Int32.toNatClampNeg ((10 * q3.1) + q6.1))), q31.2))))
else
((some (0, q31.2)))))))
else
((some (0, q15.2)))))
else
((some (0, q15.2))))))))))
else
((some (0, m))))
def sp_X12_chargeOf : am_S := fn_sp [(222, fn_F, G_X12_inForce), (252, fn_F, G_X12_classBy), (223, fn_F, G_X12_holds), (257, fn_F, G_X12_hasAppeal)]
theorem sm_X12_chargeOf : am_Smono (sp_X12_chargeOf) := fn_sp_mono _
set_option maxRecDepth 100000 in
theorem t_X12_chargeOf {n : Nat} {r : Nat → Nat → Option Nat} (hf : fn_F n r) {q : Int32 × fm_} (p1 : Int32) (p2 : Int32) (p3 : Int32) (p4 : Int32) (p5 : Int32) {m : fm_}
  (h : f_X12_chargeOf p1 p2 p3 p4 p5 m = some q) {Q : Option Value → am_W → Prop} (hQ : Q (en_i q).1 (mk_ n r q.2)) : am_T m_X12_chargeOf sp_X12_chargeOf n Q 0 [some (.ref 106), some (.int p1), some (.int p2), some (.int p3), some (.int p4), some (.int p5), none, none] [] (mk_ n r m) :=
  am_T.wp sm_X12_chargeOf (K := am_T m_X12_chargeOf sp_X12_chargeOf n Q) (cuts := []) (fun _ _ _ _ h => h) 60
    (fh_if h (fun c1 h2 => fh_bd h2 fun q3 e4 h5 => ⟨Nat.le_of_ble_eq_true rfl, fn_aF hf rfl rfl, ⟨hf, some (.int q3.1), q3.2, gp_X12_inForce (n := n) (r := r)  e4, fun _ => fh_bd h5 fun q6 e7 h8 => ⟨Nat.le_of_ble_eq_true rfl, fn_aF hf rfl rfl, ⟨hf, some (.int q6.1), q6.2, gp_X12_classBy (n := n) (r := r)  e7, fun _ => ⟨fn_aF hf rfl rfl, Or.inl ⟨_, hf.2 106 55 136 rfl, fh_gd h8 fun g10 h9 => ⟨9, fn_aF hf rfl rfl, ix_t g10, ⟨fn_aF hf rfl rfl, Or.inl ⟨_, hf.2 106 55 136 rfl, fh_gd h9 fun g12 h11 => ⟨9, fn_aF hf rfl rfl, ix_t g12, ⟨fn_aF hf rfl rfl, Or.inl ⟨_, hf.2 106 55 136 rfl, fh_gd h11 fun g14 h13 => ⟨9, fn_aF hf rfl rfl, ix_t g14, fh_bd h13 fun q15 e16 h17 => ⟨Nat.le_of_ble_eq_true rfl, fn_aF hf rfl rfl, ⟨hf, some (.int q15.1), q15.2, gp_X12_holds (n := n) (r := r)  e16, fun _ => fh_in h17 (fun c18 h19 => ⟨rfl, fh_rt h19 hQ⟩) (fun c18 h19 => ⟨fn_aF hf rfl rfl, Or.inl ⟨_, hf.2 106 43 131 rfl, fh_gd h19 fun g21 h20 => ⟨7, fn_aF hf rfl rfl, ix_t g21, fh_if h20 (fun c22 h23 => fh_bd h23 fun q24 e25 h26 => ⟨Nat.le_of_ble_eq_true rfl, fn_aF hf rfl rfl, ⟨hf, some (.int q24.1), q24.2, gp_X12_hasAppeal (n := n) (r := r)  e25, fun _ => fh_if h26 (fun c27 h28 => ⟨fn_aF hf rfl rfl, Or.inl ⟨_, hf.2 106 40 128 rfl, fh_gd h28 fun g30 h29 => ⟨70, fn_aF hf rfl rfl, ix_t g30, ⟨rfl, fh_rt h29 hQ⟩⟩⟩⟩) (fun c27 h28 => fh_bd h28 fun q31 e32 h33 => ⟨Nat.le_of_ble_eq_true rfl, fn_aF hf rfl rfl, ⟨hf, some (.int q31.1), q31.2, gp_X12_holds (n := n) (r := r)  e32, fun _ => fh_if h33 (fun c34 h35 => ⟨fn_aF hf rfl rfl, Or.inl ⟨_, hf.2 106 40 128 rfl, fh_gd h35 fun g37 h36 => ⟨70, fn_aF hf rfl rfl, ix_t g37, ⟨rfl, fh_rt h36 hQ⟩⟩⟩⟩) (fun c34 h35 => ⟨rfl, fh_rt h35 hQ⟩)⟩⟩)⟩⟩) (fun c22 h23 => ⟨rfl, fh_rt h23 hQ⟩)⟩⟩⟩)⟩⟩⟩⟩⟩⟩⟩⟩⟩⟩⟩⟩⟩⟩⟩) (fun c1 h2 => ⟨rfl, fh_rt h2 hQ⟩))
noncomputable def G_X12_chargeOf (n : Nat) (r : Nat → Nat → Option Nat) (as : List Value) (m : fm_) : Option (Option Value × fm_) := match as with
  | [.ref x0, .int p1, .int p2, .int p3, .int p4, .int p5] => gd_ (Nat.beq x0 106) ((f_X12_chargeOf p1 p2 p3 p4 p5 m).map en_i)
  | _ => none
set_option maxRecDepth 100000 in
theorem gp_X12_chargeOf {n : Nat} {r : Nat → Nat → Option Nat}  {p1 : Int32} {p2 : Int32} {p3 : Int32} {p4 : Int32} {p5 : Int32} {m : fm_} {q : Int32 × fm_}  (e : f_X12_chargeOf p1 p2 p3 p4 p5 m = some q) : G_X12_chargeOf n r [.ref 106, .int p1, .int p2, .int p3, .int p4, .int p5] m = some (en_i q) := by
  show (gd_ (Nat.beq 106 106) ((f_X12_chargeOf p1 p2 p3 p4 p5 m).map en_i)) = _
  exact fn_gd rfl (fn_mp e)
set_option maxRecDepth 100000 in
theorem ok_X12_chargeOf : am_mok 12 258 m_X12_chargeOf = true := by decide +kernel
set_option maxRecDepth 100000 in
theorem c_X12_chargeOf (l : Launch) {g : am_G} (hg : fx_ l g) : am_Met l g 3 258 (fn_s fn_F G_X12_chargeOf) := by
  refine am_sound (own := 12) (M := m_X12_chargeOf) (SP := sp_X12_chargeOf) hg.1 (by decide +kernel) ok_X12_chargeOf (by decide +kernel) ?_ (fun q hq hk => absurd hk (am_no61 (M := m_X12_chargeOf) (by decide +kernel) q hq)) (fn_ext l _ rfl g 12) (Or.inl (by decide +kernel)) ?_ ?_
  · intro q hq hk
    have hm : q.2.2.2.1 ∈ am_cs m_X12_chargeOf := am_cs_in hq hk
    rw [show am_cs m_X12_chargeOf = [222, 252, 223, 257, 223] by decide +kernel] at hm
    have hm : q.2.2.2.1 ∈ [222, 223, 252, 257] := (List.all_eq_true.mp (show ([222, 252, 223, 257, 223] : List Nat).all (fun a => decide (a ∈ ([222, 223, 252, 257] : List Nat))) = true by decide +kernel) _ hm |> of_decide_eq_true)
    simp only [List.mem_cons, List.not_mem_nil, or_false] at hm
    rcases hm with hm | hm | hm | hm
    · rw [hm]; exact ⟨0, by omega, c_X12_inForce l hg⟩
    · rw [hm]; exact ⟨0, by omega, c_X12_holds l hg⟩
    · rw [hm]; exact ⟨2, by omega, c_X12_classBy l hg⟩
    · rw [hm]; exact ⟨1, by omega, c_X12_hasAppeal l hg⟩
  · intro as w K h
    obtain ⟨hf, y, m1, hG, hK⟩ := h
    unfold G_X12_chargeOf at hG
    split at hG
    · exact Nat.le_of_ble_eq_true rfl
    · cases hG
  · intro as w K h
    obtain ⟨n, i0, l0, r⟩ := w
    obtain ⟨hf, y, m1, hG, hK⟩ := h
    unfold G_X12_chargeOf at hG
    split at hG
    · next x0 p1 p2 p3 p4 p5 =>
      obtain ⟨hx1, hG1⟩ := gd_u hG
      obtain rfl := Nat.eq_of_beq_eq_true hx1
      obtain ⟨q, hq, he⟩ := fn_mu hG1
      obtain ⟨rfl, rfl⟩ := Prod.mk.inj he
      exact t_X12_chargeOf  hf  p1 p2 p3 p4 p5 (m := (i0, l0)) hq hK
    · cases hG

/-! == X12_charge == -/
noncomputable def f_X12_charge (p1 : Int32) (p2 : Int32) (p3 : Int32) (m : fm_) : Option (Int32 × fm_) :=
  (Option.bind (f_X12_isPlate p1 m) fun q1 =>
(if q1.1 = 0 then
((some ((-1), q1.2)))
else
(Option.bind (f_X12_isDay p2 q1.2) fun q6 =>
(if q6.1 = 0 then
((some ((-1), q6.2)))
else
(Option.bind (f_X12_entriesOf p1 p2 p3 q6.2) fun q11 =>
(Option.bind (f_X12_enteredAt p1 p2 p3 q11.2) fun q14 =>
(Option.bind (f_X12_chargeOf p1 p2 q11.1 q14.1 p3 q14.2) fun q17 =>
((some (q17.1, q17.2))))))))))
def sp_X12_charge : am_S := fn_sp [(227, fn_F, G_X12_isPlate), (219, fn_0, G_X12_isDay), (255, fn_F, G_X12_entriesOf), (254, fn_F, G_X12_enteredAt), (258, fn_F, G_X12_chargeOf)]
theorem sm_X12_charge : am_Smono (sp_X12_charge) := fn_sp_mono _
set_option maxRecDepth 100000 in
theorem t_X12_charge {n : Nat} {r : Nat → Nat → Option Nat} (hf : fn_F n r) {q : Int32 × fm_} (p1 : Int32) (p2 : Int32) (p3 : Int32) {m : fm_}
  (h : f_X12_charge p1 p2 p3 m = some q) {Q : Option Value → am_W → Prop} (hQ : Q (en_i q).1 (mk_ n r q.2)) : am_T m_X12_charge sp_X12_charge n Q 0 [some (.ref 106), some (.int p1), some (.int p2), some (.int p3)] [] (mk_ n r m) :=
  am_T.wp sm_X12_charge (K := am_T m_X12_charge sp_X12_charge n Q) (cuts := []) (fun _ _ _ _ h => h) 24
    (fh_bd h fun q1 e2 h3 => ⟨Nat.le_of_ble_eq_true rfl, fn_aF hf rfl rfl, ⟨hf, some (.int q1.1), q1.2, gp_X12_isPlate (n := n) (r := r)  e2, fun _ => fh_if h3 (fun c4 h5 => ⟨rfl, fh_rt h5 hQ⟩) (fun c4 h5 => fh_bd h5 fun q6 e7 h8 => ⟨Nat.le_of_ble_eq_true rfl, trivial, ⟨trivial, some (.int q6.1), q6.2, gp_X12_isDay (n := n) (r := r)  e7, fun _ => fh_in h8 (fun c9 h10 => fh_bd h10 fun q11 e12 h13 => ⟨Nat.le_of_ble_eq_true rfl, fn_aF hf rfl rfl, ⟨hf, some (.int q11.1), q11.2, gp_X12_entriesOf (n := n) (r := r)  e12, fun _ => fh_bd h13 fun q14 e15 h16 => ⟨Nat.le_of_ble_eq_true rfl, fn_aF hf rfl rfl, ⟨hf, some (.int q14.1), q14.2, gp_X12_enteredAt (n := n) (r := r)  e15, fun _ => fh_bd h16 fun q17 e18 h19 => ⟨Nat.le_of_ble_eq_true rfl, fn_aF hf rfl rfl, ⟨hf, some (.int q17.1), q17.2, gp_X12_chargeOf (n := n) (r := r)  e18, fun _ => ⟨rfl, fh_rt h19 hQ⟩⟩⟩⟩⟩⟩⟩) (fun c9 h10 => ⟨rfl, fh_rt h10 hQ⟩)⟩⟩)⟩⟩)
noncomputable def G_X12_charge (n : Nat) (r : Nat → Nat → Option Nat) (as : List Value) (m : fm_) : Option (Option Value × fm_) := match as with
  | [.ref x0, .int p1, .int p2, .int p3] => gd_ (Nat.beq x0 106) ((f_X12_charge p1 p2 p3 m).map en_i)
  | _ => none
set_option maxRecDepth 100000 in
theorem gp_X12_charge {n : Nat} {r : Nat → Nat → Option Nat}  {p1 : Int32} {p2 : Int32} {p3 : Int32} {m : fm_} {q : Int32 × fm_}  (e : f_X12_charge p1 p2 p3 m = some q) : G_X12_charge n r [.ref 106, .int p1, .int p2, .int p3] m = some (en_i q) := by
  show (gd_ (Nat.beq 106 106) ((f_X12_charge p1 p2 p3 m).map en_i)) = _
  exact fn_gd rfl (fn_mp e)
set_option maxRecDepth 100000 in
theorem ok_X12_charge : am_mok 12 259 m_X12_charge = true := by decide +kernel
set_option maxRecDepth 100000 in
theorem c_X12_charge (l : Launch) {g : am_G} (hg : fx_ l g) : am_Met l g 6 259 (fn_s fn_F G_X12_charge) := by
  refine am_sound (own := 12) (M := m_X12_charge) (SP := sp_X12_charge) hg.1 (by decide +kernel) ok_X12_charge (by decide +kernel) ?_ (fun q hq hk => absurd hk (am_no61 (M := m_X12_charge) (by decide +kernel) q hq)) (fn_ext l _ rfl g 12) (Or.inl (by decide +kernel)) ?_ ?_
  · intro q hq hk
    have hm : q.2.2.2.1 ∈ am_cs m_X12_charge := am_cs_in hq hk
    rw [show am_cs m_X12_charge = [227, 219, 255, 254, 258] by decide +kernel] at hm
    have hm : q.2.2.2.1 ∈ [219, 227, 254, 255, 258] := (List.all_eq_true.mp (show ([227, 219, 255, 254, 258] : List Nat).all (fun a => decide (a ∈ ([219, 227, 254, 255, 258] : List Nat))) = true by decide +kernel) _ hm |> of_decide_eq_true)
    simp only [List.mem_cons, List.not_mem_nil, or_false] at hm
    rcases hm with hm | hm | hm | hm | hm
    · rw [hm]; exact ⟨0, by omega, c_X12_isDay l hg⟩
    · rw [hm]; exact ⟨0, by omega, c_X12_isPlate l hg⟩
    · rw [hm]; exact ⟨4, by omega, c_X12_enteredAt l hg⟩
    · rw [hm]; exact ⟨5, by omega, c_X12_entriesOf l hg⟩
    · rw [hm]; exact ⟨3, by omega, c_X12_chargeOf l hg⟩
  · intro as w K h
    obtain ⟨hf, y, m1, hG, hK⟩ := h
    unfold G_X12_charge at hG
    split at hG
    · exact Nat.le_of_ble_eq_true rfl
    · cases hG
  · intro as w K h
    obtain ⟨n, i0, l0, r⟩ := w
    obtain ⟨hf, y, m1, hG, hK⟩ := h
    unfold G_X12_charge at hG
    split at hG
    · next x0 p1 p2 p3 =>
      obtain ⟨hx1, hG1⟩ := gd_u hG
      obtain rfl := Nat.eq_of_beq_eq_true hx1
      obtain ⟨q, hq, he⟩ := fn_mu hG1
      obtain ⟨rfl, rfl⟩ := Prod.mk.inj he
      exact t_X12_charge  hf  p1 p2 p3 (m := (i0, l0)) hq hK
    · cases hG

