/-! == X12_account == -/
abbrev S_X12_account : Type := (Int32 × Int32 × Int32 × Int32 × Int32 × Int32 × fm_) ⊕ (Int32 × Int32 × Int32 × Int32 × Int32 × Int32 × Int32 × Int32 × fm_)
noncomputable def st_X12_account (s : S_X12_account) : Option (S_X12_account ⊕ (Int32 × fm_)) := match s with
  | Sum.inl ((x1, x2, x3, x4, x5, x6, m)) =>
    (if (gi_ m 106 57) ≤ x6 then
((some (Sum.inr (x5, m))))
else
((some (Sum.inl (Sum.inr ((x1, x2, x3, x4, x5, x6, 0, 0, m)))))))
  | Sum.inr ((x1, x2, x3, x4, x5, x6, x7, x8, m)) =>
    (if x3 < x8 then
((some (Sum.inl (Sum.inl ((x1, x2, x3, x4, x5, (x6 + 1), m))))))
else
(gd_ (ix_ x6 10)
(if (gi_ m 140 (Int32.toNatClampNeg x6)) = x1 then
(Option.bind (f_X12_enteredAt x6 x8 x4 m) fun q7 =>
(if x8 < x2 then
(if q7.1 < 0 then
((some (Sum.inl (Sum.inr ((x1, x2, x3, x4, x5, x6, (x7 + 0), (x8 + 1), q7.2))))))
else
((some (Sum.inl (Sum.inr ((x1, x2, x3, x4, x5, x6, (x7 + 1), (x8 + 1), q7.2)))))))
else
(Option.bind (f_X12_chargeOf x6 x8 x7 q7.1 x4 q7.2) fun q14 =>
(if q7.1 < 0 then
((some (Sum.inl (Sum.inr ((x1, x2, x3, x4, (x5 + q14.1), x6, (x7 + 0), (x8 + 1), q14.2))))))
else
((some (Sum.inl (Sum.inr ((x1, x2, x3, x4, (x5 + q14.1), x6, (x7 + 1), (x8 + 1), q14.2))))))))))
else
((some (Sum.inl (Sum.inl ((x1, x2, x3, x4, x5, (x6 + 1), m)))))))))
noncomputable def f_X12_account_34 (x1 : Int32) (x2 : Int32) (x3 : Int32) (x4 : Int32) (x5 : Int32) (x6 : Int32) (m : fm_) : Option (Int32 × fm_) := am_lp (st_X12_account) (Sum.inl ((x1, x2, x3, x4, x5, x6, m)))
noncomputable def f_X12_account_49 (x1 : Int32) (x2 : Int32) (x3 : Int32) (x4 : Int32) (x5 : Int32) (x6 : Int32) (x7 : Int32) (x8 : Int32) (m : fm_) : Option (Int32 × fm_) := am_lp (st_X12_account) (Sum.inr ((x1, x2, x3, x4, x5, x6, x7, x8, m)))
theorem e_X12_account_34 (x1 : Int32) (x2 : Int32) (x3 : Int32) (x4 : Int32) (x5 : Int32) (x6 : Int32) (m : fm_) : f_X12_account_34 x1 x2 x3 x4 x5 x6 m =
(if (gi_ m 106 57) ≤ x6 then
((some (x5, m)))
else
((f_X12_account_49 x1 x2 x3 x4 x5 x6 0 0 m))) :=
  (am_lp_eq _ _).trans (fe_if (rfl) (rfl))
theorem e_X12_account_49 (x1 : Int32) (x2 : Int32) (x3 : Int32) (x4 : Int32) (x5 : Int32) (x6 : Int32) (x7 : Int32) (x8 : Int32) (m : fm_) : f_X12_account_49 x1 x2 x3 x4 x5 x6 x7 x8 m =
(if x3 < x8 then
((f_X12_account_34 x1 x2 x3 x4 x5 (x6 + 1) m))
else
(gd_ (ix_ x6 10)
(if (gi_ m 140 (Int32.toNatClampNeg x6)) = x1 then
(Option.bind (f_X12_enteredAt x6 x8 x4 m) fun q7 =>
(if x8 < x2 then
(if q7.1 < 0 then
((f_X12_account_49 x1 x2 x3 x4 x5 x6 (x7 + 0) (x8 + 1) q7.2))
else
((f_X12_account_49 x1 x2 x3 x4 x5 x6 (x7 + 1) (x8 + 1) q7.2)))
else
(Option.bind (f_X12_chargeOf x6 x8 x7 q7.1 x4 q7.2) fun q14 =>
(if q7.1 < 0 then
((f_X12_account_49 x1 x2 x3 x4 (x5 + q14.1) x6 (x7 + 0) (x8 + 1) q14.2))
else
((f_X12_account_49 x1 x2 x3 x4 (x5 + q14.1) x6 (x7 + 1) (x8 + 1) q14.2))))))
else
((f_X12_account_34 x1 x2 x3 x4 x5 (x6 + 1) m))))) :=
  (am_lp_eq _ _).trans (fe_if (rfl) (fe_gd (fe_if (fe_bd fun q7 => (fe_if (fe_if (rfl) (rfl)) (fe_bd fun q14 => (fe_if (rfl) (rfl))))) (rfl))))
noncomputable def f_X12_account (p1 : Int32) (p2 : Int32) (p3 : Int32) (p4 : Int32) (m : fm_) : Option (Int32 × fm_) :=
  (Option.bind (f_X12_isSmall p1 m) fun q1 =>
(if q1.1 = 0 then
((some ((-1), q1.2)))
else
(Option.bind (f_X12_isDay p2 q1.2) fun q6 =>
(if q6.1 = 0 then
((some ((-1), q6.2)))
else
(Option.bind (f_X12_isDay p3 q6.2) fun q11 =>
(if q11.1 = 0 then
((some ((-1), q11.2)))
else
(if p2 ≤ p3 then
((f_X12_account_34 p1 p2 p3 p4 0 0 q11.2))
else
((some ((-1), q11.2))))))))))
def sp_X12_account : am_S := fn_sp [(229, fn_0, G_X12_isSmall), (219, fn_0, G_X12_isDay), (254, fn_F, G_X12_enteredAt), (258, fn_F, G_X12_chargeOf)]
theorem sm_X12_account : am_Smono (sp_X12_account) := fn_sp_mono _
def P_X12_account (n : Nat) (r : Nat → Nat → Option Nat) (s : S_X12_account) (q : Int32 × fm_) : Prop := match s with
  | Sum.inl ((x1, x2, x3, x4, x5, x6, m)) => ∀ (Q : Option Value → am_W → Prop) (y7 : Option Value) (y8 : Option Value) (y9 : Option Value), Q (en_i q).1 (mk_ n r q.2) → am_T m_X12_account sp_X12_account n Q 34 [some (.ref 106), some (.int x1), some (.int x2), some (.int x3), some (.int x4), some (.int x5), some (.int x6), y7, y8, y9] [] (mk_ n r m)
  | Sum.inr ((x1, x2, x3, x4, x5, x6, x7, x8, m)) => ∀ (Q : Option Value → am_W → Prop) (y9 : Option Value), Q (en_i q).1 (mk_ n r q.2) → am_T m_X12_account sp_X12_account n Q 49 [some (.ref 106), some (.int x1), some (.int x2), some (.int x3), some (.int x4), some (.int x5), some (.int x6), some (.int x7), some (.int x8), y9] [] (mk_ n r m)
set_option maxRecDepth 100000 in
theorem t_X12_account_34 {n : Nat} {r : Nat → Nat → Option Nat} (hf : fn_F n r) {K : S_X12_account → Option (Int32 × fm_)} {q : Int32 × fm_} (hK : ∀ s, K s = some q → P_X12_account n r s q) (x1 : Int32) (x2 : Int32) (x3 : Int32) (x4 : Int32) (x5 : Int32) (x6 : Int32) (m : fm_)
  (h : am_k K (st_X12_account (Sum.inl ((x1, x2, x3, x4, x5, x6, m)))) = some q) : P_X12_account n r (Sum.inl ((x1, x2, x3, x4, x5, x6, m))) q := fun Q y7 y8 y9 hQ =>
  am_T.wp sm_X12_account (K := am_T m_X12_account sp_X12_account n Q) (cuts := [34, 49]) (fun _ _ _ _ h => h) 10
    (⟨fn_aF hf rfl rfl, fj_if h (fun c1 h2 => ⟨rfl, fj_rt h2 hQ⟩) (fun c1 h2 => hK _ h2 _ _ hQ)⟩)
set_option maxRecDepth 100000 in
theorem t_X12_account_49 {n : Nat} {r : Nat → Nat → Option Nat} (hf : fn_F n r) {K : S_X12_account → Option (Int32 × fm_)} {q : Int32 × fm_} (hK : ∀ s, K s = some q → P_X12_account n r s q) (x1 : Int32) (x2 : Int32) (x3 : Int32) (x4 : Int32) (x5 : Int32) (x6 : Int32) (x7 : Int32) (x8 : Int32) (m : fm_)
  (h : am_k K (st_X12_account (Sum.inr ((x1, x2, x3, x4, x5, x6, x7, x8, m)))) = some q) : P_X12_account n r (Sum.inr ((x1, x2, x3, x4, x5, x6, x7, x8, m))) q := fun Q y9 hQ =>
  am_T.wp sm_X12_account (K := am_T m_X12_account sp_X12_account n Q) (cuts := [34, 49]) (fun _ _ _ _ h => h) 39
    (fj_if h (fun c1 h2 => hK _ h2 _ _ _ _ hQ) (fun c1 h2 => ⟨fn_aF hf rfl rfl, Or.inl ⟨_, hf.2 106 62 140 rfl, fj_gd h2 fun g4 h3 => ⟨10, fn_aF hf rfl rfl, ix_t g4, fj_in h3 (fun c5 h6 => hK _ h6 _ _ _ _ hQ) (fun c5 h6 => fj_bd h6 fun q7 e8 h9 => ⟨Nat.le_of_ble_eq_true rfl, fn_aF hf rfl rfl, ⟨hf, some (.int q7.1), q7.2, gp_X12_enteredAt (n := n) (r := r)  e8, fun _ => fj_if h9 (fun c10 h11 => fj_if h11 (fun c12 h13 => hK _ h13 _ _ hQ) (fun c12 h13 => hK _ h13 _ _ hQ)) (fun c10 h11 => fj_bd h11 fun q14 e15 h16 => ⟨Nat.le_of_ble_eq_true rfl, fn_aF hf rfl rfl, ⟨hf, some (.int q14.1), q14.2, gp_X12_chargeOf (n := n) (r := r)  e15, fun _ => fj_if h16 (fun c17 h18 => hK _ h18 _ _ hQ) (fun c17 h18 => hK _ h18 _ _ hQ)⟩⟩)⟩⟩)⟩⟩⟩))
theorem l_X12_account {n : Nat} {r : Nat → Nat → Option Nat} (hf : fn_F n r) (s : S_X12_account) (q : Int32 × fm_) (h : am_lp (st_X12_account) s = some q) : P_X12_account n r s q :=
  am_lp_snd (P := P_X12_account n r) (fun K hK s q h => match s, h with
    | Sum.inl ((x1, x2, x3, x4, x5, x6, m)), h => t_X12_account_34 hf (fun s => hK s q) x1 x2 x3 x4 x5 x6 m h
    | Sum.inr ((x1, x2, x3, x4, x5, x6, x7, x8, m)), h => t_X12_account_49 hf (fun s => hK s q) x1 x2 x3 x4 x5 x6 x7 x8 m h) s q h
set_option maxRecDepth 100000 in
theorem t_X12_account {n : Nat} {r : Nat → Nat → Option Nat} (hf : fn_F n r) {q : Int32 × fm_} (p1 : Int32) (p2 : Int32) (p3 : Int32) (p4 : Int32) {m : fm_}
  (h : f_X12_account p1 p2 p3 p4 m = some q) {Q : Option Value → am_W → Prop} (hQ : Q (en_i q).1 (mk_ n r q.2)) : am_T m_X12_account sp_X12_account n Q 0 [some (.ref 106), some (.int p1), some (.int p2), some (.int p3), some (.int p4), none, none, none, none, none] [] (mk_ n r m) :=
  am_T.wp sm_X12_account (K := am_T m_X12_account sp_X12_account n Q) (cuts := [34, 49]) (fun _ _ _ _ h => h) 18
    (fh_bd h fun q1 e2 h3 => ⟨Nat.le_of_ble_eq_true rfl, trivial, ⟨trivial, some (.int q1.1), q1.2, gp_X12_isSmall (n := n) (r := r)  e2, fun _ => fh_if h3 (fun c4 h5 => ⟨rfl, fh_rt h5 hQ⟩) (fun c4 h5 => fh_bd h5 fun q6 e7 h8 => ⟨Nat.le_of_ble_eq_true rfl, trivial, ⟨trivial, some (.int q6.1), q6.2, gp_X12_isDay (n := n) (r := r)  e7, fun _ => fh_if h8 (fun c9 h10 => ⟨rfl, fh_rt h10 hQ⟩) (fun c9 h10 => fh_bd h10 fun q11 e12 h13 => ⟨Nat.le_of_ble_eq_true rfl, trivial, ⟨trivial, some (.int q11.1), q11.2, gp_X12_isDay (n := n) (r := r)  e12, fun _ => fh_if h13 (fun c14 h15 => ⟨rfl, fh_rt h15 hQ⟩) (fun c14 h15 => fh_if h15 (fun c16 h17 => l_X12_account hf _ _ h17 _ _ _ _ hQ) (fun c16 h17 => ⟨rfl, fh_rt h17 hQ⟩))⟩⟩)⟩⟩)⟩⟩)
noncomputable def G_X12_account (n : Nat) (r : Nat → Nat → Option Nat) (as : List Value) (m : fm_) : Option (Option Value × fm_) := match as with
  | [.ref x0, .int p1, .int p2, .int p3, .int p4] => gd_ (Nat.beq x0 106) ((f_X12_account p1 p2 p3 p4 m).map en_i)
  | _ => none
set_option maxRecDepth 100000 in
theorem gp_X12_account {n : Nat} {r : Nat → Nat → Option Nat}  {p1 : Int32} {p2 : Int32} {p3 : Int32} {p4 : Int32} {m : fm_} {q : Int32 × fm_}  (e : f_X12_account p1 p2 p3 p4 m = some q) : G_X12_account n r [.ref 106, .int p1, .int p2, .int p3, .int p4] m = some (en_i q) := by
  show (gd_ (Nat.beq 106 106) ((f_X12_account p1 p2 p3 p4 m).map en_i)) = _
  exact fn_gd rfl (fn_mp e)
set_option maxRecDepth 100000 in
theorem ok_X12_account : am_mok 12 260 m_X12_account = true := by decide +kernel
set_option maxRecDepth 100000 in
theorem c_X12_account (l : Launch) {g : am_G} (hg : fx_ l g) : am_Met l g 5 260 (fn_s fn_F G_X12_account) := by
  refine am_sound (own := 12) (M := m_X12_account) (SP := sp_X12_account) hg.1 (by decide +kernel) ok_X12_account (by decide +kernel) ?_ (fun q hq hk => absurd hk (am_no61 (M := m_X12_account) (by decide +kernel) q hq)) (fn_ext l _ rfl g 12) (Or.inl (by decide +kernel)) ?_ ?_
  · intro q hq hk
    have hm : q.2.2.2.1 ∈ am_cs m_X12_account := am_cs_in hq hk
    rw [show am_cs m_X12_account = [229, 219, 219, 254, 258] by decide +kernel] at hm
    have hm : q.2.2.2.1 ∈ [219, 229, 254, 258] := (List.all_eq_true.mp (show ([229, 219, 219, 254, 258] : List Nat).all (fun a => decide (a ∈ ([219, 229, 254, 258] : List Nat))) = true by decide +kernel) _ hm |> of_decide_eq_true)
    simp only [List.mem_cons, List.not_mem_nil, or_false] at hm
    rcases hm with hm | hm | hm | hm
    · rw [hm]; exact ⟨0, by omega, c_X12_isDay l hg⟩
    · rw [hm]; exact ⟨0, by omega, c_X12_isSmall l hg⟩
    · rw [hm]; exact ⟨4, by omega, c_X12_enteredAt l hg⟩
    · rw [hm]; exact ⟨3, by omega, c_X12_chargeOf l hg⟩
  · intro as w K h
    obtain ⟨hf, y, m1, hG, hK⟩ := h
    unfold G_X12_account at hG
    split at hG
    · exact Nat.le_of_ble_eq_true rfl
    · cases hG
  · intro as w K h
    obtain ⟨n, i0, l0, r⟩ := w
    obtain ⟨hf, y, m1, hG, hK⟩ := h
    unfold G_X12_account at hG
    split at hG
    · next x0 p1 p2 p3 p4 =>
      obtain ⟨hx1, hG1⟩ := gd_u hG
      obtain rfl := Nat.eq_of_beq_eq_true hx1
      obtain ⟨q, hq, he⟩ := fn_mu hG1
      obtain ⟨rfl, rfl⟩ := Prod.mk.inj he
      exact t_X12_account  hf  p1 p2 p3 p4 (m := (i0, l0)) hq hK
    · cases hG

/-! == X12_back == -/
noncomputable def f_X12_back (p1 : Int32) (p2 : Int32) (p3 : Int32) (p4 : Int32) (p5 : Int32) (m : fm_) : Option (Int32 × fm_) :=
  (Option.bind (f_X12_isSmall p1 m) fun q1 =>
(if q1.1 = 0 then
((some ((-1000000), q1.2)))
else
(Option.bind (f_X12_isDay p2 q1.2) fun q6 =>
(if q6.1 = 0 then
((some ((-1000000), q6.2)))
else
(Option.bind (f_X12_isDay p3 q6.2) fun q11 =>
(if q11.1 = 0 then
((some ((-1000000), q11.2)))
else
(if p2 ≤ p3 then
(Option.bind (f_X12_account p1 p2 p3 p4 q11.2) fun q18 =>
(Option.bind (f_X12_account p1 p2 p3 p5 q18.2) fun q21 =>
((some ((q18.1 - q21.1), q21.2)))))
else
((some ((-1000000), q11.2))))))))))
def sp_X12_back : am_S := fn_sp [(229, fn_0, G_X12_isSmall), (219, fn_0, G_X12_isDay), (260, fn_F, G_X12_account)]
theorem sm_X12_back : am_Smono (sp_X12_back) := fn_sp_mono _
set_option maxRecDepth 100000 in
theorem t_X12_back {n : Nat} {r : Nat → Nat → Option Nat} (hf : fn_F n r) {q : Int32 × fm_} (p1 : Int32) (p2 : Int32) (p3 : Int32) (p4 : Int32) (p5 : Int32) {m : fm_}
  (h : f_X12_back p1 p2 p3 p4 p5 m = some q) {Q : Option Value → am_W → Prop} (hQ : Q (en_i q).1 (mk_ n r q.2)) : am_T m_X12_back sp_X12_back n Q 0 [some (.ref 106), some (.int p1), some (.int p2), some (.int p3), some (.int p4), some (.int p5)] [] (mk_ n r m) :=
  am_T.wp sm_X12_back (K := am_T m_X12_back sp_X12_back n Q) (cuts := []) (fun _ _ _ _ h => h) 27
    (fh_bd h fun q1 e2 h3 => ⟨Nat.le_of_ble_eq_true rfl, trivial, ⟨trivial, some (.int q1.1), q1.2, gp_X12_isSmall (n := n) (r := r)  e2, fun _ => fh_if h3 (fun c4 h5 => ⟨rfl, fh_rt h5 hQ⟩) (fun c4 h5 => fh_bd h5 fun q6 e7 h8 => ⟨Nat.le_of_ble_eq_true rfl, trivial, ⟨trivial, some (.int q6.1), q6.2, gp_X12_isDay (n := n) (r := r)  e7, fun _ => fh_if h8 (fun c9 h10 => ⟨rfl, fh_rt h10 hQ⟩) (fun c9 h10 => fh_bd h10 fun q11 e12 h13 => ⟨Nat.le_of_ble_eq_true rfl, trivial, ⟨trivial, some (.int q11.1), q11.2, gp_X12_isDay (n := n) (r := r)  e12, fun _ => fh_if h13 (fun c14 h15 => ⟨rfl, fh_rt h15 hQ⟩) (fun c14 h15 => fh_if h15 (fun c16 h17 => fh_bd h17 fun q18 e19 h20 => ⟨Nat.le_of_ble_eq_true rfl, fn_aF hf rfl rfl, ⟨hf, some (.int q18.1), q18.2, gp_X12_account (n := n) (r := r)  e19, fun _ => fh_bd h20 fun q21 e22 h23 => ⟨Nat.le_of_ble_eq_true rfl, fn_aF hf rfl rfl, ⟨hf, some (.int q21.1), q21.2, gp_X12_account (n := n) (r := r)  e22, fun _ => ⟨rfl, fh_rt h23 hQ⟩⟩⟩⟩⟩) (fun c16 h17 => ⟨rfl, fh_rt h17 hQ⟩))⟩⟩)⟩⟩)⟩⟩)
noncomputable def G_X12_back (n : Nat) (r : Nat → Nat → Option Nat) (as : List Value) (m : fm_) : Option (Option Value × fm_) := match as with
  | [.ref x0, .int p1, .int p2, .int p3, .int p4, .int p5] => gd_ (Nat.beq x0 106) ((f_X12_back p1 p2 p3 p4 p5 m).map en_i)
  | _ => none
set_option maxRecDepth 100000 in
theorem gp_X12_back {n : Nat} {r : Nat → Nat → Option Nat}  {p1 : Int32} {p2 : Int32} {p3 : Int32} {p4 : Int32} {p5 : Int32} {m : fm_} {q : Int32 × fm_}  (e : f_X12_back p1 p2 p3 p4 p5 m = some q) : G_X12_back n r [.ref 106, .int p1, .int p2, .int p3, .int p4, .int p5] m = some (en_i q) := by
  show (gd_ (Nat.beq 106 106) ((f_X12_back p1 p2 p3 p4 p5 m).map en_i)) = _
  exact fn_gd rfl (fn_mp e)
set_option maxRecDepth 100000 in
theorem ok_X12_back : am_mok 12 261 m_X12_back = true := by decide +kernel
set_option maxRecDepth 100000 in
theorem c_X12_back (l : Launch) {g : am_G} (hg : fx_ l g) : am_Met l g 6 261 (fn_s fn_F G_X12_back) := by
  refine am_sound (own := 12) (M := m_X12_back) (SP := sp_X12_back) hg.1 (by decide +kernel) ok_X12_back (by decide +kernel) ?_ (fun q hq hk => absurd hk (am_no61 (M := m_X12_back) (by decide +kernel) q hq)) (fn_ext l _ rfl g 12) (Or.inl (by decide +kernel)) ?_ ?_
  · intro q hq hk
    have hm : q.2.2.2.1 ∈ am_cs m_X12_back := am_cs_in hq hk
    rw [show am_cs m_X12_back = [229, 219, 219, 260, 260] by decide +kernel] at hm
    have hm : q.2.2.2.1 ∈ [219, 229, 260] := (List.all_eq_true.mp (show ([229, 219, 219, 260, 260] : List Nat).all (fun a => decide (a ∈ ([219, 229, 260] : List Nat))) = true by decide +kernel) _ hm |> of_decide_eq_true)
    simp only [List.mem_cons, List.not_mem_nil, or_false] at hm
    rcases hm with hm | hm | hm
    · rw [hm]; exact ⟨0, by omega, c_X12_isDay l hg⟩
    · rw [hm]; exact ⟨0, by omega, c_X12_isSmall l hg⟩
    · rw [hm]; exact ⟨5, by omega, c_X12_account l hg⟩
  · intro as w K h
    obtain ⟨hf, y, m1, hG, hK⟩ := h
    unfold G_X12_back at hG
    split at hG
    · exact Nat.le_of_ble_eq_true rfl
    · cases hG
  · intro as w K h
    obtain ⟨n, i0, l0, r⟩ := w
    obtain ⟨hf, y, m1, hG, hK⟩ := h
    unfold G_X12_back at hG
    split at hG
    · next x0 p1 p2 p3 p4 p5 =>
      obtain ⟨hx1, hG1⟩ := gd_u hG
      obtain rfl := Nat.eq_of_beq_eq_true hx1
      obtain ⟨q, hq, he⟩ := fn_mu hG1
      obtain ⟨rfl, rfl⟩ := Prod.mk.inj he
      exact t_X12_back  hf  p1 p2 p3 p4 p5 (m := (i0, l0)) hq hK
    · cases hG

/-! == X12_air == -/
noncomputable def f_X12_air (p1 : Int32) (p2 : Int32) (p3 : Int32) (p4 : Int32) (m : fm_) : Option (Int32 × fm_) :=
  (if (gi_ m 106 81) = 120 then
((some ((-1), m)))
else
(if p1 < 0 then
((some ((-1), m)))
else
(if 1 < p1 then
((some ((-1), m)))
else
(Option.bind (f_X12_isDay p2 m) fun q7 =>
(if q7.1 = 0 then
((some ((-1), q7.2)))
else
(if p3 < 0 then
((some ((-1), q7.2)))
else
(if 3 < p3 then
((some ((-1), q7.2)))
else
(if p4 < 0 then
((some ((-1), q7.2)))
else
(if 999 < p4 then
((some ((-1), q7.2)))
else
(gd_ (ix_ ((100 * p1) + p2) 200)
(if (gi_ q7.2 159 (Int32.toNatClampNeg ((100 * p1) + p2))) = 0 then
(gd_ (ix_ ((100 * p1) + p2) 200)
(gd_ (ix_ ((100 * p1) + p2) 200)
(gd_ (ix_ ((100 * p1) + p2) 200)
((some (((gi_ q7.2 106 81) + 1), (si_ (si_ (si_ (si_ q7.2 159 (Int32.toNatClampNeg ((100 * p1) + p2)) 1) 156 (Int32.toNatClampNeg ((100 * p1) + p2)) p3) 157 (Int32.toNatClampNeg ((100 * p1) + p2)) p4) 106 81 ((gi_ q7.2 106 81) + 1))))))))
else
((some ((-1), q7.2))))))))))))))
def sp_X12_air : am_S := fn_sp [(219, fn_0, G_X12_isDay)]
theorem sm_X12_air : am_Smono (sp_X12_air) := fn_sp_mono _
set_option maxRecDepth 100000 in
theorem t_X12_air {n : Nat} {r : Nat → Nat → Option Nat} (hf : fn_F n r) {q : Int32 × fm_} (p1 : Int32) (p2 : Int32) (p3 : Int32) (p4 : Int32) {m : fm_}
  (h : f_X12_air p1 p2 p3 p4 m = some q) {Q : Option Value → am_W → Prop} (hQ : Q (en_i q).1 (mk_ n r q.2)) : am_T m_X12_air sp_X12_air n Q 0 [some (.ref 106), some (.int p1), some (.int p2), some (.int p3), some (.int p4)] [] (mk_ n r m) :=
  am_T.wp sm_X12_air (K := am_T m_X12_air sp_X12_air n Q) (cuts := []) (fun _ _ _ _ h => h) 68
    (⟨fn_aF hf rfl rfl, fh_if h (fun c1 h2 => ⟨rfl, fh_rt h2 hQ⟩) (fun c1 h2 => fh_if h2 (fun c3 h4 => ⟨rfl, fh_rt h4 hQ⟩) (fun c3 h4 => fh_if h4 (fun c5 h6 => ⟨rfl, fh_rt h6 hQ⟩) (fun c5 h6 => fh_bd h6 fun q7 e8 h9 => ⟨Nat.le_of_ble_eq_true rfl, trivial, ⟨trivial, some (.int q7.1), q7.2, gp_X12_isDay (n := n) (r := r)  e8, fun _ => fh_if h9 (fun c10 h11 => ⟨rfl, fh_rt h11 hQ⟩) (fun c10 h11 => fh_if h11 (fun c12 h13 => ⟨rfl, fh_rt h13 hQ⟩) (fun c12 h13 => fh_if h13 (fun c14 h15 => ⟨rfl, fh_rt h15 hQ⟩) (fun c14 h15 => fh_if h15 (fun c16 h17 => ⟨rfl, fh_rt h17 hQ⟩) (fun c16 h17 => fh_if h17 (fun c18 h19 => ⟨rfl, fh_rt h19 hQ⟩) (fun c18 h19 => ⟨fn_aF hf rfl rfl, Or.inl ⟨_, hf.2 106 85 159 rfl, fh_gd h19 fun g21 h20 => ⟨200, Or.inr (fn_aF hf rfl rfl), ix_t g21, fh_if h20 (fun c22 h23 => ⟨fn_aF hf rfl rfl, Or.inl ⟨_, hf.2 106 85 159 rfl, fh_gd h23 fun g25 h24 => ⟨200, ix_t g25, Or.inr ⟨fn_aF hf rfl rfl, Or.inr rfl, ⟨fn_aF hf rfl rfl, Or.inl ⟨_, hf.2 106 82 156 rfl, fh_gd h24 fun g27 h26 => ⟨200, fn_aF hf rfl rfl, ix_t g27, ⟨fn_aF hf rfl rfl, Or.inl ⟨_, hf.2 106 83 157 rfl, fh_gd h26 fun g29 h28 => ⟨200, fn_aF hf rfl rfl, ix_t g29, ⟨fn_aF hf rfl rfl, ⟨fn_aF hf rfl rfl, ⟨fn_aF hf rfl rfl, ⟨rfl, fh_rt h28 hQ⟩⟩⟩⟩⟩⟩⟩⟩⟩⟩⟩⟩⟩⟩) (fun c22 h23 => ⟨rfl, fh_rt h23 hQ⟩)⟩⟩⟩)))))⟩⟩)))⟩)
noncomputable def G_X12_air (n : Nat) (r : Nat → Nat → Option Nat) (as : List Value) (m : fm_) : Option (Option Value × fm_) := match as with
  | [.ref x0, .int p1, .int p2, .int p3, .int p4] => gd_ (Nat.beq x0 106) ((f_X12_air p1 p2 p3 p4 m).map en_i)
  | _ => none
set_option maxRecDepth 100000 in
theorem gp_X12_air {n : Nat} {r : Nat → Nat → Option Nat}  {p1 : Int32} {p2 : Int32} {p3 : Int32} {p4 : Int32} {m : fm_} {q : Int32 × fm_}  (e : f_X12_air p1 p2 p3 p4 m = some q) : G_X12_air n r [.ref 106, .int p1, .int p2, .int p3, .int p4] m = some (en_i q) := by
  show (gd_ (Nat.beq 106 106) ((f_X12_air p1 p2 p3 p4 m).map en_i)) = _
  exact fn_gd rfl (fn_mp e)
set_option maxRecDepth 100000 in
theorem ok_X12_air : am_mok 12 262 m_X12_air = true := by decide +kernel
set_option maxRecDepth 100000 in
theorem c_X12_air (l : Launch) {g : am_G} (hg : fx_ l g) : am_Met l g 1 262 (fn_s fn_F G_X12_air) := by
  refine am_sound (own := 12) (M := m_X12_air) (SP := sp_X12_air) hg.1 (by decide +kernel) ok_X12_air (by decide +kernel) ?_ (fun q hq hk => absurd hk (am_no61 (M := m_X12_air) (by decide +kernel) q hq)) (fn_ext l _ rfl g 12) (Or.inl (by decide +kernel)) ?_ ?_
  · intro q hq hk
    have hm : q.2.2.2.1 ∈ am_cs m_X12_air := am_cs_in hq hk
    rw [show am_cs m_X12_air = [219] by decide +kernel] at hm
    have hm : q.2.2.2.1 ∈ [219] := (List.all_eq_true.mp (show ([219] : List Nat).all (fun a => decide (a ∈ ([219] : List Nat))) = true by decide +kernel) _ hm |> of_decide_eq_true)
    simp only [List.mem_cons, List.not_mem_nil, or_false] at hm
    rcases hm with hm
    · rw [hm]; exact ⟨0, by omega, c_X12_isDay l hg⟩
  · intro as w K h
    obtain ⟨hf, y, m1, hG, hK⟩ := h
    unfold G_X12_air at hG
    split at hG
    · exact Nat.le_of_ble_eq_true rfl
    · cases hG
  · intro as w K h
    obtain ⟨n, i0, l0, r⟩ := w
    obtain ⟨hf, y, m1, hG, hK⟩ := h
    unfold G_X12_air at hG
    split at hG
    · next x0 p1 p2 p3 p4 =>
      obtain ⟨hx1, hG1⟩ := gd_u hG
      obtain rfl := Nat.eq_of_beq_eq_true hx1
      obtain ⟨q, hq, he⟩ := fn_mu hG1
      obtain ⟨rfl, rfl⟩ := Prod.mk.inj he
      exact t_X12_air  hf  p1 p2 p3 p4 (m := (i0, l0)) hq hK
    · cases hG

/-! == X12_isPair == -/
noncomputable def f_X12_isPair (p1 : Int32) (p2 : Int32) (m : fm_) : Option (Int32 × fm_) :=
  (gd_ (ix_ p1 200)
(if (gi_ m 159 (Int32.toNatClampNeg p1)) = 0 then
((some (0, m)))
else
(gd_ (ix_ (100 + p1) 200)
(if (gi_ m 159 (Int32.toNatClampNeg (100 + p1))) = 0 then
((some (0, m)))
else
(gd_ (ix_ p1 200)
(if (gi_ m 156 (Int32.toNatClampNeg p1)) = p2 then
(gd_ (ix_ (100 + p1) 200)
(if (gi_ m 156 (Int32.toNatClampNeg (100 + p1))) = p2 then
((some (1, m)))
else
((some (0, m)))))
else
((some (0, m)))))))))
def sp_X12_isPair : am_S := fn_sp []
theorem sm_X12_isPair : am_Smono (sp_X12_isPair) := fn_sp_mono _
set_option maxRecDepth 100000 in
theorem t_X12_isPair {n : Nat} {r : Nat → Nat → Option Nat} (hf : fn_F n r) {q : Int32 × fm_} (p1 : Int32) (p2 : Int32) {m : fm_}
  (h : f_X12_isPair p1 p2 m = some q) {Q : Option Value → am_W → Prop} (hQ : Q (en_i q).1 (mk_ n r q.2)) : am_T m_X12_isPair sp_X12_isPair n Q 0 [some (.ref 106), some (.int p1), some (.int p2)] [] (mk_ n r m) :=
  am_T.wp sm_X12_isPair (K := am_T m_X12_isPair sp_X12_isPair n Q) (cuts := []) (fun _ _ _ _ h => h) 30
    (⟨fn_aF hf rfl rfl, Or.inl ⟨_, hf.2 106 85 159 rfl, fh_gd h fun g2 h1 => ⟨200, Or.inr (fn_aF hf rfl rfl), ix_t g2, fh_if h1 (fun c3 h4 => ⟨rfl, Or.inl rfl, fh_rt h4 hQ⟩) (fun c3 h4 => ⟨fn_aF hf rfl rfl, Or.inl ⟨_, hf.2 106 85 159 rfl, fh_gd h4 fun g6 h5 => ⟨200, Or.inr (fn_aF hf rfl rfl), ix_t g6, fh_if h5 (fun c7 h8 => ⟨rfl, Or.inl rfl, fh_rt h8 hQ⟩) (fun c7 h8 => ⟨fn_aF hf rfl rfl, Or.inl ⟨_, hf.2 106 82 156 rfl, fh_gd h8 fun g10 h9 => ⟨200, fn_aF hf rfl rfl, ix_t g10, fh_in h9 (fun c11 h12 => ⟨rfl, Or.inl rfl, fh_rt h12 hQ⟩) (fun c11 h12 => ⟨fn_aF hf rfl rfl, Or.inl ⟨_, hf.2 106 82 156 rfl, fh_gd h12 fun g14 h13 => ⟨200, fn_aF hf rfl rfl, ix_t g14, fh_in h13 (fun c15 h16 => ⟨rfl, Or.inl rfl, fh_rt h16 hQ⟩) (fun c15 h16 => ⟨rfl, Or.inr rfl, fh_rt h16 hQ⟩)⟩⟩⟩)⟩⟩⟩)⟩⟩⟩)⟩⟩⟩)
noncomputable def G_X12_isPair (n : Nat) (r : Nat → Nat → Option Nat) (as : List Value) (m : fm_) : Option (Option Value × fm_) := match as with
  | [.ref x0, .int p1, .int p2] => gd_ (Nat.beq x0 106) ((f_X12_isPair p1 p2 m).map en_i)
  | _ => none
set_option maxRecDepth 100000 in
theorem gp_X12_isPair {n : Nat} {r : Nat → Nat → Option Nat}  {p1 : Int32} {p2 : Int32} {m : fm_} {q : Int32 × fm_}  (e : f_X12_isPair p1 p2 m = some q) : G_X12_isPair n r [.ref 106, .int p1, .int p2] m = some (en_i q) := by
  show (gd_ (Nat.beq 106 106) ((f_X12_isPair p1 p2 m).map en_i)) = _
  exact fn_gd rfl (fn_mp e)
set_option maxRecDepth 100000 in
theorem ok_X12_isPair : am_mok 12 263 m_X12_isPair = true := by decide +kernel
set_option maxRecDepth 100000 in
theorem c_X12_isPair (l : Launch) {g : am_G} (hg : fx_ l g) : am_Met l g 0 263 (fn_s fn_F G_X12_isPair) := by
  refine am_sound (own := 12) (M := m_X12_isPair) (SP := sp_X12_isPair) hg.1 (by decide +kernel) ok_X12_isPair (by decide +kernel) ?_ (fun q hq hk => absurd hk (am_no61 (M := m_X12_isPair) (by decide +kernel) q hq)) (fn_ext l _ rfl g 12) (Or.inl (by decide +kernel)) ?_ ?_
  · intro q hq hk
    have hm : q.2.2.2.1 ∈ am_cs m_X12_isPair := am_cs_in hq hk
    rw [show am_cs m_X12_isPair = [] by decide +kernel] at hm
    cases hm
  · intro as w K h
    obtain ⟨hf, y, m1, hG, hK⟩ := h
    unfold G_X12_isPair at hG
    split at hG
    · exact Nat.le_of_ble_eq_true rfl
    · cases hG
  · intro as w K h
    obtain ⟨n, i0, l0, r⟩ := w
    obtain ⟨hf, y, m1, hG, hK⟩ := h
    unfold G_X12_isPair at hG
    split at hG
    · next x0 p1 p2 =>
      obtain ⟨hx1, hG1⟩ := gd_u hG
      obtain rfl := Nat.eq_of_beq_eq_true hx1
      obtain ⟨q, hq, he⟩ := fn_mu hG1
      obtain ⟨rfl, rfl⟩ := Prod.mk.inj he
      exact t_X12_isPair  hf  p1 p2 (m := (i0, l0)) hq hK
    · cases hG

/-! == X12_nextPair == -/
abbrev S_X12_nextPair : Type := (Int32 × Int32 × Int32 × Int32 × fm_)
noncomputable def st_X12_nextPair (s : S_X12_nextPair) : Option (S_X12_nextPair ⊕ (Int32 × fm_)) := match s with
  | (x1, x2, x3, x4, m) =>
    (if x2 ≤ x4 then
((some (Sum.inr ((-1), m))))
else
(Option.bind (f_X12_isPair x4 x3 m) fun q3 =>
(if q3.1 = 0 then
((some (Sum.inl ((x1, x2, x3, (x4 + 1), q3.2)))))
else
((some (Sum.inr (x4, q3.2)))))))
noncomputable def f_X12_nextPair_3 (x1 : Int32) (x2 : Int32) (x3 : Int32) (x4 : Int32) (m : fm_) : Option (Int32 × fm_) := am_lp (st_X12_nextPair) ((x1, x2, x3, x4, m))
theorem e_X12_nextPair_3 (x1 : Int32) (x2 : Int32) (x3 : Int32) (x4 : Int32) (m : fm_) : f_X12_nextPair_3 x1 x2 x3 x4 m =
(if x2 ≤ x4 then
((some ((-1), m)))
else
(Option.bind (f_X12_isPair x4 x3 m) fun q3 =>
(if q3.1 = 0 then
((f_X12_nextPair_3 x1 x2 x3 (x4 + 1) q3.2))
else
((some (x4, q3.2)))))) :=
  (am_lp_eq _ _).trans (fe_if (rfl) (fe_bd fun q3 => (fe_if (rfl) (rfl))))
noncomputable def f_X12_nextPair (p1 : Int32) (p2 : Int32) (p3 : Int32) (m : fm_) : Option (Int32 × fm_) :=
  ((f_X12_nextPair_3 p1 p2 p3 p1 m))
def sp_X12_nextPair : am_S := fn_sp [(263, fn_F, G_X12_isPair)]
theorem sm_X12_nextPair : am_Smono (sp_X12_nextPair) := fn_sp_mono _
def P_X12_nextPair (n : Nat) (r : Nat → Nat → Option Nat) (s : S_X12_nextPair) (q : Int32 × fm_) : Prop := match s with
  | (x1, x2, x3, x4, m) => ∀ (Q : Option Value → am_W → Prop), Q (en_i q).1 (mk_ n r q.2) → am_T m_X12_nextPair sp_X12_nextPair n Q 3 [some (.ref 106), some (.int x1), some (.int x2), some (.int x3), some (.int x4)] [] (mk_ n r m)
set_option maxRecDepth 100000 in
theorem t_X12_nextPair_3 {n : Nat} {r : Nat → Nat → Option Nat} (hf : fn_F n r) {K : S_X12_nextPair → Option (Int32 × fm_)} {q : Int32 × fm_} (hK : ∀ s, K s = some q → P_X12_nextPair n r s q) (x1 : Int32) (x2 : Int32) (x3 : Int32) (x4 : Int32) (m : fm_)
  (h : am_k K (st_X12_nextPair ((x1, x2, x3, x4, m))) = some q) : P_X12_nextPair n r ((x1, x2, x3, x4, m)) q := fun Q hQ =>
  am_T.wp sm_X12_nextPair (K := am_T m_X12_nextPair sp_X12_nextPair n Q) (cuts := [3]) (fun _ _ _ _ h => h) 12
    (fj_if h (fun c1 h2 => ⟨rfl, fj_rt h2 hQ⟩) (fun c1 h2 => fj_bd h2 fun q3 e4 h5 => ⟨Nat.le_of_ble_eq_true rfl, fn_aF hf rfl rfl, ⟨hf, some (.int q3.1), q3.2, gp_X12_isPair (n := n) (r := r)  e4, fun _ => fj_if h5 (fun c6 h7 => hK _ h7 _ hQ) (fun c6 h7 => ⟨rfl, fj_rt h7 hQ⟩)⟩⟩))
theorem l_X12_nextPair {n : Nat} {r : Nat → Nat → Option Nat} (hf : fn_F n r) (s : S_X12_nextPair) (q : Int32 × fm_) (h : am_lp (st_X12_nextPair) s = some q) : P_X12_nextPair n r s q :=
  am_lp_snd (P := P_X12_nextPair n r) (fun K hK s q h => match s, h with
    | (x1, x2, x3, x4, m), h => t_X12_nextPair_3 hf (fun s => hK s q) x1 x2 x3 x4 m h) s q h
set_option maxRecDepth 100000 in
theorem t_X12_nextPair {n : Nat} {r : Nat → Nat → Option Nat} (hf : fn_F n r) {q : Int32 × fm_} (p1 : Int32) (p2 : Int32) (p3 : Int32) {m : fm_}
  (h : f_X12_nextPair p1 p2 p3 m = some q) {Q : Option Value → am_W → Prop} (hQ : Q (en_i q).1 (mk_ n r q.2)) : am_T m_X12_nextPair sp_X12_nextPair n Q 0 [some (.ref 106), some (.int p1), some (.int p2), some (.int p3), none] [] (mk_ n r m) :=
  am_T.wp sm_X12_nextPair (K := am_T m_X12_nextPair sp_X12_nextPair n Q) (cuts := [3]) (fun _ _ _ _ h => h) 4
    (l_X12_nextPair hf _ _ h _ hQ)
noncomputable def G_X12_nextPair (n : Nat) (r : Nat → Nat → Option Nat) (as : List Value) (m : fm_) : Option (Option Value × fm_) := match as with
  | [.ref x0, .int p1, .int p2, .int p3] => gd_ (Nat.beq x0 106) ((f_X12_nextPair p1 p2 p3 m).map en_i)
  | _ => none
set_option maxRecDepth 100000 in
theorem gp_X12_nextPair {n : Nat} {r : Nat → Nat → Option Nat}  {p1 : Int32} {p2 : Int32} {p3 : Int32} {m : fm_} {q : Int32 × fm_}  (e : f_X12_nextPair p1 p2 p3 m = some q) : G_X12_nextPair n r [.ref 106, .int p1, .int p2, .int p3] m = some (en_i q) := by
  show (gd_ (Nat.beq 106 106) ((f_X12_nextPair p1 p2 p3 m).map en_i)) = _
  exact fn_gd rfl (fn_mp e)
set_option maxRecDepth 100000 in
theorem ok_X12_nextPair : am_mok 12 264 m_X12_nextPair = true := by decide +kernel
set_option maxRecDepth 100000 in
theorem c_X12_nextPair (l : Launch) {g : am_G} (hg : fx_ l g) : am_Met l g 1 264 (fn_s fn_F G_X12_nextPair) := by
  refine am_sound (own := 12) (M := m_X12_nextPair) (SP := sp_X12_nextPair) hg.1 (by decide +kernel) ok_X12_nextPair (by decide +kernel) ?_ (fun q hq hk => absurd hk (am_no61 (M := m_X12_nextPair) (by decide +kernel) q hq)) (fn_ext l _ rfl g 12) (Or.inl (by decide +kernel)) ?_ ?_
  · intro q hq hk
    have hm : q.2.2.2.1 ∈ am_cs m_X12_nextPair := am_cs_in hq hk
    rw [show am_cs m_X12_nextPair = [263] by decide +kernel] at hm
    have hm : q.2.2.2.1 ∈ [263] := (List.all_eq_true.mp (show ([263] : List Nat).all (fun a => decide (a ∈ ([263] : List Nat))) = true by decide +kernel) _ hm |> of_decide_eq_true)
    simp only [List.mem_cons, List.not_mem_nil, or_false] at hm
    rcases hm with hm
    · rw [hm]; exact ⟨0, by omega, c_X12_isPair l hg⟩
  · intro as w K h
    obtain ⟨hf, y, m1, hG, hK⟩ := h
    unfold G_X12_nextPair at hG
    split at hG
    · exact Nat.le_of_ble_eq_true rfl
    · cases hG
  · intro as w K h
    obtain ⟨n, i0, l0, r⟩ := w
    obtain ⟨hf, y, m1, hG, hK⟩ := h
    unfold G_X12_nextPair at hG
    split at hG
    · next x0 p1 p2 p3 =>
      obtain ⟨hx1, hG1⟩ := gd_u hG
      obtain rfl := Nat.eq_of_beq_eq_true hx1
      obtain ⟨q, hq, he⟩ := fn_mu hG1
      obtain ⟨rfl, rfl⟩ := Prod.mk.inj he
      exact t_X12_nextPair  hf  p1 p2 p3 (m := (i0, l0)) hq hK
    · cases hG

/-! == X12_join == -/
abbrev S_X12_join : Type := (Int32 × Int32 × fm_) ⊕ (Int32 × Int32 × Int32 × Int32 × fm_)
noncomputable def st_X12_join (s : S_X12_join) : Option (S_X12_join ⊕ (Int32 × fm_)) := match s with
  | Sum.inl ((x1, x2, m)) =>
    (if 4 ≤ x2 then
((some (Sum.inr (0, m))))
else
(Option.bind (f_X12_nextPair 0 x1 x2 m) fun q3 =>
(Option.bind (f_X12_nextPair x1 100 x2 q3.2) fun q6 =>
((some (Sum.inl (Sum.inr ((x1, x2, q3.1, q6.1, q6.2)))))))))
  | Sum.inr ((x1, x2, x3, x4, m)) =>
    (if x3 < 0 then
((some (Sum.inl (Sum.inl ((x1, (x2 + 1), m))))))
else
(if x4 < 0 then
((some (Sum.inl (Sum.inl ((x1, (x2 + 1), m))))))
else
(if 12 ≤ (gi_ m 106 86) then
((some (Sum.inl (Sum.inl ((x1, (x2 + 1), m))))))
else
(gd_ (ix_ x3 200)
(gd_ (ix_ (100 + x3) 200)
(gd_ (ix_ x4 200)
(gd_ (ix_ (100 + x4) 200)
(gd_ (ix_ (gi_ m 106 86) 12)
(Option.bind (f_X12_nextPair (x3 + 1) x1 x2 (si_ (si_ m 158 (Int32.toNatClampNeg (gi_ m 106 86)) ((((gi_ m 157 (Int32.toNatClampNeg x3)) - (gi_ m 157 (Int32.toNatClampNeg (100 + x3)))) - (gi_ m 157 (Int32.toNatClampNeg x4))) + (gi_ m 157 (Int32.toNatClampNeg (100 + x4))))) 106 86 ((gi_ m 106 86) + 1))) fun q17 =>
(Option.bind (f_X12_nextPair (x4 + 1) 100 x2 q17.2) fun q20 =>
((some (Sum.inl (Sum.inr ((x1, x2, q17.1, q20.1, q20.2))))))))))))))))
noncomputable def f_X12_join_7 (x1 : Int32) (x2 : Int32) (m : fm_) : Option (Int32 × fm_) := am_lp (st_X12_join) (Sum.inl ((x1, x2, m)))
noncomputable def f_X12_join_30 (x1 : Int32) (x2 : Int32) (x3 : Int32) (x4 : Int32) (m : fm_) : Option (Int32 × fm_) := am_lp (st_X12_join) (Sum.inr ((x1, x2, x3, x4, m)))
theorem e_X12_join_7 (x1 : Int32) (x2 : Int32) (m : fm_) : f_X12_join_7 x1 x2 m =
(if 4 ≤ x2 then
((some (0, m)))
else
(Option.bind (f_X12_nextPair 0 x1 x2 m) fun q3 =>
(Option.bind (f_X12_nextPair x1 100 x2 q3.2) fun q6 =>
((f_X12_join_30 x1 x2 q3.1 q6.1 q6.2))))) :=
  (am_lp_eq _ _).trans (fe_if (rfl) (fe_bd fun q3 => (fe_bd fun q6 => (rfl))))
theorem e_X12_join_30 (x1 : Int32) (x2 : Int32) (x3 : Int32) (x4 : Int32) (m : fm_) : f_X12_join_30 x1 x2 x3 x4 m =
(if x3 < 0 then
((f_X12_join_7 x1 (x2 + 1) m))
else
(if x4 < 0 then
((f_X12_join_7 x1 (x2 + 1) m))
else
(if 12 ≤ (gi_ m 106 86) then
((f_X12_join_7 x1 (x2 + 1) m))
else
(gd_ (ix_ x3 200)
(gd_ (ix_ (100 + x3) 200)
(gd_ (ix_ x4 200)
(gd_ (ix_ (100 + x4) 200)
(gd_ (ix_ (gi_ m 106 86) 12)
(Option.bind (f_X12_nextPair (x3 + 1) x1 x2 (si_ (si_ m 158 (Int32.toNatClampNeg (gi_ m 106 86)) ((((gi_ m 157 (Int32.toNatClampNeg x3)) - (gi_ m 157 (Int32.toNatClampNeg (100 + x3)))) - (gi_ m 157 (Int32.toNatClampNeg x4))) + (gi_ m 157 (Int32.toNatClampNeg (100 + x4))))) 106 86 ((gi_ m 106 86) + 1))) fun q17 =>
(Option.bind (f_X12_nextPair (x4 + 1) 100 x2 q17.2) fun q20 =>
((f_X12_join_30 x1 x2 q17.1 q20.1 q20.2)))))))))))) :=
  (am_lp_eq _ _).trans (fe_if (rfl) (fe_if (rfl) (fe_if (rfl) (fe_gd (fe_gd (fe_gd (fe_gd (fe_gd (fe_bd fun q17 => (fe_bd fun q20 => (rfl)))))))))))
noncomputable def f_X12_join (p1 : Int32) (m : fm_) : Option (Int32 × fm_) :=
  ((f_X12_join_7 p1 0 (si_ m 106 86 0)))
def sp_X12_join : am_S := fn_sp [(264, fn_F, G_X12_nextPair)]
theorem sm_X12_join : am_Smono (sp_X12_join) := fn_sp_mono _
def P_X12_join (n : Nat) (r : Nat → Nat → Option Nat) (s : S_X12_join) (q : Int32 × fm_) : Prop := match s with
  | Sum.inl ((x1, x2, m)) => ∀ (Q : Option Value → am_W → Prop) (y3 : Option Value) (y4 : Option Value), Q (en_v q).1 (mk_ n r q.2) → am_T m_X12_join sp_X12_join n Q 7 [some (.ref 106), some (.int x1), some (.int x2), y3, y4] [] (mk_ n r m)
  | Sum.inr ((x1, x2, x3, x4, m)) => ∀ (Q : Option Value → am_W → Prop), Q (en_v q).1 (mk_ n r q.2) → am_T m_X12_join sp_X12_join n Q 30 [some (.ref 106), some (.int x1), some (.int x2), some (.int x3), some (.int x4)] [] (mk_ n r m)
set_option maxRecDepth 100000 in
theorem t_X12_join_7 {n : Nat} {r : Nat → Nat → Option Nat} (hf : fn_F n r) {K : S_X12_join → Option (Int32 × fm_)} {q : Int32 × fm_} (hK : ∀ s, K s = some q → P_X12_join n r s q) (x1 : Int32) (x2 : Int32) (m : fm_)
  (h : am_k K (st_X12_join (Sum.inl ((x1, x2, m)))) = some q) : P_X12_join n r (Sum.inl ((x1, x2, m))) q := fun Q y3 y4 hQ =>
  am_T.wp sm_X12_join (K := am_T m_X12_join sp_X12_join n Q) (cuts := [7, 30]) (fun _ _ _ _ h => h) 17
    (fj_if h (fun c1 h2 => ⟨rfl, fj_rt h2 hQ⟩) (fun c1 h2 => fj_bd h2 fun q3 e4 h5 => ⟨Nat.le_of_ble_eq_true rfl, fn_aF hf rfl rfl, ⟨hf, some (.int q3.1), q3.2, gp_X12_nextPair (n := n) (r := r)  e4, fun _ => fj_bd h5 fun q6 e7 h8 => ⟨Nat.le_of_ble_eq_true rfl, fn_aF hf rfl rfl, ⟨hf, some (.int q6.1), q6.2, gp_X12_nextPair (n := n) (r := r)  e7, fun _ => hK _ h8 _ hQ⟩⟩⟩⟩))
set_option maxRecDepth 100000 in
theorem t_X12_join_30 {n : Nat} {r : Nat → Nat → Option Nat} (hf : fn_F n r) {K : S_X12_join → Option (Int32 × fm_)} {q : Int32 × fm_} (hK : ∀ s, K s = some q → P_X12_join n r s q) (x1 : Int32) (x2 : Int32) (x3 : Int32) (x4 : Int32) (m : fm_)
  (h : am_k K (st_X12_join (Sum.inr ((x1, x2, x3, x4, m)))) = some q) : P_X12_join n r (Sum.inr ((x1, x2, x3, x4, m))) q := fun Q hQ =>
  am_T.wp sm_X12_join (K := am_T m_X12_join sp_X12_join n Q) (cuts := [7, 30]) (fun _ _ _ _ h => h) 61
    (fj_if h (fun c1 h2 => hK _ h2 _ _ _ hQ) (fun c1 h2 => fj_if h2 (fun c3 h4 => hK _ h4 _ _ _ hQ) (fun c3 h4 => ⟨fn_aF hf rfl rfl, fj_if h4 (fun c5 h6 => hK _ h6 _ _ _ hQ) (fun c5 h6 => ⟨fn_aF hf rfl rfl, Or.inl ⟨_, hf.2 106 84 158 rfl, ⟨fn_aF hf rfl rfl, ⟨fn_aF hf rfl rfl, Or.inl ⟨_, hf.2 106 83 157 rfl, fj_gd h6 fun g8 h7 => ⟨200, fn_aF hf rfl rfl, ix_t g8, ⟨fn_aF hf rfl rfl, Or.inl ⟨_, hf.2 106 83 157 rfl, fj_gd h7 fun g10 h9 => ⟨200, fn_aF hf rfl rfl, ix_t g10, ⟨fn_aF hf rfl rfl, Or.inl ⟨_, hf.2 106 83 157 rfl, fj_gd h9 fun g12 h11 => ⟨200, fn_aF hf rfl rfl, ix_t g12, ⟨fn_aF hf rfl rfl, Or.inl ⟨_, hf.2 106 83 157 rfl, fj_gd h11 fun g14 h13 => ⟨200, fn_aF hf rfl rfl, ix_t g14, fj_gd h13 fun g16 h15 => ⟨12, fn_aF hf rfl rfl, ix_t g16, ⟨fn_aF hf rfl rfl, ⟨fn_aF hf rfl rfl, fj_bd h15 fun q17 e18 h19 => ⟨Nat.le_of_ble_eq_true rfl, fn_aF hf rfl rfl, ⟨hf, some (.int q17.1), q17.2, gp_X12_nextPair (n := n) (r := r)  e18, fun _ => fj_bd h19 fun q20 e21 h22 => ⟨Nat.le_of_ble_eq_true rfl, fn_aF hf rfl rfl, ⟨hf, some (.int q20.1), q20.2, gp_X12_nextPair (n := n) (r := r)  e21, fun _ => hK _ h22 _ hQ⟩⟩⟩⟩⟩⟩⟩⟩⟩⟩⟩⟩⟩⟩⟩⟩⟩⟩⟩⟩⟩⟩)⟩)))
theorem l_X12_join {n : Nat} {r : Nat → Nat → Option Nat} (hf : fn_F n r) (s : S_X12_join) (q : Int32 × fm_) (h : am_lp (st_X12_join) s = some q) : P_X12_join n r s q :=
  am_lp_snd (P := P_X12_join n r) (fun K hK s q h => match s, h with
    | Sum.inl ((x1, x2, m)), h => t_X12_join_7 hf (fun s => hK s q) x1 x2 m h
    | Sum.inr ((x1, x2, x3, x4, m)), h => t_X12_join_30 hf (fun s => hK s q) x1 x2 x3 x4 m h) s q h
set_option maxRecDepth 100000 in
theorem t_X12_join {n : Nat} {r : Nat → Nat → Option Nat} (hf : fn_F n r) {q : Int32 × fm_} (p1 : Int32) {m : fm_}
  (h : f_X12_join p1 m = some q) {Q : Option Value → am_W → Prop} (hQ : Q (en_v q).1 (mk_ n r q.2)) : am_T m_X12_join sp_X12_join n Q 0 [some (.ref 106), some (.int p1), none, none, none] [] (mk_ n r m) :=
  am_T.wp sm_X12_join (K := am_T m_X12_join sp_X12_join n Q) (cuts := [7, 30]) (fun _ _ _ _ h => h) 7
    (⟨fn_aF hf rfl rfl, l_X12_join hf _ _ h _ _ _ hQ⟩)
noncomputable def G_X12_join (n : Nat) (r : Nat → Nat → Option Nat) (as : List Value) (m : fm_) : Option (Option Value × fm_) := match as with
  | [.ref x0, .int p1] => gd_ (Nat.beq x0 106) ((f_X12_join p1 m).map en_v)
  | _ => none
set_option maxRecDepth 100000 in
theorem gp_X12_join {n : Nat} {r : Nat → Nat → Option Nat}  {p1 : Int32} {m : fm_} {q : Int32 × fm_}  (e : f_X12_join p1 m = some q) : G_X12_join n r [.ref 106, .int p1] m = some (en_v q) := by
  show (gd_ (Nat.beq 106 106) ((f_X12_join p1 m).map en_v)) = _
  exact fn_gd rfl (fn_mp e)
set_option maxRecDepth 100000 in
theorem ok_X12_join : am_mok 12 265 m_X12_join = true := by decide +kernel
set_option maxRecDepth 100000 in
theorem c_X12_join (l : Launch) {g : am_G} (hg : fx_ l g) : am_Met l g 2 265 (fn_s fn_F G_X12_join) := by
  refine am_sound (own := 12) (M := m_X12_join) (SP := sp_X12_join) hg.1 (by decide +kernel) ok_X12_join (by decide +kernel) ?_ (fun q hq hk => absurd hk (am_no61 (M := m_X12_join) (by decide +kernel) q hq)) (fn_ext l _ rfl g 12) (Or.inl (by decide +kernel)) ?_ ?_
  · intro q hq hk
    have hm : q.2.2.2.1 ∈ am_cs m_X12_join := am_cs_in hq hk
    rw [show am_cs m_X12_join = [264, 264, 264, 264] by decide +kernel] at hm
    have hm : q.2.2.2.1 ∈ [264] := (List.all_eq_true.mp (show ([264, 264, 264, 264] : List Nat).all (fun a => decide (a ∈ ([264] : List Nat))) = true by decide +kernel) _ hm |> of_decide_eq_true)
    simp only [List.mem_cons, List.not_mem_nil, or_false] at hm
    rcases hm with hm
    · rw [hm]; exact ⟨1, by omega, c_X12_nextPair l hg⟩
  · intro as w K h
    obtain ⟨hf, y, m1, hG, hK⟩ := h
    unfold G_X12_join at hG
    split at hG
    · exact Nat.le_of_ble_eq_true rfl
    · cases hG
  · intro as w K h
    obtain ⟨n, i0, l0, r⟩ := w
    obtain ⟨hf, y, m1, hG, hK⟩ := h
    unfold G_X12_join at hG
    split at hG
    · next x0 p1 =>
      obtain ⟨hx1, hG1⟩ := gd_u hG
      obtain rfl := Nat.eq_of_beq_eq_true hx1
      obtain ⟨q, hq, he⟩ := fn_mu hG1
      obtain ⟨rfl, rfl⟩ := Prod.mk.inj he
      exact t_X12_join  hf  p1 (m := (i0, l0)) hq hK
    · cases hG

/-! == X12_sum == -/
abbrev S_X12_sum : Type := (Int32 × Int32 × Int32 × fm_)
noncomputable def st_X12_sum (s : S_X12_sum) : Option (S_X12_sum ⊕ (Int32 × fm_)) := match s with
  | (x1, x2, x3, m) =>
    (if (gi_ m 106 86) ≤ x3 then
((some (Sum.inr (x2, m))))
else
(if ((x1 >>> (x3 &&& 31)) &&& 1) = 1 then
(gd_ (ix_ x3 12)
((some (Sum.inl ((x1, (x2 + (-(gi_ m 158 (Int32.toNatClampNeg x3)))), (x3 + 1), m))))))
else
(gd_ (ix_ x3 12)
((some (Sum.inl ((x1, (x2 + (gi_ m 158 (Int32.toNatClampNeg x3))), (x3 + 1), m))))))))
noncomputable def f_X12_sum_4 (x1 : Int32) (x2 : Int32) (x3 : Int32) (m : fm_) : Option (Int32 × fm_) := am_lp (st_X12_sum) ((x1, x2, x3, m))
theorem e_X12_sum_4 (x1 : Int32) (x2 : Int32) (x3 : Int32) (m : fm_) : f_X12_sum_4 x1 x2 x3 m =
(if (gi_ m 106 86) ≤ x3 then
((some (x2, m)))
else
(if ((x1 >>> (x3 &&& 31)) &&& 1) = 1 then
(gd_ (ix_ x3 12)
((f_X12_sum_4 x1 (x2 + (-(gi_ m 158 (Int32.toNatClampNeg x3)))) (x3 + 1) m)))
else
(gd_ (ix_ x3 12)
((f_X12_sum_4 x1 (x2 + (gi_ m 158 (Int32.toNatClampNeg x3))) (x3 + 1) m))))) :=
  (am_lp_eq _ _).trans (fe_if (rfl) (fe_if (fe_gd (rfl)) (fe_gd (rfl))))
noncomputable def f_X12_sum (p1 : Int32) (m : fm_) : Option (Int32 × fm_) :=
  ((f_X12_sum_4 p1 0 0 m))
def sp_X12_sum : am_S := fn_sp []
theorem sm_X12_sum : am_Smono (sp_X12_sum) := fn_sp_mono _
def P_X12_sum (n : Nat) (r : Nat → Nat → Option Nat) (s : S_X12_sum) (q : Int32 × fm_) : Prop := match s with
  | (x1, x2, x3, m) => ∀ (Q : Option Value → am_W → Prop), Q (en_i q).1 (mk_ n r q.2) → am_T m_X12_sum sp_X12_sum n Q 4 [some (.ref 106), some (.int x1), some (.int x2), some (.int x3)] [] (mk_ n r m)
set_option maxRecDepth 100000 in
theorem t_X12_sum_4 {n : Nat} {r : Nat → Nat → Option Nat} (hf : fn_F n r) {K : S_X12_sum → Option (Int32 × fm_)} {q : Int32 × fm_} (hK : ∀ s, K s = some q → P_X12_sum n r s q) (x1 : Int32) (x2 : Int32) (x3 : Int32) (m : fm_)
  (h : am_k K (st_X12_sum ((x1, x2, x3, m))) = some q) : P_X12_sum n r ((x1, x2, x3, m)) q := fun Q hQ =>
  am_T.wp sm_X12_sum (K := am_T m_X12_sum sp_X12_sum n Q) (cuts := [4]) (fun _ _ _ _ h => h) 24
    (⟨fn_aF hf rfl rfl, fj_if h (fun c1 h2 => ⟨rfl, fj_rt h2 hQ⟩) (fun c1 h2 => fj_in h2 (fun c3 h4 => ⟨fn_aF hf rfl rfl, Or.inl ⟨_, hf.2 106 84 158 rfl, fj_gd h4 fun g6 h5 => ⟨12, fn_aF hf rfl rfl, ix_t g6, hK _ h5 _ hQ⟩⟩⟩) (fun c3 h4 => ⟨fn_aF hf rfl rfl, Or.inl ⟨_, hf.2 106 84 158 rfl, fj_gd h4 fun g8 h7 => ⟨12, fn_aF hf rfl rfl, ix_t g8, hK _ h7 _ hQ⟩⟩⟩))⟩)
theorem l_X12_sum {n : Nat} {r : Nat → Nat → Option Nat} (hf : fn_F n r) (s : S_X12_sum) (q : Int32 × fm_) (h : am_lp (st_X12_sum) s = some q) : P_X12_sum n r s q :=
  am_lp_snd (P := P_X12_sum n r) (fun K hK s q h => match s, h with
    | (x1, x2, x3, m), h => t_X12_sum_4 hf (fun s => hK s q) x1 x2 x3 m h) s q h
set_option maxRecDepth 100000 in
theorem t_X12_sum {n : Nat} {r : Nat → Nat → Option Nat} (hf : fn_F n r) {q : Int32 × fm_} (p1 : Int32) {m : fm_}
  (h : f_X12_sum p1 m = some q) {Q : Option Value → am_W → Prop} (hQ : Q (en_i q).1 (mk_ n r q.2)) : am_T m_X12_sum sp_X12_sum n Q 0 [some (.ref 106), some (.int p1), none, none] [] (mk_ n r m) :=
  am_T.wp sm_X12_sum (K := am_T m_X12_sum sp_X12_sum n Q) (cuts := [4]) (fun _ _ _ _ h => h) 6
    (l_X12_sum hf _ _ h _ hQ)
noncomputable def G_X12_sum (n : Nat) (r : Nat → Nat → Option Nat) (as : List Value) (m : fm_) : Option (Option Value × fm_) := match as with
  | [.ref x0, .int p1] => gd_ (Nat.beq x0 106) ((f_X12_sum p1 m).map en_i)
  | _ => none
set_option maxRecDepth 100000 in
theorem gp_X12_sum {n : Nat} {r : Nat → Nat → Option Nat}  {p1 : Int32} {m : fm_} {q : Int32 × fm_}  (e : f_X12_sum p1 m = some q) : G_X12_sum n r [.ref 106, .int p1] m = some (en_i q) := by
  show (gd_ (Nat.beq 106 106) ((f_X12_sum p1 m).map en_i)) = _
  exact fn_gd rfl (fn_mp e)
set_option maxRecDepth 100000 in
theorem ok_X12_sum : am_mok 12 266 m_X12_sum = true := by decide +kernel
set_option maxRecDepth 100000 in
theorem c_X12_sum (l : Launch) {g : am_G} (hg : fx_ l g) : am_Met l g 0 266 (fn_s fn_F G_X12_sum) := by
  refine am_sound (own := 12) (M := m_X12_sum) (SP := sp_X12_sum) hg.1 (by decide +kernel) ok_X12_sum (by decide +kernel) ?_ (fun q hq hk => absurd hk (am_no61 (M := m_X12_sum) (by decide +kernel) q hq)) (fn_ext l _ rfl g 12) (Or.inl (by decide +kernel)) ?_ ?_
  · intro q hq hk
    have hm : q.2.2.2.1 ∈ am_cs m_X12_sum := am_cs_in hq hk
    rw [show am_cs m_X12_sum = [] by decide +kernel] at hm
    cases hm
  · intro as w K h
    obtain ⟨hf, y, m1, hG, hK⟩ := h
    unfold G_X12_sum at hG
    split at hG
    · exact Nat.le_of_ble_eq_true rfl
    · cases hG
  · intro as w K h
    obtain ⟨n, i0, l0, r⟩ := w
    obtain ⟨hf, y, m1, hG, hK⟩ := h
    unfold G_X12_sum at hG
    split at hG
    · next x0 p1 =>
      obtain ⟨hx1, hG1⟩ := gd_u hG
      obtain rfl := Nat.eq_of_beq_eq_true hx1
      obtain ⟨q, hq, he⟩ := fn_mu hG1
      obtain ⟨rfl, rfl⟩ := Prod.mk.inj he
      exact t_X12_sum  hf  p1 (m := (i0, l0)) hq hK
    · cases hG

