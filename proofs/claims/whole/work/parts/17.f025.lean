/-! == X12_begin == -/
noncomputable def f_X12_begin  (m : fm_) : Option (Int32 × fm_) :=
  (Option.bind (f_X12_next (si_ (si_ (si_ (si_ (si_ m 106 5 (gi_ m 106 1)) 106 1 0) 106 4 0) 106 2 0) 106 3 (-1))) fun q1 =>
((some (0, q1.2))))
def sp_X12_begin : am_S := fn_sp [(192, fn_F, G_X12_next)]
theorem sm_X12_begin : am_Smono (sp_X12_begin) := fn_sp_mono _
set_option maxRecDepth 100000 in
theorem t_X12_begin {n : Nat} {r : Nat → Nat → Option Nat} (hf : fn_F n r) {q : Int32 × fm_}  {m : fm_}
  (h : f_X12_begin  m = some q) {Q : Option Value → am_W → Prop} (hQ : Q (en_v q).1 (mk_ n r q.2)) : am_T m_X12_begin sp_X12_begin n Q 0 [some (.ref 106)] [] (mk_ n r m) :=
  am_T.wp sm_X12_begin (K := am_T m_X12_begin sp_X12_begin n Q) (cuts := []) (fun _ _ _ _ h => h) 20
    (⟨fn_aF hf rfl rfl, ⟨fn_aF hf rfl rfl, ⟨fn_aF hf rfl rfl, ⟨fn_aF hf rfl rfl, ⟨fn_aF hf rfl rfl, ⟨fn_aF hf rfl rfl, fh_bd h fun q1 e2 h3 => ⟨Nat.le_of_ble_eq_true rfl, fn_aF hf rfl rfl, ⟨hf, none, q1.2, gp_X12_next (n := n) (r := r)  e2, fun _ => ⟨rfl, ⟨rfl, fh_rt h3 hQ⟩⟩⟩⟩⟩⟩⟩⟩⟩⟩)
noncomputable def G_X12_begin (n : Nat) (r : Nat → Nat → Option Nat) (as : List Value) (m : fm_) : Option (Option Value × fm_) := match as with
  | [.ref x0] => gd_ (Nat.beq x0 106) ((f_X12_begin  m).map en_v)
  | _ => none
set_option maxRecDepth 100000 in
theorem gp_X12_begin {n : Nat} {r : Nat → Nat → Option Nat}   {m : fm_} {q : Int32 × fm_}  (e : f_X12_begin  m = some q) : G_X12_begin n r [.ref 106] m = some (en_v q) := by
  show (gd_ (Nat.beq 106 106) ((f_X12_begin  m).map en_v)) = _
  exact fn_gd rfl (fn_mp e)
set_option maxRecDepth 100000 in
theorem ok_X12_begin : am_mok 12 199 m_X12_begin = true := by decide +kernel
set_option maxRecDepth 100000 in
theorem c_X12_begin (l : Launch) {g : am_G} (hg : fx_ l g) : am_Met l g 3 199 (fn_s fn_F G_X12_begin) := by
  refine am_sound (own := 12) (M := m_X12_begin) (SP := sp_X12_begin) hg.1 (by decide +kernel) ok_X12_begin (by decide +kernel) ?_ (fun q hq hk => absurd hk (am_no61 (M := m_X12_begin) (by decide +kernel) q hq)) (fn_ext l _ rfl g 12) (Or.inl (by decide +kernel)) ?_ ?_
  · intro q hq hk
    have hm : q.2.2.2.1 ∈ am_cs m_X12_begin := am_cs_in hq hk
    rw [show am_cs m_X12_begin = [192] by decide +kernel] at hm
    have hm : q.2.2.2.1 ∈ [192] := (List.all_eq_true.mp (show ([192] : List Nat).all (fun a => decide (a ∈ ([192] : List Nat))) = true by decide +kernel) _ hm |> of_decide_eq_true)
    simp only [List.mem_cons, List.not_mem_nil, or_false] at hm
    rcases hm with hm
    · rw [hm]; exact ⟨2, by omega, c_X12_next l hg⟩
  · intro as w K h
    obtain ⟨hf, y, m1, hG, hK⟩ := h
    unfold G_X12_begin at hG
    split at hG
    · exact Nat.le_of_ble_eq_true rfl
    · cases hG
  · intro as w K h
    obtain ⟨n, i0, l0, r⟩ := w
    obtain ⟨hf, y, m1, hG, hK⟩ := h
    unfold G_X12_begin at hG
    split at hG
    · next x0 =>
      obtain ⟨hx1, hG1⟩ := gd_u hG
      obtain rfl := Nat.eq_of_beq_eq_true hx1
      obtain ⟨q, hq, he⟩ := fn_mu hG1
      obtain ⟨rfl, rfl⟩ := Prod.mk.inj he
      exact t_X12_begin  hf   (m := (i0, l0)) hq hK
    · cases hG

/-! == X12_readLine == -/
abbrev S_X12_readLine : Type := (fm_) ⊕ (fm_) ⊕ (fm_) ⊕ (fm_) ⊕ (fm_)
noncomputable def st_X12_readLine (s : S_X12_readLine) : Option (S_X12_readLine ⊕ (Int32 × fm_)) := match s with
  | Sum.inl ((m)) =>
    (Option.bind (f_X12_isWord 2054123109 m) fun q1 =>
(if q1.1 = 0 then
((some (Sum.inl (Sum.inr (Sum.inr (Sum.inl ((q1.2))))))))
else
(if (gi_ q1.2 106 18) = 0 then
(Option.bind (f_X12_next q1.2) fun q8 =>
(Option.bind (f_X12_point 0 q8.2) fun q11 =>
((some (Sum.inl (Sum.inr (Sum.inl (((si_ q11.2 106 18 (1 <<< (q11.1 &&& 31))))))))))))
else
((some (Sum.inl (Sum.inr (Sum.inr (Sum.inl ((q1.2)))))))))))
  | Sum.inr (Sum.inl ((m))) =>
    (if (gi_ m 106 2) = 0 then
(if (gi_ m 106 6) = 3 then
(Option.bind (f_X12_point (gi_ m 106 18) m) fun q5 =>
((some (Sum.inl (Sum.inr (Sum.inl (((si_ q5.2 106 18 ((gi_ m 106 18) ||| (1 <<< (q5.1 &&& 31))))))))))))
else
((some (Sum.inl (Sum.inr (Sum.inr (Sum.inr (Sum.inr ((m))))))))))
else
((some (Sum.inl (Sum.inr (Sum.inr (Sum.inr (Sum.inr ((m))))))))))
  | Sum.inr (Sum.inr (Sum.inl ((m)))) =>
    (Option.bind (f_X12_isWord 109270098342497 m) fun q1 =>
(if q1.1 = 0 then
((some (Sum.inl (Sum.inr (Sum.inr (Sum.inr (Sum.inl ((q1.2)))))))))
else
(if 8 ≤ (gi_ q1.2 106 17) then
((some (Sum.inl (Sum.inr (Sum.inr (Sum.inr (Sum.inl ((q1.2)))))))))
else
(Option.bind (f_X12_next q1.2) fun q8 =>
(Option.bind (f_X12_point (gi_ q8.2 106 19) q8.2) fun q11 =>
(gd_ (ix_ (gi_ q8.2 106 17) 8)
(gd_ (ix_ (gi_ q11.2 106 17) 8)
(Option.bind (f_X12_wantWord 1718775661 (si_ (si_ q11.2 111 (Int32.toNatClampNeg (gi_ q8.2 106 17)) q11.1) 106 19 ((gi_ q11.2 106 19) ||| (1 <<< ((gi_ (si_ q11.2 111 (Int32.toNatClampNeg (gi_ q8.2 106 17)) q11.1) 111 (Int32.toNatClampNeg (gi_ q11.2 106 17))) &&& 31))))) fun q18 =>
(Option.bind (f_X12_told 0 1440 q18.2) fun q21 =>
(gd_ (ix_ (gi_ q18.2 106 17) 8)
(Option.bind (f_X12_wantWord 29807 (si_ q21.2 112 (Int32.toNatClampNeg (gi_ q18.2 106 17)) q21.1)) fun q26 =>
(gd_ (ix_ (gi_ q26.2 106 17) 8)
(Option.bind (f_X12_told ((gi_ q26.2 112 (Int32.toNatClampNeg (gi_ q26.2 106 17))) + 1) 1440 q26.2) fun q31 =>
(gd_ (ix_ (gi_ q26.2 106 17) 8)
((some (Sum.inl (Sum.inr (Sum.inr (Sum.inr (Sum.inr (((si_ (si_ q31.2 113 (Int32.toNatClampNeg (gi_ q26.2 106 17)) q31.1) 106 17 ((gi_ q31.2 106 17) + 1)))))))))))))))))))))))))
  | Sum.inr (Sum.inr (Sum.inr (Sum.inl ((m))))) =>
    (Option.bind (f_X12_wrong 2 m) fun q1 =>
((some (Sum.inl (Sum.inr (Sum.inr (Sum.inr (Sum.inr ((q1.2))))))))))
  | Sum.inr (Sum.inr (Sum.inr (Sum.inr ((m))))) =>
    (Option.bind (f_X12_wantEnd m) fun q1 =>
((some (Sum.inr (0, (si_ q1.2 106 20 ((gi_ q1.2 106 20) + 1)))))))
noncomputable def f_X12_readLine_90  (m : fm_) : Option (Int32 × fm_) := am_lp (st_X12_readLine) (Sum.inl ((m)))
noncomputable def f_X12_readLine_122  (m : fm_) : Option (Int32 × fm_) := am_lp (st_X12_readLine) (Sum.inr (Sum.inl ((m))))
noncomputable def f_X12_readLine_159  (m : fm_) : Option (Int32 × fm_) := am_lp (st_X12_readLine) (Sum.inr (Sum.inr (Sum.inl ((m)))))
noncomputable def f_X12_readLine_290  (m : fm_) : Option (Int32 × fm_) := am_lp (st_X12_readLine) (Sum.inr (Sum.inr (Sum.inr (Sum.inl ((m))))))
noncomputable def f_X12_readLine_295  (m : fm_) : Option (Int32 × fm_) := am_lp (st_X12_readLine) (Sum.inr (Sum.inr (Sum.inr (Sum.inr ((m))))))
theorem e_X12_readLine_90  (m : fm_) : f_X12_readLine_90  m =
(Option.bind (f_X12_isWord 2054123109 m) fun q1 =>
(if q1.1 = 0 then
((f_X12_readLine_159 q1.2))
else
(if (gi_ q1.2 106 18) = 0 then
(Option.bind (f_X12_next q1.2) fun q8 =>
(Option.bind (f_X12_point 0 q8.2) fun q11 =>
((f_X12_readLine_122 (si_ q11.2 106 18 (1 <<< (q11.1 &&& 31)))))))
else
((f_X12_readLine_159 q1.2))))) :=
  (am_lp_eq _ _).trans (fe_bd fun q1 => (fe_if (rfl) (fe_if (fe_bd fun q8 => (fe_bd fun q11 => (rfl))) (rfl))))
theorem e_X12_readLine_122  (m : fm_) : f_X12_readLine_122  m =
(if (gi_ m 106 2) = 0 then
(if (gi_ m 106 6) = 3 then
(Option.bind (f_X12_point (gi_ m 106 18) m) fun q5 =>
((f_X12_readLine_122 (si_ q5.2 106 18 ((gi_ m 106 18) ||| (1 <<< (q5.1 &&& 31)))))))
else
((f_X12_readLine_295 m)))
else
((f_X12_readLine_295 m))) :=
  (am_lp_eq _ _).trans (fe_if (fe_if (fe_bd fun q5 => (rfl)) (rfl)) (rfl))
theorem e_X12_readLine_159  (m : fm_) : f_X12_readLine_159  m =
(Option.bind (f_X12_isWord 109270098342497 m) fun q1 =>
(if q1.1 = 0 then
((f_X12_readLine_290 q1.2))
else
(if 8 ≤ (gi_ q1.2 106 17) then
((f_X12_readLine_290 q1.2))
else
(Option.bind (f_X12_next q1.2) fun q8 =>
(Option.bind (f_X12_point (gi_ q8.2 106 19) q8.2) fun q11 =>
(gd_ (ix_ (gi_ q8.2 106 17) 8)
(gd_ (ix_ (gi_ q11.2 106 17) 8)
(Option.bind (f_X12_wantWord 1718775661 (si_ (si_ q11.2 111 (Int32.toNatClampNeg (gi_ q8.2 106 17)) q11.1) 106 19 ((gi_ q11.2 106 19) ||| (1 <<< ((gi_ (si_ q11.2 111 (Int32.toNatClampNeg (gi_ q8.2 106 17)) q11.1) 111 (Int32.toNatClampNeg (gi_ q11.2 106 17))) &&& 31))))) fun q18 =>
(Option.bind (f_X12_told 0 1440 q18.2) fun q21 =>
(gd_ (ix_ (gi_ q18.2 106 17) 8)
(Option.bind (f_X12_wantWord 29807 (si_ q21.2 112 (Int32.toNatClampNeg (gi_ q18.2 106 17)) q21.1)) fun q26 =>
(gd_ (ix_ (gi_ q26.2 106 17) 8)
(Option.bind (f_X12_told ((gi_ q26.2 112 (Int32.toNatClampNeg (gi_ q26.2 106 17))) + 1) 1440 q26.2) fun q31 =>
(gd_ (ix_ (gi_ q26.2 106 17) 8)
((f_X12_readLine_295 (si_ (si_ q31.2 113 (Int32.toNatClampNeg (gi_ q26.2 106 17)) q31.1) 106 17 ((gi_ q31.2 106 17) + 1)))))))))))))))))) :=
  (am_lp_eq _ _).trans (fe_bd fun q1 => (fe_if (rfl) (fe_if (rfl) (fe_bd fun q8 => (fe_bd fun q11 => (fe_gd (fe_gd (fe_bd fun q18 => (fe_bd fun q21 => (fe_gd (fe_bd fun q26 => (fe_gd (fe_bd fun q31 => (fe_gd (rfl)))))))))))))))
theorem e_X12_readLine_290  (m : fm_) : f_X12_readLine_290  m =
(Option.bind (f_X12_wrong 2 m) fun q1 =>
((f_X12_readLine_295 q1.2))) :=
  (am_lp_eq _ _).trans (fe_bd fun q1 => (rfl))
theorem e_X12_readLine_295  (m : fm_) : f_X12_readLine_295  m =
(Option.bind (f_X12_wantEnd m) fun q1 =>
((some (0, (si_ q1.2 106 20 ((gi_ q1.2 106 20) + 1)))))) :=
  (am_lp_eq _ _).trans (fe_bd fun q1 => (rfl))
noncomputable def f_X12_readLine  (m : fm_) : Option (Int32 × fm_) :=
  (Option.bind (f_X12_isWord 7823737 m) fun q1 =>
(if q1.1 = 0 then
((f_X12_readLine_90 q1.2))
else
(if 24 ≤ (gi_ q1.2 106 16) then
((f_X12_readLine_90 q1.2))
else
(Option.bind (f_X12_next q1.2) fun q8 =>
(Option.bind (f_X12_point 0 q8.2) fun q11 =>
(gd_ (ix_ (gi_ q8.2 106 16) 24)
(gd_ (ix_ (gi_ q11.2 106 16) 24)
(Option.bind (f_X12_point (1 <<< ((gi_ (si_ q11.2 108 (Int32.toNatClampNeg (gi_ q8.2 106 16)) q11.1) 108 (Int32.toNatClampNeg (gi_ q11.2 106 16))) &&& 31)) (si_ q11.2 108 (Int32.toNatClampNeg (gi_ q8.2 106 16)) q11.1)) fun q18 =>
(gd_ (ix_ (gi_ q11.2 106 16) 24)
(Option.bind (f_X12_told 1 99 (si_ q18.2 109 (Int32.toNatClampNeg (gi_ q11.2 106 16)) q18.1)) fun q23 =>
(gd_ (ix_ (gi_ q18.2 106 16) 24)
((f_X12_readLine_295 (si_ (si_ q23.2 110 (Int32.toNatClampNeg (gi_ q18.2 106 16)) q23.1) 106 16 ((gi_ q23.2 106 16) + 1)))))))))))))))
def sp_X12_readLine : am_S := fn_sp [(194, fn_F, G_X12_isWord), (192, fn_F, G_X12_next), (197, fn_F, G_X12_point), (196, fn_F, G_X12_told), (195, fn_F, G_X12_wantWord), (193, fn_F, G_X12_wrong), (198, fn_F, G_X12_wantEnd)]
theorem sm_X12_readLine : am_Smono (sp_X12_readLine) := fn_sp_mono _
def P_X12_readLine (n : Nat) (r : Nat → Nat → Option Nat) (s : S_X12_readLine) (q : Int32 × fm_) : Prop := match s with
  | Sum.inl ((m)) => ∀ (Q : Option Value → am_W → Prop), Q (en_v q).1 (mk_ n r q.2) → am_T m_X12_readLine sp_X12_readLine n Q 90 [some (.ref 106)] [] (mk_ n r m)
  | Sum.inr (Sum.inl ((m))) => ∀ (Q : Option Value → am_W → Prop), Q (en_v q).1 (mk_ n r q.2) → am_T m_X12_readLine sp_X12_readLine n Q 122 [some (.ref 106)] [] (mk_ n r m)
  | Sum.inr (Sum.inr (Sum.inl ((m)))) => ∀ (Q : Option Value → am_W → Prop), Q (en_v q).1 (mk_ n r q.2) → am_T m_X12_readLine sp_X12_readLine n Q 159 [some (.ref 106)] [] (mk_ n r m)
  | Sum.inr (Sum.inr (Sum.inr (Sum.inl ((m))))) => ∀ (Q : Option Value → am_W → Prop), Q (en_v q).1 (mk_ n r q.2) → am_T m_X12_readLine sp_X12_readLine n Q 290 [some (.ref 106)] [] (mk_ n r m)
  | Sum.inr (Sum.inr (Sum.inr (Sum.inr ((m))))) => ∀ (Q : Option Value → am_W → Prop), Q (en_v q).1 (mk_ n r q.2) → am_T m_X12_readLine sp_X12_readLine n Q 295 [some (.ref 106)] [] (mk_ n r m)
set_option maxRecDepth 100000 in
theorem t_X12_readLine_90 {n : Nat} {r : Nat → Nat → Option Nat} (hf : fn_F n r) {K : S_X12_readLine → Option (Int32 × fm_)} {q : Int32 × fm_} (hK : ∀ s, K s = some q → P_X12_readLine n r s q)  (m : fm_)
  (h : am_k K (st_X12_readLine (Sum.inl ((m)))) = some q) : P_X12_readLine n r (Sum.inl ((m))) q := fun Q hQ =>
  am_T.wp sm_X12_readLine (K := am_T m_X12_readLine sp_X12_readLine n Q) (cuts := [90, 122, 159, 290, 295]) (fun _ _ _ _ h => h) 18
    (fj_bd h fun q1 e2 h3 => ⟨Nat.le_of_ble_eq_true rfl, fn_aF hf rfl rfl, ⟨hf, some (.int q1.1), q1.2, gp_X12_isWord (n := n) (r := r)  e2, fun _ => fj_if h3 (fun c4 h5 => hK _ h5 _ hQ) (fun c4 h5 => ⟨fn_aF hf rfl rfl, fj_in h5 (fun c6 h7 => hK _ h7 _ hQ) (fun c6 h7 => fj_bd h7 fun q8 e9 h10 => ⟨Nat.le_of_ble_eq_true rfl, fn_aF hf rfl rfl, ⟨hf, none, q8.2, gp_X12_next (n := n) (r := r)  e9, fun _ => ⟨rfl, fj_bd h10 fun q11 e12 h13 => ⟨Nat.le_of_ble_eq_true rfl, fn_aF hf rfl rfl, ⟨hf, some (.int q11.1), q11.2, gp_X12_point (n := n) (r := r)  e12, fun _ => ⟨fn_aF hf rfl rfl, hK _ h13 _ hQ⟩⟩⟩⟩⟩⟩)⟩)⟩⟩)
set_option maxRecDepth 100000 in
theorem t_X12_readLine_122 {n : Nat} {r : Nat → Nat → Option Nat} (hf : fn_F n r) {K : S_X12_readLine → Option (Int32 × fm_)} {q : Int32 × fm_} (hK : ∀ s, K s = some q → P_X12_readLine n r s q)  (m : fm_)
  (h : am_k K (st_X12_readLine (Sum.inr (Sum.inl ((m))))) = some q) : P_X12_readLine n r (Sum.inr (Sum.inl ((m)))) q := fun Q hQ =>
  am_T.wp sm_X12_readLine (K := am_T m_X12_readLine sp_X12_readLine n Q) (cuts := [90, 122, 159, 290, 295]) (fun _ _ _ _ h => h) 21
    (⟨fn_aF hf rfl rfl, fj_in h (fun c1 h2 => hK _ h2 _ hQ) (fun c1 h2 => ⟨fn_aF hf rfl rfl, fj_in h2 (fun c3 h4 => hK _ h4 _ hQ) (fun c3 h4 => ⟨fn_aF hf rfl rfl, ⟨fn_aF hf rfl rfl, fj_bd h4 fun q5 e6 h7 => ⟨Nat.le_of_ble_eq_true rfl, fn_aF hf rfl rfl, ⟨hf, some (.int q5.1), q5.2, gp_X12_point (n := n) (r := r)  e6, fun _ => ⟨fn_aF hf rfl rfl, hK _ h7 _ hQ⟩⟩⟩⟩⟩)⟩)⟩)
set_option maxRecDepth 100000 in
theorem t_X12_readLine_159 {n : Nat} {r : Nat → Nat → Option Nat} (hf : fn_F n r) {K : S_X12_readLine → Option (Int32 × fm_)} {q : Int32 × fm_} (hK : ∀ s, K s = some q → P_X12_readLine n r s q)  (m : fm_)
  (h : am_k K (st_X12_readLine (Sum.inr (Sum.inr (Sum.inl ((m)))))) = some q) : P_X12_readLine n r (Sum.inr (Sum.inr (Sum.inl ((m))))) q := fun Q hQ =>
  am_T.wp sm_X12_readLine (K := am_T m_X12_readLine sp_X12_readLine n Q) (cuts := [90, 122, 159, 290, 295]) (fun _ _ _ _ h => h) 70
    (fj_bd h fun q1 e2 h3 => ⟨Nat.le_of_ble_eq_true rfl, fn_aF hf rfl rfl, ⟨hf, some (.int q1.1), q1.2, gp_X12_isWord (n := n) (r := r)  e2, fun _ => fj_if h3 (fun c4 h5 => hK _ h5 _ hQ) (fun c4 h5 => ⟨fn_aF hf rfl rfl, fj_if h5 (fun c6 h7 => hK _ h7 _ hQ) (fun c6 h7 => fj_bd h7 fun q8 e9 h10 => ⟨Nat.le_of_ble_eq_true rfl, fn_aF hf rfl rfl, ⟨hf, none, q8.2, gp_X12_next (n := n) (r := r)  e9, fun _ => ⟨rfl, ⟨fn_aF hf rfl rfl, Or.inl ⟨_, hf.2 106 13 111 rfl, ⟨fn_aF hf rfl rfl, ⟨fn_aF hf rfl rfl, fj_bd h10 fun q11 e12 h13 => ⟨Nat.le_of_ble_eq_true rfl, fn_aF hf rfl rfl, ⟨hf, some (.int q11.1), q11.2, gp_X12_point (n := n) (r := r)  e12, fun _ => fj_gd h13 fun g15 h14 => ⟨8, fn_aF hf rfl rfl, ix_t g15, ⟨fn_aF hf rfl rfl, ⟨fn_aF hf rfl rfl, Or.inl ⟨_, hf.2 106 13 111 rfl, ⟨fn_aF hf rfl rfl, fj_gd h14 fun g17 h16 => ⟨8, fn_aF hf rfl rfl, ix_t g17, ⟨fn_aF hf rfl rfl, fj_bd h16 fun q18 e19 h20 => ⟨Nat.le_of_ble_eq_true rfl, fn_aF hf rfl rfl, ⟨hf, none, q18.2, gp_X12_wantWord (n := n) (r := r)  e19, fun _ => ⟨rfl, ⟨fn_aF hf rfl rfl, Or.inl ⟨_, hf.2 106 14 112 rfl, ⟨fn_aF hf rfl rfl, fj_bd h20 fun q21 e22 h23 => ⟨Nat.le_of_ble_eq_true rfl, fn_aF hf rfl rfl, ⟨hf, some (.int q21.1), q21.2, gp_X12_told (n := n) (r := r)  e22, fun _ => fj_gd h23 fun g25 h24 => ⟨8, fn_aF hf rfl rfl, ix_t g25, fj_bd h24 fun q26 e27 h28 => ⟨Nat.le_of_ble_eq_true rfl, fn_aF hf rfl rfl, ⟨hf, none, q26.2, gp_X12_wantWord (n := n) (r := r)  e27, fun _ => ⟨rfl, ⟨fn_aF hf rfl rfl, Or.inl ⟨_, hf.2 106 15 113 rfl, ⟨fn_aF hf rfl rfl, ⟨fn_aF hf rfl rfl, Or.inl ⟨_, hf.2 106 14 112 rfl, ⟨fn_aF hf rfl rfl, fj_gd h28 fun g30 h29 => ⟨8, fn_aF hf rfl rfl, ix_t g30, fj_bd h29 fun q31 e32 h33 => ⟨Nat.le_of_ble_eq_true rfl, fn_aF hf rfl rfl, ⟨hf, some (.int q31.1), q31.2, gp_X12_told (n := n) (r := r)  e32, fun _ => fj_gd h33 fun g35 h34 => ⟨8, fn_aF hf rfl rfl, ix_t g35, ⟨fn_aF hf rfl rfl, ⟨fn_aF hf rfl rfl, hK _ h34 _ hQ⟩⟩⟩⟩⟩⟩⟩⟩⟩⟩⟩⟩⟩⟩⟩⟩⟩⟩⟩⟩⟩⟩⟩⟩⟩⟩⟩⟩⟩⟩⟩⟩⟩⟩⟩⟩⟩⟩⟩⟩)⟩)⟩⟩)
set_option maxRecDepth 100000 in
theorem t_X12_readLine_290 {n : Nat} {r : Nat → Nat → Option Nat} (hf : fn_F n r) {K : S_X12_readLine → Option (Int32 × fm_)} {q : Int32 × fm_} (hK : ∀ s, K s = some q → P_X12_readLine n r s q)  (m : fm_)
  (h : am_k K (st_X12_readLine (Sum.inr (Sum.inr (Sum.inr (Sum.inl ((m))))))) = some q) : P_X12_readLine n r (Sum.inr (Sum.inr (Sum.inr (Sum.inl ((m)))))) q := fun Q hQ =>
  am_T.wp sm_X12_readLine (K := am_T m_X12_readLine sp_X12_readLine n Q) (cuts := [90, 122, 159, 290, 295]) (fun _ _ _ _ h => h) 5
    (fj_bd h fun q1 e2 h3 => ⟨Nat.le_of_ble_eq_true rfl, fn_aF hf rfl rfl, ⟨hf, none, q1.2, gp_X12_wrong (n := n) (r := r)  e2, fun _ => ⟨rfl, hK _ h3 _ hQ⟩⟩⟩)
set_option maxRecDepth 100000 in
theorem t_X12_readLine_295 {n : Nat} {r : Nat → Nat → Option Nat} (hf : fn_F n r) {K : S_X12_readLine → Option (Int32 × fm_)} {q : Int32 × fm_} (hK : ∀ s, K s = some q → P_X12_readLine n r s q)  (m : fm_)
  (h : am_k K (st_X12_readLine (Sum.inr (Sum.inr (Sum.inr (Sum.inr ((m))))))) = some q) : P_X12_readLine n r (Sum.inr (Sum.inr (Sum.inr (Sum.inr ((m)))))) q := fun Q hQ =>
  am_T.wp sm_X12_readLine (K := am_T m_X12_readLine sp_X12_readLine n Q) (cuts := [90, 122, 159, 290, 295]) (fun _ _ _ _ h => h) 10
    (fj_bd h fun q1 e2 h3 => ⟨Nat.le_of_ble_eq_true rfl, fn_aF hf rfl rfl, ⟨hf, none, q1.2, gp_X12_wantEnd (n := n) (r := r)  e2, fun _ => ⟨rfl, ⟨fn_aF hf rfl rfl, ⟨fn_aF hf rfl rfl, ⟨rfl, fj_rt h3 hQ⟩⟩⟩⟩⟩⟩)
theorem l_X12_readLine {n : Nat} {r : Nat → Nat → Option Nat} (hf : fn_F n r) (s : S_X12_readLine) (q : Int32 × fm_) (h : am_lp (st_X12_readLine) s = some q) : P_X12_readLine n r s q :=
  am_lp_snd (P := P_X12_readLine n r) (fun K hK s q h => match s, h with
    | Sum.inl ((m)), h => t_X12_readLine_90 hf (fun s => hK s q)  m h
    | Sum.inr (Sum.inl ((m))), h => t_X12_readLine_122 hf (fun s => hK s q)  m h
    | Sum.inr (Sum.inr (Sum.inl ((m)))), h => t_X12_readLine_159 hf (fun s => hK s q)  m h
    | Sum.inr (Sum.inr (Sum.inr (Sum.inl ((m))))), h => t_X12_readLine_290 hf (fun s => hK s q)  m h
    | Sum.inr (Sum.inr (Sum.inr (Sum.inr ((m))))), h => t_X12_readLine_295 hf (fun s => hK s q)  m h) s q h
set_option maxRecDepth 100000 in
theorem t_X12_readLine {n : Nat} {r : Nat → Nat → Option Nat} (hf : fn_F n r) {q : Int32 × fm_}  {m : fm_}
  (h : f_X12_readLine  m = some q) {Q : Option Value → am_W → Prop} (hQ : Q (en_v q).1 (mk_ n r q.2)) : am_T m_X12_readLine sp_X12_readLine n Q 0 [some (.ref 106)] [] (mk_ n r m) :=
  am_T.wp sm_X12_readLine (K := am_T m_X12_readLine sp_X12_readLine n Q) (cuts := [90, 122, 159, 290, 295]) (fun _ _ _ _ h => h) 50
    (fh_bd h fun q1 e2 h3 => ⟨Nat.le_of_ble_eq_true rfl, fn_aF hf rfl rfl, ⟨hf, some (.int q1.1), q1.2, gp_X12_isWord (n := n) (r := r)  e2, fun _ => fh_if h3 (fun c4 h5 => l_X12_readLine hf _ _ h5 _ hQ) (fun c4 h5 => ⟨fn_aF hf rfl rfl, fh_if h5 (fun c6 h7 => l_X12_readLine hf _ _ h7 _ hQ) (fun c6 h7 => fh_bd h7 fun q8 e9 h10 => ⟨Nat.le_of_ble_eq_true rfl, fn_aF hf rfl rfl, ⟨hf, none, q8.2, gp_X12_next (n := n) (r := r)  e9, fun _ => ⟨rfl, ⟨fn_aF hf rfl rfl, Or.inl ⟨_, hf.2 106 10 108 rfl, ⟨fn_aF hf rfl rfl, fh_bd h10 fun q11 e12 h13 => ⟨Nat.le_of_ble_eq_true rfl, fn_aF hf rfl rfl, ⟨hf, some (.int q11.1), q11.2, gp_X12_point (n := n) (r := r)  e12, fun _ => fh_gd h13 fun g15 h14 => ⟨24, fn_aF hf rfl rfl, ix_t g15, ⟨fn_aF hf rfl rfl, Or.inl ⟨_, hf.2 106 11 109 rfl, ⟨fn_aF hf rfl rfl, ⟨fn_aF hf rfl rfl, Or.inl ⟨_, hf.2 106 10 108 rfl, ⟨fn_aF hf rfl rfl, fh_gd h14 fun g17 h16 => ⟨24, fn_aF hf rfl rfl, ix_t g17, fh_bd h16 fun q18 e19 h20 => ⟨Nat.le_of_ble_eq_true rfl, fn_aF hf rfl rfl, ⟨hf, some (.int q18.1), q18.2, gp_X12_point (n := n) (r := r)  e19, fun _ => fh_gd h20 fun g22 h21 => ⟨24, fn_aF hf rfl rfl, ix_t g22, ⟨fn_aF hf rfl rfl, Or.inl ⟨_, hf.2 106 12 110 rfl, ⟨fn_aF hf rfl rfl, fh_bd h21 fun q23 e24 h25 => ⟨Nat.le_of_ble_eq_true rfl, fn_aF hf rfl rfl, ⟨hf, some (.int q23.1), q23.2, gp_X12_told (n := n) (r := r)  e24, fun _ => fh_gd h25 fun g27 h26 => ⟨24, fn_aF hf rfl rfl, ix_t g27, ⟨fn_aF hf rfl rfl, ⟨fn_aF hf rfl rfl, l_X12_readLine hf _ _ h26 _ hQ⟩⟩⟩⟩⟩⟩⟩⟩⟩⟩⟩⟩⟩⟩⟩⟩⟩⟩⟩⟩⟩⟩⟩⟩⟩⟩⟩)⟩)⟩⟩)
noncomputable def G_X12_readLine (n : Nat) (r : Nat → Nat → Option Nat) (as : List Value) (m : fm_) : Option (Option Value × fm_) := match as with
  | [.ref x0] => gd_ (Nat.beq x0 106) ((f_X12_readLine  m).map en_v)
  | _ => none
set_option maxRecDepth 100000 in
theorem gp_X12_readLine {n : Nat} {r : Nat → Nat → Option Nat}   {m : fm_} {q : Int32 × fm_}  (e : f_X12_readLine  m = some q) : G_X12_readLine n r [.ref 106] m = some (en_v q) := by
  show (gd_ (Nat.beq 106 106) ((f_X12_readLine  m).map en_v)) = _
  exact fn_gd rfl (fn_mp e)
set_option maxRecDepth 100000 in
theorem ok_X12_readLine : am_mok 12 200 m_X12_readLine = true := by decide +kernel
set_option maxRecDepth 100000 in
theorem c_X12_readLine (l : Launch) {g : am_G} (hg : fx_ l g) : am_Met l g 4 200 (fn_s fn_F G_X12_readLine) := by
  refine am_sound (own := 12) (M := m_X12_readLine) (SP := sp_X12_readLine) hg.1 (by decide +kernel) ok_X12_readLine (by decide +kernel) ?_ (fun q hq hk => absurd hk (am_no61 (M := m_X12_readLine) (by decide +kernel) q hq)) (fn_ext l _ rfl g 12) (Or.inl (by decide +kernel)) ?_ ?_
  · intro q hq hk
    have hm : q.2.2.2.1 ∈ am_cs m_X12_readLine := am_cs_in hq hk
    rw [show am_cs m_X12_readLine = [194, 192, 197, 197, 196, 194, 192, 197, 197, 194, 192, 197, 195, 196, 195, 196, 193, 198] by decide +kernel] at hm
    have hm : q.2.2.2.1 ∈ [192, 193, 194, 195, 196, 197, 198] := (List.all_eq_true.mp (show ([194, 192, 197, 197, 196, 194, 192, 197, 197, 194, 192, 197, 195, 196, 195, 196, 193, 198] : List Nat).all (fun a => decide (a ∈ ([192, 193, 194, 195, 196, 197, 198] : List Nat))) = true by decide +kernel) _ hm |> of_decide_eq_true)
    simp only [List.mem_cons, List.not_mem_nil, or_false] at hm
    rcases hm with hm | hm | hm | hm | hm | hm | hm
    · rw [hm]; exact ⟨2, by omega, c_X12_next l hg⟩
    · rw [hm]; exact ⟨0, by omega, c_X12_wrong l hg⟩
    · rw [hm]; exact ⟨0, by omega, c_X12_isWord l hg⟩
    · rw [hm]; exact ⟨3, by omega, c_X12_wantWord l hg⟩
    · rw [hm]; exact ⟨3, by omega, c_X12_told l hg⟩
    · rw [hm]; exact ⟨3, by omega, c_X12_point l hg⟩
    · rw [hm]; exact ⟨3, by omega, c_X12_wantEnd l hg⟩
  · intro as w K h
    obtain ⟨hf, y, m1, hG, hK⟩ := h
    unfold G_X12_readLine at hG
    split at hG
    · exact Nat.le_of_ble_eq_true rfl
    · cases hG
  · intro as w K h
    obtain ⟨n, i0, l0, r⟩ := w
    obtain ⟨hf, y, m1, hG, hK⟩ := h
    unfold G_X12_readLine at hG
    split at hG
    · next x0 =>
      obtain ⟨hx1, hG1⟩ := gd_u hG
      obtain rfl := Nat.eq_of_beq_eq_true hx1
      obtain ⟨q, hq, he⟩ := fn_mu hG1
      obtain ⟨rfl, rfl⟩ := Prod.mk.inj he
      exact t_X12_readLine  hf   (m := (i0, l0)) hq hK
    · cases hG

/-! == X12_measure == -/
abbrev S_X12_measure : Type := (Int32 × fm_) ⊕ (Int32 × fm_) ⊕ (Int32 × fm_) ⊕ (Int32 × fm_) ⊕ (Int32 × Int32 × fm_) ⊕ (Int32 × Int32 × Int32 × fm_)
noncomputable def st_X12_measure (s : S_X12_measure) : Option (S_X12_measure ⊕ (Int32 × fm_)) := match s with
  | Sum.inl ((x1, m)) =>
    (if 144 ≤ x1 then
((some (Sum.inl (Sum.inr (Sum.inl ((0, m)))))))
else
(gd_ (ix_ x1 144)
((some (Sum.inl (Sum.inl (((x1 + 1), (si_ m 121 (Int32.toNatClampNeg x1) 1000000)))))))))
  | Sum.inr (Sum.inl ((x1, m))) =>
    (if (gi_ m 106 29) ≤ x1 then
((some (Sum.inl (Sum.inr (Sum.inr (Sum.inl ((0, m))))))))
else
(gd_ (ix_ x1 24)
(gd_ (ix_ x1 24)
(gd_ (ix_ x1 24)
(gd_ (ix_ ((12 * (gi_ m 114 (Int32.toNatClampNeg x1))) + (gi_ m 115 (Int32.toNatClampNeg x1))) 144)
(if (gi_ m 121 (Int32.toNatClampNeg ((12 * (gi_ m 114 (Int32.toNatClampNeg x1))) + (gi_ m 115 (Int32.toNatClampNeg x1))))) ≤ (gi_ m 116 (Int32.toNatClampNeg x1)) then
(gd_ (ix_ x1 24)
(gd_ (ix_ x1 24)
(gd_ (ix_ x1 24)
(gd_ (ix_ x1 24)
(gd_ (ix_ ((12 * (gi_ m 114 (Int32.toNatClampNeg x1))) + (gi_ m 115 (Int32.toNatClampNeg x1))) 144)
(gd_ (ix_ ((12 * (gi_ m 115 (Int32.toNatClampNeg x1))) + (gi_ m 114 (Int32.toNatClampNeg x1))) 144)
((some (Sum.inl (Sum.inr (Sum.inl (((x1 + 1), (si_ m 121 (Int32.toNatClampNeg ((12 * (gi_ m 115 (Int32.toNatClampNeg x1))) + (gi_ m 114 (Int32.toNatClampNeg x1)))) (gi_ m 121 (Int32.toNatClampNeg ((12 * (gi_ m 114 (Int32.toNatClampNeg x1))) + (gi_ m 115 (Int32.toNatClampNeg x1)))))))))))))))))))
else
(gd_ (ix_ x1 24)
(gd_ (ix_ x1 24)
(gd_ (ix_ ((12 * (gi_ m 114 (Int32.toNatClampNeg x1))) + (gi_ m 115 (Int32.toNatClampNeg x1))) 144)
(gd_ (ix_ x1 24)
(gd_ (ix_ x1 24)
(gd_ (ix_ x1 24)
(gd_ (ix_ x1 24)
(gd_ (ix_ ((12 * (gi_ m 114 (Int32.toNatClampNeg x1))) + (gi_ m 115 (Int32.toNatClampNeg x1))) 144)
(gd_ (ix_ ((12 * (gi_ m 115 (Int32.toNatClampNeg x1))) + (gi_ m 114 (Int32.toNatClampNeg x1))) 144)
((some (Sum.inl (Sum.inr (Sum.inl (((x1 + 1), (si_ (si_ m 121 (Int32.toNatClampNeg ((12 * (gi_ m 114 (Int32.toNatClampNeg x1))) + (gi_ m 115 (Int32.toNatClampNeg x1)))) (gi_ m 116 (Int32.toNatClampNeg x1))) 121 (Int32.toNatClampNeg ((12 * (gi_ m 115 (Int32.toNatClampNeg x1))) + (gi_ m 114 (Int32.toNatClampNeg x1)))) (gi_ (si_ m 121 (Int32.toNatClampNeg ((12 * (gi_ m 114 (Int32.toNatClampNeg x1))) + (gi_ m 115 (Int32.toNatClampNeg x1)))) (gi_ m 116 (Int32.toNatClampNeg x1))) 121 (Int32.toNatClampNeg ((12 * (gi_ m 114 (Int32.toNatClampNeg x1))) + (gi_ m 115 (Int32.toNatClampNeg x1))))))))))))))))))))))))))))
  | Sum.inr (Sum.inr (Sum.inl ((x1, m)))) =>
    (if 144 ≤ x1 then
((some (Sum.inl (Sum.inr (Sum.inr (Sum.inr (Sum.inl ((0, m)))))))))
else
(if (x1 / 12) = (x1 - x1 / 12 * 12) then
(gd_ (ix_ x1 144)
((some (Sum.inl (Sum.inr (Sum.inr (Sum.inl (((x1 + 1), (si_ m 120 (Int32.toNatClampNeg x1) 0))))))))))
else
(gd_ (ix_ x1 144)
(gd_ (ix_ x1 144)
((some (Sum.inl (Sum.inr (Sum.inr (Sum.inl (((x1 + 1), (si_ m 120 (Int32.toNatClampNeg x1) (gi_ m 121 (Int32.toNatClampNeg x1)))))))))))))))
  | Sum.inr (Sum.inr (Sum.inr (Sum.inl ((x1, m))))) =>
    (if 12 ≤ x1 then
((some (Sum.inr (0, m))))
else
((some (Sum.inl (Sum.inr (Sum.inr (Sum.inr (Sum.inr (Sum.inl ((x1, 0, m)))))))))))
  | Sum.inr (Sum.inr (Sum.inr (Sum.inr (Sum.inl ((x1, x2, m)))))) =>
    (if 12 ≤ x2 then
((some (Sum.inl (Sum.inr (Sum.inr (Sum.inr (Sum.inl (((x1 + 1), m)))))))))
else
((some (Sum.inl (Sum.inr (Sum.inr (Sum.inr (Sum.inr (Sum.inr ((x1, x2, 0, m)))))))))))
  | Sum.inr (Sum.inr (Sum.inr (Sum.inr (Sum.inr ((x1, x2, x3, m)))))) =>
    (if 12 ≤ x3 then
((some (Sum.inl (Sum.inr (Sum.inr (Sum.inr (Sum.inr (Sum.inl ((x1, (x2 + 1), m))))))))))
else
(gd_ (ix_ ((12 * x2) + x1) 144)
(gd_ (ix_ ((12 * x1) + x3) 144)
(gd_ (ix_ ((12 * x2) + x3) 144)
(if (gi_ m 120 (Int32.toNatClampNeg ((12 * x2) + x3))) ≤ ((gi_ m 120 (Int32.toNatClampNeg ((12 * x2) + x1))) + (gi_ m 120 (Int32.toNatClampNeg ((12 * x1) + x3)))) then
((some (Sum.inl (Sum.inr (Sum.inr (Sum.inr (Sum.inr (Sum.inr ((x1, x2, (x3 + 1), m))))))))))
else
(gd_ (ix_ ((12 * x2) + x1) 144)
(gd_ (ix_ ((12 * x1) + x3) 144)
(gd_ (ix_ ((12 * x2) + x3) 144)
((some (Sum.inl (Sum.inr (Sum.inr (Sum.inr (Sum.inr (Sum.inr ((x1, x2, (x3 + 1), (si_ m 120 (Int32.toNatClampNeg ((12 * x2) + x3)) ((gi_ m 120 (Int32.toNatClampNeg ((12 * x2) + x1))) + (gi_ m 120 (Int32.toNatClampNeg ((12 * x1) + x3)))))))))))))))))))))))
noncomputable def f_X12_measure_2 (x1 : Int32) (m : fm_) : Option (Int32 × fm_) := am_lp (st_X12_measure) (Sum.inl ((x1, m)))
noncomputable def f_X12_measure_26 (x1 : Int32) (m : fm_) : Option (Int32 × fm_) := am_lp (st_X12_measure) (Sum.inr (Sum.inl ((x1, m))))
noncomputable def f_X12_measure_138 (x1 : Int32) (m : fm_) : Option (Int32 × fm_) := am_lp (st_X12_measure) (Sum.inr (Sum.inr (Sum.inl ((x1, m)))))
noncomputable def f_X12_measure_180 (x1 : Int32) (m : fm_) : Option (Int32 × fm_) := am_lp (st_X12_measure) (Sum.inr (Sum.inr (Sum.inr (Sum.inl ((x1, m))))))
noncomputable def f_X12_measure_188 (x1 : Int32) (x2 : Int32) (m : fm_) : Option (Int32 × fm_) := am_lp (st_X12_measure) (Sum.inr (Sum.inr (Sum.inr (Sum.inr (Sum.inl ((x1, x2, m)))))))
noncomputable def f_X12_measure_196 (x1 : Int32) (x2 : Int32) (x3 : Int32) (m : fm_) : Option (Int32 × fm_) := am_lp (st_X12_measure) (Sum.inr (Sum.inr (Sum.inr (Sum.inr (Sum.inr ((x1, x2, x3, m)))))))
theorem e_X12_measure_2 (x1 : Int32) (m : fm_) : f_X12_measure_2 x1 m =
(if 144 ≤ x1 then
((f_X12_measure_26 0 m))
else
(gd_ (ix_ x1 144)
((f_X12_measure_2 (x1 + 1) (si_ m 121 (Int32.toNatClampNeg x1) 1000000))))) :=
  (am_lp_eq _ _).trans (fe_if (rfl) (fe_gd (rfl)))
theorem e_X12_measure_26 (x1 : Int32) (m : fm_) : f_X12_measure_26 x1 m =
(if (gi_ m 106 29) ≤ x1 then
((f_X12_measure_138 0 m))
else
(gd_ (ix_ x1 24)
(gd_ (ix_ x1 24)
(gd_ (ix_ x1 24)
(gd_ (ix_ ((12 * (gi_ m 114 (Int32.toNatClampNeg x1))) + (gi_ m 115 (Int32.toNatClampNeg x1))) 144)
(if (gi_ m 121 (Int32.toNatClampNeg ((12 * (gi_ m 114 (Int32.toNatClampNeg x1))) + (gi_ m 115 (Int32.toNatClampNeg x1))))) ≤ (gi_ m 116 (Int32.toNatClampNeg x1)) then
(gd_ (ix_ x1 24)
(gd_ (ix_ x1 24)
(gd_ (ix_ x1 24)
(gd_ (ix_ x1 24)
(gd_ (ix_ ((12 * (gi_ m 114 (Int32.toNatClampNeg x1))) + (gi_ m 115 (Int32.toNatClampNeg x1))) 144)
(gd_ (ix_ ((12 * (gi_ m 115 (Int32.toNatClampNeg x1))) + (gi_ m 114 (Int32.toNatClampNeg x1))) 144)
((f_X12_measure_26 (x1 + 1) (si_ m 121 (Int32.toNatClampNeg ((12 * (gi_ m 115 (Int32.toNatClampNeg x1))) + (gi_ m 114 (Int32.toNatClampNeg x1)))) (gi_ m 121 (Int32.toNatClampNeg ((12 * (gi_ m 114 (Int32.toNatClampNeg x1))) + (gi_ m 115 (Int32.toNatClampNeg x1))))))))))))))
else
(gd_ (ix_ x1 24)
(gd_ (ix_ x1 24)
(gd_ (ix_ ((12 * (gi_ m 114 (Int32.toNatClampNeg x1))) + (gi_ m 115 (Int32.toNatClampNeg x1))) 144)
(gd_ (ix_ x1 24)
(gd_ (ix_ x1 24)
(gd_ (ix_ x1 24)
(gd_ (ix_ x1 24)
(gd_ (ix_ ((12 * (gi_ m 114 (Int32.toNatClampNeg x1))) + (gi_ m 115 (Int32.toNatClampNeg x1))) 144)
(gd_ (ix_ ((12 * (gi_ m 115 (Int32.toNatClampNeg x1))) + (gi_ m 114 (Int32.toNatClampNeg x1))) 144)
((f_X12_measure_26 (x1 + 1) (si_ (si_ m 121 (Int32.toNatClampNeg ((12 * (gi_ m 114 (Int32.toNatClampNeg x1))) + (gi_ m 115 (Int32.toNatClampNeg x1)))) (gi_ m 116 (Int32.toNatClampNeg x1))) 121 (Int32.toNatClampNeg ((12 * (gi_ m 115 (Int32.toNatClampNeg x1))) + (gi_ m 114 (Int32.toNatClampNeg x1)))) (gi_ (si_ m 121 (Int32.toNatClampNeg ((12 * (gi_ m 114 (Int32.toNatClampNeg x1))) + (gi_ m 115 (Int32.toNatClampNeg x1)))) (gi_ m 116 (Int32.toNatClampNeg x1))) 121 (Int32.toNatClampNeg ((12 * (gi_ m 114 (Int32.toNatClampNeg x1))) + (gi_ m 115 (Int32.toNatClampNeg x1))))))))))))))))))))))) :=
  (am_lp_eq _ _).trans (fe_if (rfl) (fe_gd (fe_gd (fe_gd (fe_gd (fe_if (fe_gd (fe_gd (fe_gd (fe_gd (fe_gd (fe_gd (rfl))))))) (fe_gd (fe_gd (fe_gd (fe_gd (fe_gd (fe_gd (fe_gd (fe_gd (fe_gd (rfl))))))))))))))))
theorem e_X12_measure_138 (x1 : Int32) (m : fm_) : f_X12_measure_138 x1 m =
(if 144 ≤ x1 then
((f_X12_measure_180 0 m))
else
(if (x1 / 12) = (x1 - x1 / 12 * 12) then
(gd_ (ix_ x1 144)
((f_X12_measure_138 (x1 + 1) (si_ m 120 (Int32.toNatClampNeg x1) 0))))
else
(gd_ (ix_ x1 144)
(gd_ (ix_ x1 144)
((f_X12_measure_138 (x1 + 1) (si_ m 120 (Int32.toNatClampNeg x1) (gi_ m 121 (Int32.toNatClampNeg x1))))))))) :=
  (am_lp_eq _ _).trans (fe_if (rfl) (fe_if (fe_gd (rfl)) (fe_gd (fe_gd (rfl)))))
theorem e_X12_measure_180 (x1 : Int32) (m : fm_) : f_X12_measure_180 x1 m =
(if 12 ≤ x1 then
((some (0, m)))
else
((f_X12_measure_188 x1 0 m))) :=
  (am_lp_eq _ _).trans (fe_if (rfl) (rfl))
theorem e_X12_measure_188 (x1 : Int32) (x2 : Int32) (m : fm_) : f_X12_measure_188 x1 x2 m =
(if 12 ≤ x2 then
((f_X12_measure_180 (x1 + 1) m))
else
((f_X12_measure_196 x1 x2 0 m))) :=
  (am_lp_eq _ _).trans (fe_if (rfl) (rfl))
theorem e_X12_measure_196 (x1 : Int32) (x2 : Int32) (x3 : Int32) (m : fm_) : f_X12_measure_196 x1 x2 x3 m =
(if 12 ≤ x3 then
((f_X12_measure_188 x1 (x2 + 1) m))
else
(gd_ (ix_ ((12 * x2) + x1) 144)
(gd_ (ix_ ((12 * x1) + x3) 144)
(gd_ (ix_ ((12 * x2) + x3) 144)
(if (gi_ m 120 (Int32.toNatClampNeg ((12 * x2) + x3))) ≤ ((gi_ m 120 (Int32.toNatClampNeg ((12 * x2) + x1))) + (gi_ m 120 (Int32.toNatClampNeg ((12 * x1) + x3)))) then
((f_X12_measure_196 x1 x2 (x3 + 1) m))
else
(gd_ (ix_ ((12 * x2) + x1) 144)
(gd_ (ix_ ((12 * x1) + x3) 144)
(gd_ (ix_ ((12 * x2) + x3) 144)
((f_X12_measure_196 x1 x2 (x3 + 1) (si_ m 120 (Int32.toNatClampNeg ((12 * x2) + x3)) ((gi_ m 120 (Int32.toNatClampNeg ((12 * x2) + x1))) + (gi_ m 120 (Int32.toNatClampNeg ((12 * x1) + x3))))))))))))))) :=
  (am_lp_eq _ _).trans (fe_if (rfl) (fe_gd (fe_gd (fe_gd (fe_if (rfl) (fe_gd (fe_gd (fe_gd (rfl)))))))))
noncomputable def f_X12_measure  (m : fm_) : Option (Int32 × fm_) :=
  ((f_X12_measure_2 0 m))
def sp_X12_measure : am_S := fn_sp []
theorem sm_X12_measure : am_Smono (sp_X12_measure) := fn_sp_mono _
def P_X12_measure (n : Nat) (r : Nat → Nat → Option Nat) (s : S_X12_measure) (q : Int32 × fm_) : Prop := match s with
  | Sum.inl ((x1, m)) => ∀ (Q : Option Value → am_W → Prop), Q (en_v q).1 (mk_ n r q.2) → am_T m_X12_measure sp_X12_measure n Q 2 [some (.ref 106), some (.int x1), none, none] [] (mk_ n r m)
  | Sum.inr (Sum.inl ((x1, m))) => ∀ (Q : Option Value → am_W → Prop) (y2 : Option Value), Q (en_v q).1 (mk_ n r q.2) → am_T m_X12_measure sp_X12_measure n Q 26 [some (.ref 106), some (.int x1), y2, none] [] (mk_ n r m)
  | Sum.inr (Sum.inr (Sum.inl ((x1, m)))) => ∀ (Q : Option Value → am_W → Prop) (y2 : Option Value), Q (en_v q).1 (mk_ n r q.2) → am_T m_X12_measure sp_X12_measure n Q 138 [some (.ref 106), some (.int x1), y2, none] [] (mk_ n r m)
  | Sum.inr (Sum.inr (Sum.inr (Sum.inl ((x1, m))))) => ∀ (Q : Option Value → am_W → Prop) (y2 : Option Value) (y3 : Option Value), Q (en_v q).1 (mk_ n r q.2) → am_T m_X12_measure sp_X12_measure n Q 180 [some (.ref 106), some (.int x1), y2, y3] [] (mk_ n r m)
  | Sum.inr (Sum.inr (Sum.inr (Sum.inr (Sum.inl ((x1, x2, m)))))) => ∀ (Q : Option Value → am_W → Prop) (y3 : Option Value), Q (en_v q).1 (mk_ n r q.2) → am_T m_X12_measure sp_X12_measure n Q 188 [some (.ref 106), some (.int x1), some (.int x2), y3] [] (mk_ n r m)
  | Sum.inr (Sum.inr (Sum.inr (Sum.inr (Sum.inr ((x1, x2, x3, m)))))) => ∀ (Q : Option Value → am_W → Prop), Q (en_v q).1 (mk_ n r q.2) → am_T m_X12_measure sp_X12_measure n Q 196 [some (.ref 106), some (.int x1), some (.int x2), some (.int x3)] [] (mk_ n r m)
set_option maxRecDepth 100000 in
theorem t_X12_measure_2 {n : Nat} {r : Nat → Nat → Option Nat} (hf : fn_F n r) {K : S_X12_measure → Option (Int32 × fm_)} {q : Int32 × fm_} (hK : ∀ s, K s = some q → P_X12_measure n r s q) (x1 : Int32) (m : fm_)
  (h : am_k K (st_X12_measure (Sum.inl ((x1, m)))) = some q) : P_X12_measure n r (Sum.inl ((x1, m))) q := fun Q hQ =>
  am_T.wp sm_X12_measure (K := am_T m_X12_measure sp_X12_measure n Q) (cuts := [2, 26, 138, 180, 188, 196]) (fun _ _ _ _ h => h) 12
    (fj_if h (fun c1 h2 => hK _ h2 _ _ hQ) (fun c1 h2 => ⟨fn_aF hf rfl rfl, Or.inl ⟨_, hf.2 106 28 121 rfl, fj_gd h2 fun g4 h3 => ⟨144, fn_aF hf rfl rfl, ix_t g4, hK _ h3 _ hQ⟩⟩⟩))
set_option maxRecDepth 100000 in
theorem t_X12_measure_26 {n : Nat} {r : Nat → Nat → Option Nat} (hf : fn_F n r) {K : S_X12_measure → Option (Int32 × fm_)} {q : Int32 × fm_} (hK : ∀ s, K s = some q → P_X12_measure n r s q) (x1 : Int32) (m : fm_)
  (h : am_k K (st_X12_measure (Sum.inr (Sum.inl ((x1, m))))) = some q) : P_X12_measure n r (Sum.inr (Sum.inl ((x1, m)))) q := fun Q y2 hQ =>
  am_T.wp sm_X12_measure (K := am_T m_X12_measure sp_X12_measure n Q) (cuts := [2, 26, 138, 180, 188, 196]) (fun _ _ _ _ h => h) 72
    (⟨fn_aF hf rfl rfl, fj_if h (fun c1 h2 => hK _ h2 _ _ hQ) (fun c1 h2 => ⟨fn_aF hf rfl rfl, Or.inl ⟨_, hf.2 106 23 116 rfl, fj_gd h2 fun g4 h3 => ⟨24, fn_aF hf rfl rfl, ix_t g4, ⟨fn_aF hf rfl rfl, Or.inl ⟨_, hf.2 106 28 121 rfl, ⟨fn_aF hf rfl rfl, Or.inl ⟨_, hf.2 106 21 114 rfl, fj_gd h3 fun g6 h5 => ⟨24, fn_aF hf rfl rfl, ix_t g6, ⟨fn_aF hf rfl rfl, Or.inl ⟨_, hf.2 106 22 115 rfl, fj_gd h5 fun g8 h7 => ⟨24, fn_aF hf rfl rfl, ix_t g8, fj_gd h7 fun g10 h9 => ⟨144, fn_aF hf rfl rfl, ix_t g10, fj_if h9 (fun c11 h12 => ⟨fn_aF hf rfl rfl, Or.inl ⟨_, hf.2 106 28 121 rfl, ⟨fn_aF hf rfl rfl, Or.inl ⟨_, hf.2 106 22 115 rfl, fj_gd h12 fun g14 h13 => ⟨24, fn_aF hf rfl rfl, ix_t g14, ⟨fn_aF hf rfl rfl, Or.inl ⟨_, hf.2 106 21 114 rfl, fj_gd h13 fun g16 h15 => ⟨24, fn_aF hf rfl rfl, ix_t g16, ⟨fn_aF hf rfl rfl, Or.inl ⟨_, hf.2 106 28 121 rfl, ⟨fn_aF hf rfl rfl, Or.inl ⟨_, hf.2 106 21 114 rfl, fj_gd h15 fun g18 h17 => ⟨24, fn_aF hf rfl rfl, ix_t g18, ⟨fn_aF hf rfl rfl, Or.inl ⟨_, hf.2 106 22 115 rfl, fj_gd h17 fun g20 h19 => ⟨24, fn_aF hf rfl rfl, ix_t g20, fj_gd h19 fun g22 h21 => ⟨144, fn_aF hf rfl rfl, ix_t g22, fj_gd h21 fun g24 h23 => ⟨144, fn_aF hf rfl rfl, ix_t g24, hK _ h23 _ _ hQ⟩⟩⟩⟩⟩⟩⟩⟩⟩⟩⟩⟩⟩⟩⟩⟩⟩⟩) (fun c11 h12 => ⟨fn_aF hf rfl rfl, Or.inl ⟨_, hf.2 106 28 121 rfl, ⟨fn_aF hf rfl rfl, Or.inl ⟨_, hf.2 106 21 114 rfl, fj_gd h12 fun g26 h25 => ⟨24, fn_aF hf rfl rfl, ix_t g26, ⟨fn_aF hf rfl rfl, Or.inl ⟨_, hf.2 106 22 115 rfl, fj_gd h25 fun g28 h27 => ⟨24, fn_aF hf rfl rfl, ix_t g28, fj_gd h27 fun g30 h29 => ⟨144, fn_aF hf rfl rfl, ix_t g30, ⟨fn_aF hf rfl rfl, Or.inl ⟨_, hf.2 106 28 121 rfl, ⟨fn_aF hf rfl rfl, Or.inl ⟨_, hf.2 106 22 115 rfl, fj_gd h29 fun g32 h31 => ⟨24, fn_aF hf rfl rfl, ix_t g32, ⟨fn_aF hf rfl rfl, Or.inl ⟨_, hf.2 106 21 114 rfl, fj_gd h31 fun g34 h33 => ⟨24, fn_aF hf rfl rfl, ix_t g34, ⟨fn_aF hf rfl rfl, Or.inl ⟨_, hf.2 106 28 121 rfl, ⟨fn_aF hf rfl rfl, Or.inl ⟨_, hf.2 106 21 114 rfl, fj_gd h33 fun g36 h35 => ⟨24, fn_aF hf rfl rfl, ix_t g36, ⟨fn_aF hf rfl rfl, Or.inl ⟨_, hf.2 106 22 115 rfl, fj_gd h35 fun g38 h37 => ⟨24, fn_aF hf rfl rfl, ix_t g38, fj_gd h37 fun g40 h39 => ⟨144, fn_aF hf rfl rfl, ix_t g40, fj_gd h39 fun g42 h41 => ⟨144, fn_aF hf rfl rfl, ix_t g42, hK _ h41 _ _ hQ⟩⟩⟩⟩⟩⟩⟩⟩⟩⟩⟩⟩⟩⟩⟩⟩⟩⟩⟩⟩⟩⟩⟩⟩⟩⟩⟩)⟩⟩⟩⟩⟩⟩⟩⟩⟩⟩⟩⟩)⟩)
set_option maxRecDepth 100000 in
theorem t_X12_measure_138 {n : Nat} {r : Nat → Nat → Option Nat} (hf : fn_F n r) {K : S_X12_measure → Option (Int32 × fm_)} {q : Int32 × fm_} (hK : ∀ s, K s = some q → P_X12_measure n r s q) (x1 : Int32) (m : fm_)
  (h : am_k K (st_X12_measure (Sum.inr (Sum.inr (Sum.inl ((x1, m)))))) = some q) : P_X12_measure n r (Sum.inr (Sum.inr (Sum.inl ((x1, m))))) q := fun Q y2 hQ =>
  am_T.wp sm_X12_measure (K := am_T m_X12_measure sp_X12_measure n Q) (cuts := [2, 26, 138, 180, 188, 196]) (fun _ _ _ _ h => h) 22
    (fj_if h (fun c1 h2 => hK _ h2 _ _ _ hQ) (fun c1 h2 => ⟨fn_aF hf rfl rfl, Or.inl ⟨_, hf.2 106 27 120 rfl, ⟨by decide, ⟨by decide, fj_in h2 (fun c3 h4 => ⟨fn_aF hf rfl rfl, Or.inl ⟨_, hf.2 106 28 121 rfl, fj_gd h4 fun g6 h5 => ⟨144, fn_aF hf rfl rfl, ix_t g6, fj_gd h5 fun g8 h7 => ⟨144, fn_aF hf rfl rfl, ix_t g8, hK _ h7 _ _ hQ⟩⟩⟩⟩) (fun c3 h4 => fj_gd h4 fun g10 h9 => ⟨144, fn_aF hf rfl rfl, ix_t g10, hK _ h9 _ _ hQ⟩)⟩⟩⟩⟩))
set_option maxRecDepth 100000 in
theorem t_X12_measure_180 {n : Nat} {r : Nat → Nat → Option Nat} (hf : fn_F n r) {K : S_X12_measure → Option (Int32 × fm_)} {q : Int32 × fm_} (hK : ∀ s, K s = some q → P_X12_measure n r s q) (x1 : Int32) (m : fm_)
  (h : am_k K (st_X12_measure (Sum.inr (Sum.inr (Sum.inr (Sum.inl ((x1, m))))))) = some q) : P_X12_measure n r (Sum.inr (Sum.inr (Sum.inr (Sum.inl ((x1, m)))))) q := fun Q y2 y3 hQ =>
  am_T.wp sm_X12_measure (K := am_T m_X12_measure sp_X12_measure n Q) (cuts := [2, 26, 138, 180, 188, 196]) (fun _ _ _ _ h => h) 7
    (fj_if h (fun c1 h2 => ⟨rfl, fj_rt h2 hQ⟩) (fun c1 h2 => hK _ h2 _ _ hQ))
set_option maxRecDepth 100000 in
theorem t_X12_measure_188 {n : Nat} {r : Nat → Nat → Option Nat} (hf : fn_F n r) {K : S_X12_measure → Option (Int32 × fm_)} {q : Int32 × fm_} (hK : ∀ s, K s = some q → P_X12_measure n r s q) (x1 : Int32) (x2 : Int32) (m : fm_)
  (h : am_k K (st_X12_measure (Sum.inr (Sum.inr (Sum.inr (Sum.inr (Sum.inl ((x1, x2, m)))))))) = some q) : P_X12_measure n r (Sum.inr (Sum.inr (Sum.inr (Sum.inr (Sum.inl ((x1, x2, m))))))) q := fun Q y3 hQ =>
  am_T.wp sm_X12_measure (K := am_T m_X12_measure sp_X12_measure n Q) (cuts := [2, 26, 138, 180, 188, 196]) (fun _ _ _ _ h => h) 7
    (fj_if h (fun c1 h2 => hK _ h2 _ _ _ hQ) (fun c1 h2 => hK _ h2 _ hQ))
set_option maxRecDepth 100000 in
theorem t_X12_measure_196 {n : Nat} {r : Nat → Nat → Option Nat} (hf : fn_F n r) {K : S_X12_measure → Option (Int32 × fm_)} {q : Int32 × fm_} (hK : ∀ s, K s = some q → P_X12_measure n r s q) (x1 : Int32) (x2 : Int32) (x3 : Int32) (m : fm_)
  (h : am_k K (st_X12_measure (Sum.inr (Sum.inr (Sum.inr (Sum.inr (Sum.inr ((x1, x2, x3, m)))))))) = some q) : P_X12_measure n r (Sum.inr (Sum.inr (Sum.inr (Sum.inr (Sum.inr ((x1, x2, x3, m))))))) q := fun Q hQ =>
  am_T.wp sm_X12_measure (K := am_T m_X12_measure sp_X12_measure n Q) (cuts := [2, 26, 138, 180, 188, 196]) (fun _ _ _ _ h => h) 58
    (fj_if h (fun c1 h2 => hK _ h2 _ _ hQ) (fun c1 h2 => ⟨fn_aF hf rfl rfl, Or.inl ⟨_, hf.2 106 27 120 rfl, fj_gd h2 fun g4 h3 => ⟨144, fn_aF hf rfl rfl, ix_t g4, ⟨fn_aF hf rfl rfl, Or.inl ⟨_, hf.2 106 27 120 rfl, fj_gd h3 fun g6 h5 => ⟨144, fn_aF hf rfl rfl, ix_t g6, ⟨fn_aF hf rfl rfl, Or.inl ⟨_, hf.2 106 27 120 rfl, fj_gd h5 fun g8 h7 => ⟨144, fn_aF hf rfl rfl, ix_t g8, fj_if h7 (fun c9 h10 => hK _ h10 _ hQ) (fun c9 h10 => ⟨fn_aF hf rfl rfl, Or.inl ⟨_, hf.2 106 27 120 rfl, ⟨fn_aF hf rfl rfl, Or.inl ⟨_, hf.2 106 27 120 rfl, fj_gd h10 fun g12 h11 => ⟨144, fn_aF hf rfl rfl, ix_t g12, ⟨fn_aF hf rfl rfl, Or.inl ⟨_, hf.2 106 27 120 rfl, fj_gd h11 fun g14 h13 => ⟨144, fn_aF hf rfl rfl, ix_t g14, fj_gd h13 fun g16 h15 => ⟨144, fn_aF hf rfl rfl, ix_t g16, hK _ h15 _ hQ⟩⟩⟩⟩⟩⟩⟩⟩⟩)⟩⟩⟩⟩⟩⟩⟩⟩⟩))
theorem l_X12_measure {n : Nat} {r : Nat → Nat → Option Nat} (hf : fn_F n r) (s : S_X12_measure) (q : Int32 × fm_) (h : am_lp (st_X12_measure) s = some q) : P_X12_measure n r s q :=
  am_lp_snd (P := P_X12_measure n r) (fun K hK s q h => match s, h with
    | Sum.inl ((x1, m)), h => t_X12_measure_2 hf (fun s => hK s q) x1 m h
    | Sum.inr (Sum.inl ((x1, m))), h => t_X12_measure_26 hf (fun s => hK s q) x1 m h
    | Sum.inr (Sum.inr (Sum.inl ((x1, m)))), h => t_X12_measure_138 hf (fun s => hK s q) x1 m h
    | Sum.inr (Sum.inr (Sum.inr (Sum.inl ((x1, m))))), h => t_X12_measure_180 hf (fun s => hK s q) x1 m h
    | Sum.inr (Sum.inr (Sum.inr (Sum.inr (Sum.inl ((x1, x2, m)))))), h => t_X12_measure_188 hf (fun s => hK s q) x1 x2 m h
    | Sum.inr (Sum.inr (Sum.inr (Sum.inr (Sum.inr ((x1, x2, x3, m)))))), h => t_X12_measure_196 hf (fun s => hK s q) x1 x2 x3 m h) s q h
set_option maxRecDepth 100000 in
theorem t_X12_measure {n : Nat} {r : Nat → Nat → Option Nat} (hf : fn_F n r) {q : Int32 × fm_}  {m : fm_}
  (h : f_X12_measure  m = some q) {Q : Option Value → am_W → Prop} (hQ : Q (en_v q).1 (mk_ n r q.2)) : am_T m_X12_measure sp_X12_measure n Q 0 [some (.ref 106), none, none, none] [] (mk_ n r m) :=
  am_T.wp sm_X12_measure (K := am_T m_X12_measure sp_X12_measure n Q) (cuts := [2, 26, 138, 180, 188, 196]) (fun _ _ _ _ h => h) 4
    (l_X12_measure hf _ _ h _ hQ)
noncomputable def G_X12_measure (n : Nat) (r : Nat → Nat → Option Nat) (as : List Value) (m : fm_) : Option (Option Value × fm_) := match as with
  | [.ref x0] => gd_ (Nat.beq x0 106) ((f_X12_measure  m).map en_v)
  | _ => none
set_option maxRecDepth 100000 in
theorem gp_X12_measure {n : Nat} {r : Nat → Nat → Option Nat}   {m : fm_} {q : Int32 × fm_}  (e : f_X12_measure  m = some q) : G_X12_measure n r [.ref 106] m = some (en_v q) := by
  show (gd_ (Nat.beq 106 106) ((f_X12_measure  m).map en_v)) = _
  exact fn_gd rfl (fn_mp e)
set_option maxRecDepth 100000 in
theorem ok_X12_measure : am_mok 12 202 m_X12_measure = true := by decide +kernel
set_option maxRecDepth 100000 in
theorem c_X12_measure (l : Launch) {g : am_G} (hg : fx_ l g) : am_Met l g 0 202 (fn_s fn_F G_X12_measure) := by
  refine am_sound (own := 12) (M := m_X12_measure) (SP := sp_X12_measure) hg.1 (by decide +kernel) ok_X12_measure (by decide +kernel) ?_ (fun q hq hk => absurd hk (am_no61 (M := m_X12_measure) (by decide +kernel) q hq)) (fn_ext l _ rfl g 12) (Or.inl (by decide +kernel)) ?_ ?_
  · intro q hq hk
    have hm : q.2.2.2.1 ∈ am_cs m_X12_measure := am_cs_in hq hk
    rw [show am_cs m_X12_measure = [] by decide +kernel] at hm
    cases hm
  · intro as w K h
    obtain ⟨hf, y, m1, hG, hK⟩ := h
    unfold G_X12_measure at hG
    split at hG
    · exact Nat.le_of_ble_eq_true rfl
    · cases hG
  · intro as w K h
    obtain ⟨n, i0, l0, r⟩ := w
    obtain ⟨hf, y, m1, hG, hK⟩ := h
    unfold G_X12_measure at hG
    split at hG
    · next x0 =>
      obtain ⟨hx1, hG1⟩ := gd_u hG
      obtain rfl := Nat.eq_of_beq_eq_true hx1
      obtain ⟨q, hq, he⟩ := fn_mu hG1
      obtain ⟨rfl, rfl⟩ := Prod.mk.inj he
      exact t_X12_measure  hf   (m := (i0, l0)) hq hK
    · cases hG

