/-! == X12_settleOnes == -/
abbrev S_X12_settleOnes : Type := (Int32 × fm_)
noncomputable def st_X12_settleOnes (s : S_X12_settleOnes) : Option (S_X12_settleOnes ⊕ (Int32 × fm_)) := match s with
  | (x1, m) =>
    (Option.bind (f_X12_top m) fun q1 =>
(if q1.1 = 28 then
((some (Sum.inr (0, q1.2))))
else
(if x1 = 0 then
(Option.bind (f_X12_pop q1.2) fun q8 =>
((some (Sum.inl ((x1, q8.2))))))
else
(Option.bind (f_X12_top q1.2) fun q11 =>
(if q11.1 = 21 then
((some (Sum.inr (0, q11.2))))
else
(Option.bind (f_X12_pop q11.2) fun q16 =>
((some (Sum.inl ((x1, q16.2)))))))))))
noncomputable def f_X12_settleOnes_0 (x1 : Int32) (m : fm_) : Option (Int32 × fm_) := am_lp (st_X12_settleOnes) ((x1, m))
theorem e_X12_settleOnes_0 (x1 : Int32) (m : fm_) : f_X12_settleOnes_0 x1 m =
(Option.bind (f_X12_top m) fun q1 =>
(if q1.1 = 28 then
((some (0, q1.2)))
else
(if x1 = 0 then
(Option.bind (f_X12_pop q1.2) fun q8 =>
((f_X12_settleOnes_0 x1 q8.2)))
else
(Option.bind (f_X12_top q1.2) fun q11 =>
(if q11.1 = 21 then
((some (0, q11.2)))
else
(Option.bind (f_X12_pop q11.2) fun q16 =>
((f_X12_settleOnes_0 x1 q16.2)))))))) :=
  (am_lp_eq _ _).trans (fe_bd fun q1 => (fe_if (rfl) (fe_if (fe_bd fun q8 => (rfl)) (fe_bd fun q11 => (fe_if (rfl) (fe_bd fun q16 => (rfl)))))))
noncomputable def f_X12_settleOnes (p1 : Int32) (m : fm_) : Option (Int32 × fm_) :=
  ((f_X12_settleOnes_0 p1 m))
def sp_X12_settleOnes : am_S := fn_sp [(207, fn_F, G_X12_top), (209, fn_F, G_X12_pop)]
theorem sm_X12_settleOnes : am_Smono (sp_X12_settleOnes) := fn_sp_mono _
def P_X12_settleOnes (n : Nat) (r : Nat → Nat → Option Nat) (s : S_X12_settleOnes) (q : Int32 × fm_) : Prop := match s with
  | (x1, m) => ∀ (Q : Option Value → am_W → Prop), Q (en_v q).1 (mk_ n r q.2) → am_T m_X12_settleOnes sp_X12_settleOnes n Q 0 [some (.ref 106), some (.int x1)] [] (mk_ n r m)
set_option maxRecDepth 100000 in
theorem t_X12_settleOnes_0 {n : Nat} {r : Nat → Nat → Option Nat} (hf : fn_F n r) {K : S_X12_settleOnes → Option (Int32 × fm_)} {q : Int32 × fm_} (hK : ∀ s, K s = some q → P_X12_settleOnes n r s q) (x1 : Int32) (m : fm_)
  (h : am_k K (st_X12_settleOnes ((x1, m))) = some q) : P_X12_settleOnes n r ((x1, m)) q := fun Q hQ =>
  am_T.wp sm_X12_settleOnes (K := am_T m_X12_settleOnes sp_X12_settleOnes n Q) (cuts := [0]) (fun _ _ _ _ h => h) 15
    (fj_bd h fun q1 e2 h3 => ⟨Nat.le_of_ble_eq_true rfl, fn_aF hf rfl rfl, ⟨hf, some (.int q1.1), q1.2, gp_X12_top (n := n) (r := r)  e2, fun _ => fj_if h3 (fun c4 h5 => ⟨rfl, fj_rt h5 hQ⟩) (fun c4 h5 => fj_if h5 (fun c6 h7 => fj_bd h7 fun q8 e9 h10 => ⟨Nat.le_of_ble_eq_true rfl, fn_aF hf rfl rfl, ⟨hf, none, q8.2, gp_X12_pop (n := n) (r := r)  e9, fun _ => ⟨rfl, hK _ h10 _ hQ⟩⟩⟩) (fun c6 h7 => fj_bd h7 fun q11 e12 h13 => ⟨Nat.le_of_ble_eq_true rfl, fn_aF hf rfl rfl, ⟨hf, some (.int q11.1), q11.2, gp_X12_top (n := n) (r := r)  e12, fun _ => fj_if h13 (fun c14 h15 => ⟨rfl, fj_rt h15 hQ⟩) (fun c14 h15 => fj_bd h15 fun q16 e17 h18 => ⟨Nat.le_of_ble_eq_true rfl, fn_aF hf rfl rfl, ⟨hf, none, q16.2, gp_X12_pop (n := n) (r := r)  e17, fun _ => ⟨rfl, hK _ h18 _ hQ⟩⟩⟩)⟩⟩))⟩⟩)
theorem l_X12_settleOnes {n : Nat} {r : Nat → Nat → Option Nat} (hf : fn_F n r) (s : S_X12_settleOnes) (q : Int32 × fm_) (h : am_lp (st_X12_settleOnes) s = some q) : P_X12_settleOnes n r s q :=
  am_lp_snd (P := P_X12_settleOnes n r) (fun K hK s q h => match s, h with
    | (x1, m), h => t_X12_settleOnes_0 hf (fun s => hK s q) x1 m h) s q h
set_option maxRecDepth 100000 in
theorem t_X12_settleOnes {n : Nat} {r : Nat → Nat → Option Nat} (hf : fn_F n r) {q : Int32 × fm_} (p1 : Int32) {m : fm_}
  (h : f_X12_settleOnes p1 m = some q) {Q : Option Value → am_W → Prop} (hQ : Q (en_v q).1 (mk_ n r q.2)) : am_T m_X12_settleOnes sp_X12_settleOnes n Q 0 [some (.ref 106), some (.int p1)] [] (mk_ n r m) :=
  am_T.wp sm_X12_settleOnes (K := am_T m_X12_settleOnes sp_X12_settleOnes n Q) (cuts := [0]) (fun _ _ _ _ h => h) 0
    (l_X12_settleOnes hf _ _ h _ hQ)
noncomputable def G_X12_settleOnes (n : Nat) (r : Nat → Nat → Option Nat) (as : List Value) (m : fm_) : Option (Option Value × fm_) := match as with
  | [.ref x0, .int p1] => gd_ (Nat.beq x0 106) ((f_X12_settleOnes p1 m).map en_v)
  | _ => none
set_option maxRecDepth 100000 in
theorem gp_X12_settleOnes {n : Nat} {r : Nat → Nat → Option Nat}  {p1 : Int32} {m : fm_} {q : Int32 × fm_}  (e : f_X12_settleOnes p1 m = some q) : G_X12_settleOnes n r [.ref 106, .int p1] m = some (en_v q) := by
  show (gd_ (Nat.beq 106 106) ((f_X12_settleOnes p1 m).map en_v)) = _
  exact fn_gd rfl (fn_mp e)
set_option maxRecDepth 100000 in
theorem ok_X12_settleOnes : am_mok 12 211 m_X12_settleOnes = true := by decide +kernel
set_option maxRecDepth 100000 in
theorem c_X12_settleOnes (l : Launch) {g : am_G} (hg : fx_ l g) : am_Met l g 2 211 (fn_s fn_F G_X12_settleOnes) := by
  refine am_sound (own := 12) (M := m_X12_settleOnes) (SP := sp_X12_settleOnes) hg.1 (by decide +kernel) ok_X12_settleOnes (by decide +kernel) ?_ (fun q hq hk => absurd hk (am_no61 (M := m_X12_settleOnes) (by decide +kernel) q hq)) (fn_ext l _ rfl g 12) (Or.inl (by decide +kernel)) ?_ ?_
  · intro q hq hk
    have hm : q.2.2.2.1 ∈ am_cs m_X12_settleOnes := am_cs_in hq hk
    rw [show am_cs m_X12_settleOnes = [207, 207, 209] by decide +kernel] at hm
    have hm : q.2.2.2.1 ∈ [207, 209] := (List.all_eq_true.mp (show ([207, 207, 209] : List Nat).all (fun a => decide (a ∈ ([207, 209] : List Nat))) = true by decide +kernel) _ hm |> of_decide_eq_true)
    simp only [List.mem_cons, List.not_mem_nil, or_false] at hm
    rcases hm with hm | hm
    · rw [hm]; exact ⟨0, by omega, c_X12_top l hg⟩
    · rw [hm]; exact ⟨1, by omega, c_X12_pop l hg⟩
  · intro as w K h
    obtain ⟨hf, y, m1, hG, hK⟩ := h
    unfold G_X12_settleOnes at hG
    split at hG
    · exact Nat.le_of_ble_eq_true rfl
    · cases hG
  · intro as w K h
    obtain ⟨n, i0, l0, r⟩ := w
    obtain ⟨hf, y, m1, hG, hK⟩ := h
    unfold G_X12_settleOnes at hG
    split at hG
    · next x0 p1 =>
      obtain ⟨hx1, hG1⟩ := gd_u hG
      obtain rfl := Nat.eq_of_beq_eq_true hx1
      obtain ⟨q, hq, he⟩ := fn_mu hG1
      obtain ⟨rfl, rfl⟩ := Prod.mk.inj he
      exact t_X12_settleOnes  hf  p1 (m := (i0, l0)) hq hK
    · cases hG

/-! == X12_isOpen == -/
abbrev S_X12_isOpen : Type := (Int32 × Int32 × fm_)
noncomputable def st_X12_isOpen (s : S_X12_isOpen) : Option (S_X12_isOpen ⊕ (Int32 × fm_)) := match s with
  | (x1, x2, m) =>
    (if (gi_ m 106 52) ≤ x2 then
(gd_ (bl_ x1)
((some (Sum.inr (x1, m)))))
else
(if x1 = 0 then
(gd_ (ix_ x2 400)
(if (gi_ m 135 (Int32.toNatClampNeg x2)) = 28 then
((some (Sum.inl ((1, (x2 + 1), m)))))
else
((some (Sum.inl ((0, (x2 + 1), m)))))))
else
((some (Sum.inl ((1, (x2 + 1), m)))))))
noncomputable def f_X12_isOpen_4 (x1 : Int32) (x2 : Int32) (m : fm_) : Option (Int32 × fm_) := am_lp (st_X12_isOpen) ((x1, x2, m))
theorem e_X12_isOpen_4 (x1 : Int32) (x2 : Int32) (m : fm_) : f_X12_isOpen_4 x1 x2 m =
(if (gi_ m 106 52) ≤ x2 then
(gd_ (bl_ x1)
((some (x1, m))))
else
(if x1 = 0 then
(gd_ (ix_ x2 400)
(if (gi_ m 135 (Int32.toNatClampNeg x2)) = 28 then
((f_X12_isOpen_4 1 (x2 + 1) m))
else
((f_X12_isOpen_4 0 (x2 + 1) m))))
else
((f_X12_isOpen_4 1 (x2 + 1) m)))) :=
  (am_lp_eq _ _).trans (fe_if (fe_gd rfl) (fe_if (fe_gd (fe_if (rfl) (rfl))) (rfl)))
noncomputable def f_X12_isOpen  (m : fm_) : Option (Int32 × fm_) :=
  ((f_X12_isOpen_4 0 0 m))
def sp_X12_isOpen : am_S := fn_sp []
theorem sm_X12_isOpen : am_Smono (sp_X12_isOpen) := fn_sp_mono _
def P_X12_isOpen (n : Nat) (r : Nat → Nat → Option Nat) (s : S_X12_isOpen) (q : Int32 × fm_) : Prop := match s with
  | (x1, x2, m) => ∀ (Q : Option Value → am_W → Prop), Q (en_i q).1 (mk_ n r q.2) → am_T m_X12_isOpen sp_X12_isOpen n Q 4 [some (.ref 106), some (.int x1), some (.int x2)] [] (mk_ n r m)
set_option maxRecDepth 100000 in
theorem t_X12_isOpen_4 {n : Nat} {r : Nat → Nat → Option Nat} (hf : fn_F n r) {K : S_X12_isOpen → Option (Int32 × fm_)} {q : Int32 × fm_} (hK : ∀ s, K s = some q → P_X12_isOpen n r s q) (x1 : Int32) (x2 : Int32) (m : fm_)
  (h : am_k K (st_X12_isOpen ((x1, x2, m))) = some q) : P_X12_isOpen n r ((x1, x2, m)) q := fun Q hQ =>
  am_T.wp sm_X12_isOpen (K := am_T m_X12_isOpen sp_X12_isOpen n Q) (cuts := [4]) (fun _ _ _ _ h => h) 19
    (⟨fn_aF hf rfl rfl, fj_if h (fun c1 h2 => fj_gd h2 fun g4 h3 => ⟨rfl, bl_t g4, fj_rt h3 hQ⟩) (fun c1 h2 => fj_in h2 (fun c5 h6 => hK _ h6 _ hQ) (fun c5 h6 => ⟨fn_aF hf rfl rfl, Or.inl ⟨_, hf.2 106 51 135 rfl, fj_gd h6 fun g8 h7 => ⟨400, fn_aF hf rfl rfl, ix_t g8, fj_in h7 (fun c9 h10 => hK _ h10 _ hQ) (fun c9 h10 => hK _ h10 _ hQ)⟩⟩⟩))⟩)
theorem l_X12_isOpen {n : Nat} {r : Nat → Nat → Option Nat} (hf : fn_F n r) (s : S_X12_isOpen) (q : Int32 × fm_) (h : am_lp (st_X12_isOpen) s = some q) : P_X12_isOpen n r s q :=
  am_lp_snd (P := P_X12_isOpen n r) (fun K hK s q h => match s, h with
    | (x1, x2, m), h => t_X12_isOpen_4 hf (fun s => hK s q) x1 x2 m h) s q h
set_option maxRecDepth 100000 in
theorem t_X12_isOpen {n : Nat} {r : Nat → Nat → Option Nat} (hf : fn_F n r) {q : Int32 × fm_}  {m : fm_}
  (h : f_X12_isOpen  m = some q) {Q : Option Value → am_W → Prop} (hQ : Q (en_i q).1 (mk_ n r q.2)) : am_T m_X12_isOpen sp_X12_isOpen n Q 0 [some (.ref 106), none, none] [] (mk_ n r m) :=
  am_T.wp sm_X12_isOpen (K := am_T m_X12_isOpen sp_X12_isOpen n Q) (cuts := [4]) (fun _ _ _ _ h => h) 6
    (l_X12_isOpen hf _ _ h _ hQ)
noncomputable def G_X12_isOpen (n : Nat) (r : Nat → Nat → Option Nat) (as : List Value) (m : fm_) : Option (Option Value × fm_) := match as with
  | [.ref x0] => gd_ (Nat.beq x0 106) ((f_X12_isOpen  m).map en_i)
  | _ => none
set_option maxRecDepth 100000 in
theorem gp_X12_isOpen {n : Nat} {r : Nat → Nat → Option Nat}   {m : fm_} {q : Int32 × fm_}  (e : f_X12_isOpen  m = some q) : G_X12_isOpen n r [.ref 106] m = some (en_i q) := by
  show (gd_ (Nat.beq 106 106) ((f_X12_isOpen  m).map en_i)) = _
  exact fn_gd rfl (fn_mp e)
set_option maxRecDepth 100000 in
theorem ok_X12_isOpen : am_mok 12 212 m_X12_isOpen = true := by decide +kernel
set_option maxRecDepth 100000 in
theorem c_X12_isOpen (l : Launch) {g : am_G} (hg : fx_ l g) : am_Met l g 0 212 (fn_s fn_F G_X12_isOpen) := by
  refine am_sound (own := 12) (M := m_X12_isOpen) (SP := sp_X12_isOpen) hg.1 (by decide +kernel) ok_X12_isOpen (by decide +kernel) ?_ (fun q hq hk => absurd hk (am_no61 (M := m_X12_isOpen) (by decide +kernel) q hq)) (fn_ext l _ rfl g 12) (Or.inl (by decide +kernel)) ?_ ?_
  · intro q hq hk
    have hm : q.2.2.2.1 ∈ am_cs m_X12_isOpen := am_cs_in hq hk
    rw [show am_cs m_X12_isOpen = [] by decide +kernel] at hm
    cases hm
  · intro as w K h
    obtain ⟨hf, y, m1, hG, hK⟩ := h
    unfold G_X12_isOpen at hG
    split at hG
    · exact Nat.le_of_ble_eq_true rfl
    · cases hG
  · intro as w K h
    obtain ⟨n, i0, l0, r⟩ := w
    obtain ⟨hf, y, m1, hG, hK⟩ := h
    unfold G_X12_isOpen at hG
    split at hG
    · next x0 =>
      obtain ⟨hx1, hG1⟩ := gd_u hG
      obtain rfl := Nat.eq_of_beq_eq_true hx1
      obtain ⟨q, hq, he⟩ := fn_mu hG1
      obtain ⟨rfl, rfl⟩ := Prod.mk.inj he
      exact t_X12_isOpen  hf   (m := (i0, l0)) hq hK
    · cases hG

/-! == X12_sign == -/
abbrev S_X12_sign : Type := (Int32 × fm_) ⊕ (Int32 × fm_) ⊕ (Int32 × fm_) ⊕ (Int32 × fm_) ⊕ (Int32 × fm_) ⊕ (Int32 × fm_) ⊕ (Int32 × fm_)
noncomputable def st_X12_sign (s : S_X12_sign) : Option (S_X12_sign ⊕ (Int32 × fm_)) := match s with
  | Sum.inl ((x1, m)) =>
    (Option.bind (f_X12_settle 26 m) fun q1 =>
(if (gi_ q1.2 106 6) = 43 then
(Option.bind (f_X12_hold 26 q1.2) fun q14 =>
(Option.bind (f_X12_next q14.2) fun q17 =>
(if x1 = 3 then
((some (Sum.inr (1, q17.2))))
else
((some (Sum.inr (2, q17.2)))))))
else
(Option.bind (f_X12_hold 27 q1.2) fun q6 =>
(Option.bind (f_X12_next q6.2) fun q9 =>
(if x1 = 3 then
((some (Sum.inr (1, q9.2))))
else
((some (Sum.inr (2, q9.2)))))))))
  | Sum.inr (Sum.inl ((x1, m))) =>
    (if x1 = 3 then
(if (gi_ m 106 6) = 61 then
((some (Sum.inl (Sum.inr (Sum.inr (Sum.inl ((x1, m))))))))
else
(if (gi_ m 106 6) = 60 then
((some (Sum.inl (Sum.inr (Sum.inr (Sum.inl ((x1, m))))))))
else
(if (gi_ m 106 6) = 62 then
((some (Sum.inl (Sum.inr (Sum.inr (Sum.inl ((x1, m))))))))
else
((some (Sum.inl (Sum.inr (Sum.inr (Sum.inr (Sum.inl ((x1, m))))))))))))
else
((some (Sum.inl (Sum.inr (Sum.inr (Sum.inr (Sum.inl ((x1, m))))))))))
  | Sum.inr (Sum.inr (Sum.inl ((x1, m)))) =>
    (Option.bind (f_X12_settle 26 m) fun q1 =>
(if (gi_ q1.2 106 6) = 61 then
(Option.bind (f_X12_hold 23 q1.2) fun q20 =>
(Option.bind (f_X12_next q20.2) fun q23 =>
((some (Sum.inr (2, q23.2))))))
else
(if (gi_ q1.2 106 6) = 60 then
(Option.bind (f_X12_hold 24 q1.2) fun q14 =>
(Option.bind (f_X12_next q14.2) fun q17 =>
((some (Sum.inr (2, q17.2))))))
else
(Option.bind (f_X12_hold 25 q1.2) fun q8 =>
(Option.bind (f_X12_next q8.2) fun q11 =>
((some (Sum.inr (2, q11.2)))))))))
  | Sum.inr (Sum.inr (Sum.inr (Sum.inl ((x1, m))))) =>
    (if x1 = 3 then
((some (Sum.inl (Sum.inr (Sum.inr (Sum.inr (Sum.inr (Sum.inr (Sum.inl ((x1, m)))))))))))
else
(Option.bind (f_X12_isWord 6385252 m) fun q3 =>
(if q3.1 = 0 then
(Option.bind (f_X12_isWord 28530 q3.2) fun q8 =>
(if q8.1 = 0 then
((some (Sum.inl (Sum.inr (Sum.inr (Sum.inr (Sum.inr (Sum.inr (Sum.inl ((x1, q8.2)))))))))))
else
((some (Sum.inl (Sum.inr (Sum.inr (Sum.inr (Sum.inr (Sum.inl ((x1, q8.2))))))))))))
else
((some (Sum.inl (Sum.inr (Sum.inr (Sum.inr (Sum.inr (Sum.inl ((x1, q3.2)))))))))))))
  | Sum.inr (Sum.inr (Sum.inr (Sum.inr (Sum.inl ((x1, m)))))) =>
    (Option.bind (f_X12_isWord 6385252 m) fun q1 =>
(Option.bind (f_X12_settleOnes q1.1 q1.2) fun q4 =>
(if q1.1 = 0 then
(Option.bind (f_X12_hold 21 q4.2) fun q9 =>
(Option.bind (f_X12_next q9.2) fun q12 =>
((some (Sum.inr (0, q12.2))))))
else
(Option.bind (f_X12_hold 22 q4.2) fun q15 =>
(Option.bind (f_X12_next q15.2) fun q18 =>
((some (Sum.inr (0, q18.2)))))))))
  | Sum.inr (Sum.inr (Sum.inr (Sum.inr (Sum.inr (Sum.inl ((x1, m))))))) =>
    (if x1 = 3 then
((some (Sum.inl (Sum.inr (Sum.inr (Sum.inr (Sum.inr (Sum.inr (Sum.inr ((x1, m)))))))))))
else
(if (gi_ m 106 6) = 41 then
(Option.bind (f_X12_isOpen m) fun q5 =>
(if q5.1 = 0 then
((some (Sum.inl (Sum.inr (Sum.inr (Sum.inr (Sum.inr (Sum.inr (Sum.inr ((x1, q5.2)))))))))))
else
(Option.bind (f_X12_settle 0 q5.2) fun q10 =>
(Option.bind (f_X12_next (si_ (si_ q10.2 106 52 ((gi_ q10.2 106 52) - 1)) 106 53 ((gi_ q10.2 106 53) - 1))) fun q13 =>
((some (Sum.inr (5, q13.2))))))))
else
((some (Sum.inl (Sum.inr (Sum.inr (Sum.inr (Sum.inr (Sum.inr (Sum.inr ((x1, m)))))))))))))
  | Sum.inr (Sum.inr (Sum.inr (Sum.inr (Sum.inr (Sum.inr ((x1, m))))))) =>
    (Option.bind (f_X12_wrong 2 m) fun q1 =>
((some (Sum.inr (x1, q1.2)))))
noncomputable def f_X12_sign_23 (x1 : Int32) (m : fm_) : Option (Int32 × fm_) := am_lp (st_X12_sign) (Sum.inl ((x1, m)))
noncomputable def f_X12_sign_64 (x1 : Int32) (m : fm_) : Option (Int32 × fm_) := am_lp (st_X12_sign) (Sum.inr (Sum.inl ((x1, m))))
noncomputable def f_X12_sign_96 (x1 : Int32) (m : fm_) : Option (Int32 × fm_) := am_lp (st_X12_sign) (Sum.inr (Sum.inr (Sum.inl ((x1, m)))))
noncomputable def f_X12_sign_142 (x1 : Int32) (m : fm_) : Option (Int32 × fm_) := am_lp (st_X12_sign) (Sum.inr (Sum.inr (Sum.inr (Sum.inl ((x1, m))))))
noncomputable def f_X12_sign_167 (x1 : Int32) (m : fm_) : Option (Int32 × fm_) := am_lp (st_X12_sign) (Sum.inr (Sum.inr (Sum.inr (Sum.inr (Sum.inl ((x1, m)))))))
noncomputable def f_X12_sign_201 (x1 : Int32) (m : fm_) : Option (Int32 × fm_) := am_lp (st_X12_sign) (Sum.inr (Sum.inr (Sum.inr (Sum.inr (Sum.inr (Sum.inl ((x1, m))))))))
noncomputable def f_X12_sign_253 (x1 : Int32) (m : fm_) : Option (Int32 × fm_) := am_lp (st_X12_sign) (Sum.inr (Sum.inr (Sum.inr (Sum.inr (Sum.inr (Sum.inr ((x1, m))))))))
theorem e_X12_sign_23 (x1 : Int32) (m : fm_) : f_X12_sign_23 x1 m =
(Option.bind (f_X12_settle 26 m) fun q1 =>
(if (gi_ q1.2 106 6) = 43 then
(Option.bind (f_X12_hold 26 q1.2) fun q14 =>
(Option.bind (f_X12_next q14.2) fun q17 =>
(if x1 = 3 then
((some (1, q17.2)))
else
((some (2, q17.2))))))
else
(Option.bind (f_X12_hold 27 q1.2) fun q6 =>
(Option.bind (f_X12_next q6.2) fun q9 =>
(if x1 = 3 then
((some (1, q9.2)))
else
((some (2, q9.2)))))))) :=
  (am_lp_eq _ _).trans (fe_bd fun q1 => (fe_if (fe_bd fun q14 => (fe_bd fun q17 => (fe_if (rfl) (rfl)))) (fe_bd fun q6 => (fe_bd fun q9 => (fe_if (rfl) (rfl))))))
theorem e_X12_sign_64 (x1 : Int32) (m : fm_) : f_X12_sign_64 x1 m =
(if x1 = 3 then
(if (gi_ m 106 6) = 61 then
((f_X12_sign_96 x1 m))
else
(if (gi_ m 106 6) = 60 then
((f_X12_sign_96 x1 m))
else
(if (gi_ m 106 6) = 62 then
((f_X12_sign_96 x1 m))
else
((f_X12_sign_142 x1 m)))))
else
((f_X12_sign_142 x1 m))) :=
  (am_lp_eq _ _).trans (fe_if (fe_if (rfl) (fe_if (rfl) (fe_if (rfl) (rfl)))) (rfl))
theorem e_X12_sign_96 (x1 : Int32) (m : fm_) : f_X12_sign_96 x1 m =
(Option.bind (f_X12_settle 26 m) fun q1 =>
(if (gi_ q1.2 106 6) = 61 then
(Option.bind (f_X12_hold 23 q1.2) fun q20 =>
(Option.bind (f_X12_next q20.2) fun q23 =>
((some (2, q23.2)))))
else
(if (gi_ q1.2 106 6) = 60 then
(Option.bind (f_X12_hold 24 q1.2) fun q14 =>
(Option.bind (f_X12_next q14.2) fun q17 =>
((some (2, q17.2)))))
else
(Option.bind (f_X12_hold 25 q1.2) fun q8 =>
(Option.bind (f_X12_next q8.2) fun q11 =>
((some (2, q11.2)))))))) :=
  (am_lp_eq _ _).trans (fe_bd fun q1 => (fe_if (fe_bd fun q20 => (fe_bd fun q23 => (rfl))) (fe_if (fe_bd fun q14 => (fe_bd fun q17 => (rfl))) (fe_bd fun q8 => (fe_bd fun q11 => (rfl))))))
theorem e_X12_sign_142 (x1 : Int32) (m : fm_) : f_X12_sign_142 x1 m =
(if x1 = 3 then
((f_X12_sign_201 x1 m))
else
(Option.bind (f_X12_isWord 6385252 m) fun q3 =>
(if q3.1 = 0 then
(Option.bind (f_X12_isWord 28530 q3.2) fun q8 =>
(if q8.1 = 0 then
((f_X12_sign_201 x1 q8.2))
else
((f_X12_sign_167 x1 q8.2))))
else
((f_X12_sign_167 x1 q3.2))))) :=
  (am_lp_eq _ _).trans (fe_if (rfl) (fe_bd fun q3 => (fe_if (fe_bd fun q8 => (fe_if (rfl) (rfl))) (rfl))))
theorem e_X12_sign_167 (x1 : Int32) (m : fm_) : f_X12_sign_167 x1 m =
(Option.bind (f_X12_isWord 6385252 m) fun q1 =>
(Option.bind (f_X12_settleOnes q1.1 q1.2) fun q4 =>
(if q1.1 = 0 then
(Option.bind (f_X12_hold 21 q4.2) fun q9 =>
(Option.bind (f_X12_next q9.2) fun q12 =>
((some (0, q12.2)))))
else
(Option.bind (f_X12_hold 22 q4.2) fun q15 =>
(Option.bind (f_X12_next q15.2) fun q18 =>
((some (0, q18.2)))))))) :=
  (am_lp_eq _ _).trans (fe_bd fun q1 => (fe_bd fun q4 => (fe_if (fe_bd fun q9 => (fe_bd fun q12 => (rfl))) (fe_bd fun q15 => (fe_bd fun q18 => (rfl))))))
theorem e_X12_sign_201 (x1 : Int32) (m : fm_) : f_X12_sign_201 x1 m =
(if x1 = 3 then
((f_X12_sign_253 x1 m))
else
(if (gi_ m 106 6) = 41 then
(Option.bind (f_X12_isOpen m) fun q5 =>
(if q5.1 = 0 then
((f_X12_sign_253 x1 q5.2))
else
(Option.bind (f_X12_settle 0 q5.2) fun q10 =>
(Option.bind (f_X12_next (si_ (si_ q10.2 106 52 ((gi_ q10.2 106 52) - 1)) 106 53 ((gi_ q10.2 106 53) - 1))) fun q13 =>
((some (5, q13.2)))))))
else
((f_X12_sign_253 x1 m)))) :=
  (am_lp_eq _ _).trans (fe_if (rfl) (fe_if (fe_bd fun q5 => (fe_if (rfl) (fe_bd fun q10 => (fe_bd fun q13 => (rfl))))) (rfl)))
theorem e_X12_sign_253 (x1 : Int32) (m : fm_) : f_X12_sign_253 x1 m =
(Option.bind (f_X12_wrong 2 m) fun q1 =>
((some (x1, q1.2)))) :=
  (am_lp_eq _ _).trans (fe_bd fun q1 => (rfl))
noncomputable def f_X12_sign (p1 : Int32) (m : fm_) : Option (Int32 × fm_) :=
  (if p1 = 5 then
((f_X12_sign_64 p1 m))
else
(if (gi_ m 106 6) = 43 then
((f_X12_sign_23 p1 m))
else
(if (gi_ m 106 6) = 45 then
((f_X12_sign_23 p1 m))
else
((f_X12_sign_64 p1 m)))))
def sp_X12_sign : am_S := fn_sp [(210, fn_F, G_X12_settle), (208, fn_F, G_X12_hold), (192, fn_F, G_X12_next), (194, fn_F, G_X12_isWord), (211, fn_F, G_X12_settleOnes), (212, fn_F, G_X12_isOpen), (193, fn_F, G_X12_wrong)]
theorem sm_X12_sign : am_Smono (sp_X12_sign) := fn_sp_mono _
def P_X12_sign (n : Nat) (r : Nat → Nat → Option Nat) (s : S_X12_sign) (q : Int32 × fm_) : Prop := match s with
  | Sum.inl ((x1, m)) => ∀ (Q : Option Value → am_W → Prop), Q (en_i q).1 (mk_ n r q.2) → am_T m_X12_sign sp_X12_sign n Q 23 [some (.ref 106), some (.int x1), none] [] (mk_ n r m)
  | Sum.inr (Sum.inl ((x1, m))) => ∀ (Q : Option Value → am_W → Prop), Q (en_i q).1 (mk_ n r q.2) → am_T m_X12_sign sp_X12_sign n Q 64 [some (.ref 106), some (.int x1), none] [] (mk_ n r m)
  | Sum.inr (Sum.inr (Sum.inl ((x1, m)))) => ∀ (Q : Option Value → am_W → Prop), Q (en_i q).1 (mk_ n r q.2) → am_T m_X12_sign sp_X12_sign n Q 96 [some (.ref 106), some (.int x1), none] [] (mk_ n r m)
  | Sum.inr (Sum.inr (Sum.inr (Sum.inl ((x1, m))))) => ∀ (Q : Option Value → am_W → Prop), Q (en_i q).1 (mk_ n r q.2) → am_T m_X12_sign sp_X12_sign n Q 142 [some (.ref 106), some (.int x1), none] [] (mk_ n r m)
  | Sum.inr (Sum.inr (Sum.inr (Sum.inr (Sum.inl ((x1, m)))))) => ∀ (Q : Option Value → am_W → Prop), Q (en_i q).1 (mk_ n r q.2) → am_T m_X12_sign sp_X12_sign n Q 167 [some (.ref 106), some (.int x1), none] [] (mk_ n r m)
  | Sum.inr (Sum.inr (Sum.inr (Sum.inr (Sum.inr (Sum.inl ((x1, m))))))) => ∀ (Q : Option Value → am_W → Prop), Q (en_i q).1 (mk_ n r q.2) → am_T m_X12_sign sp_X12_sign n Q 201 [some (.ref 106), some (.int x1), none] [] (mk_ n r m)
  | Sum.inr (Sum.inr (Sum.inr (Sum.inr (Sum.inr (Sum.inr ((x1, m))))))) => ∀ (Q : Option Value → am_W → Prop), Q (en_i q).1 (mk_ n r q.2) → am_T m_X12_sign sp_X12_sign n Q 253 [some (.ref 106), some (.int x1), none] [] (mk_ n r m)
set_option maxRecDepth 100000 in
theorem t_X12_sign_23 {n : Nat} {r : Nat → Nat → Option Nat} (hf : fn_F n r) {K : S_X12_sign → Option (Int32 × fm_)} {q : Int32 × fm_} (hK : ∀ s, K s = some q → P_X12_sign n r s q) (x1 : Int32) (m : fm_)
  (h : am_k K (st_X12_sign (Sum.inl ((x1, m)))) = some q) : P_X12_sign n r (Sum.inl ((x1, m))) q := fun Q hQ =>
  am_T.wp sm_X12_sign (K := am_T m_X12_sign sp_X12_sign n Q) (cuts := [23, 64, 96, 142, 167, 201, 253]) (fun _ _ _ _ h => h) 20
    (fj_bd h fun q1 e2 h3 => ⟨Nat.le_of_ble_eq_true rfl, fn_aF hf rfl rfl, ⟨hf, none, q1.2, gp_X12_settle (n := n) (r := r)  e2, fun _ => ⟨rfl, ⟨fn_aF hf rfl rfl, fj_in h3 (fun c4 h5 => fj_bd h5 fun q6 e7 h8 => ⟨Nat.le_of_ble_eq_true rfl, fn_aF hf rfl rfl, ⟨hf, none, q6.2, gp_X12_hold (n := n) (r := r)  e7, fun _ => ⟨rfl, fj_bd h8 fun q9 e10 h11 => ⟨Nat.le_of_ble_eq_true rfl, fn_aF hf rfl rfl, ⟨hf, none, q9.2, gp_X12_next (n := n) (r := r)  e10, fun _ => ⟨rfl, fj_in h11 (fun c12 h13 => ⟨rfl, fj_rt h13 hQ⟩) (fun c12 h13 => ⟨rfl, fj_rt h13 hQ⟩)⟩⟩⟩⟩⟩⟩) (fun c4 h5 => fj_bd h5 fun q14 e15 h16 => ⟨Nat.le_of_ble_eq_true rfl, fn_aF hf rfl rfl, ⟨hf, none, q14.2, gp_X12_hold (n := n) (r := r)  e15, fun _ => ⟨rfl, fj_bd h16 fun q17 e18 h19 => ⟨Nat.le_of_ble_eq_true rfl, fn_aF hf rfl rfl, ⟨hf, none, q17.2, gp_X12_next (n := n) (r := r)  e18, fun _ => ⟨rfl, fj_in h19 (fun c20 h21 => ⟨rfl, fj_rt h21 hQ⟩) (fun c20 h21 => ⟨rfl, fj_rt h21 hQ⟩)⟩⟩⟩⟩⟩⟩)⟩⟩⟩⟩)
set_option maxRecDepth 100000 in
theorem t_X12_sign_64 {n : Nat} {r : Nat → Nat → Option Nat} (hf : fn_F n r) {K : S_X12_sign → Option (Int32 × fm_)} {q : Int32 × fm_} (hK : ∀ s, K s = some q → P_X12_sign n r s q) (x1 : Int32) (m : fm_)
  (h : am_k K (st_X12_sign (Sum.inr (Sum.inl ((x1, m))))) = some q) : P_X12_sign n r (Sum.inr (Sum.inl ((x1, m)))) q := fun Q hQ =>
  am_T.wp sm_X12_sign (K := am_T m_X12_sign sp_X12_sign n Q) (cuts := [23, 64, 96, 142, 167, 201, 253]) (fun _ _ _ _ h => h) 17
    (fj_in h (fun c1 h2 => hK _ h2 _ hQ) (fun c1 h2 => ⟨fn_aF hf rfl rfl, fj_if h2 (fun c3 h4 => hK _ h4 _ hQ) (fun c3 h4 => ⟨fn_aF hf rfl rfl, fj_if h4 (fun c5 h6 => hK _ h6 _ hQ) (fun c5 h6 => ⟨fn_aF hf rfl rfl, fj_in h6 (fun c7 h8 => hK _ h8 _ hQ) (fun c7 h8 => hK _ h8 _ hQ)⟩)⟩)⟩))
set_option maxRecDepth 100000 in
theorem t_X12_sign_96 {n : Nat} {r : Nat → Nat → Option Nat} (hf : fn_F n r) {K : S_X12_sign → Option (Int32 × fm_)} {q : Int32 × fm_} (hK : ∀ s, K s = some q → P_X12_sign n r s q) (x1 : Int32) (m : fm_)
  (h : am_k K (st_X12_sign (Sum.inr (Sum.inr (Sum.inl ((x1, m)))))) = some q) : P_X12_sign n r (Sum.inr (Sum.inr (Sum.inl ((x1, m))))) q := fun Q hQ =>
  am_T.wp sm_X12_sign (K := am_T m_X12_sign sp_X12_sign n Q) (cuts := [23, 64, 96, 142, 167, 201, 253]) (fun _ _ _ _ h => h) 20
    (fj_bd h fun q1 e2 h3 => ⟨Nat.le_of_ble_eq_true rfl, fn_aF hf rfl rfl, ⟨hf, none, q1.2, gp_X12_settle (n := n) (r := r)  e2, fun _ => ⟨rfl, ⟨fn_aF hf rfl rfl, fj_in h3 (fun c4 h5 => ⟨fn_aF hf rfl rfl, fj_in h5 (fun c6 h7 => fj_bd h7 fun q8 e9 h10 => ⟨Nat.le_of_ble_eq_true rfl, fn_aF hf rfl rfl, ⟨hf, none, q8.2, gp_X12_hold (n := n) (r := r)  e9, fun _ => ⟨rfl, fj_bd h10 fun q11 e12 h13 => ⟨Nat.le_of_ble_eq_true rfl, fn_aF hf rfl rfl, ⟨hf, none, q11.2, gp_X12_next (n := n) (r := r)  e12, fun _ => ⟨rfl, ⟨rfl, fj_rt h13 hQ⟩⟩⟩⟩⟩⟩⟩) (fun c6 h7 => fj_bd h7 fun q14 e15 h16 => ⟨Nat.le_of_ble_eq_true rfl, fn_aF hf rfl rfl, ⟨hf, none, q14.2, gp_X12_hold (n := n) (r := r)  e15, fun _ => ⟨rfl, fj_bd h16 fun q17 e18 h19 => ⟨Nat.le_of_ble_eq_true rfl, fn_aF hf rfl rfl, ⟨hf, none, q17.2, gp_X12_next (n := n) (r := r)  e18, fun _ => ⟨rfl, ⟨rfl, fj_rt h19 hQ⟩⟩⟩⟩⟩⟩⟩)⟩) (fun c4 h5 => fj_bd h5 fun q20 e21 h22 => ⟨Nat.le_of_ble_eq_true rfl, fn_aF hf rfl rfl, ⟨hf, none, q20.2, gp_X12_hold (n := n) (r := r)  e21, fun _ => ⟨rfl, fj_bd h22 fun q23 e24 h25 => ⟨Nat.le_of_ble_eq_true rfl, fn_aF hf rfl rfl, ⟨hf, none, q23.2, gp_X12_next (n := n) (r := r)  e24, fun _ => ⟨rfl, ⟨rfl, fj_rt h25 hQ⟩⟩⟩⟩⟩⟩⟩)⟩⟩⟩⟩)
set_option maxRecDepth 100000 in
theorem t_X12_sign_142 {n : Nat} {r : Nat → Nat → Option Nat} (hf : fn_F n r) {K : S_X12_sign → Option (Int32 × fm_)} {q : Int32 × fm_} (hK : ∀ s, K s = some q → P_X12_sign n r s q) (x1 : Int32) (m : fm_)
  (h : am_k K (st_X12_sign (Sum.inr (Sum.inr (Sum.inr (Sum.inl ((x1, m))))))) = some q) : P_X12_sign n r (Sum.inr (Sum.inr (Sum.inr (Sum.inl ((x1, m)))))) q := fun Q hQ =>
  am_T.wp sm_X12_sign (K := am_T m_X12_sign sp_X12_sign n Q) (cuts := [23, 64, 96, 142, 167, 201, 253]) (fun _ _ _ _ h => h) 13
    (fj_if h (fun c1 h2 => hK _ h2 _ hQ) (fun c1 h2 => fj_bd h2 fun q3 e4 h5 => ⟨Nat.le_of_ble_eq_true rfl, fn_aF hf rfl rfl, ⟨hf, some (.int q3.1), q3.2, gp_X12_isWord (n := n) (r := r)  e4, fun _ => fj_in h5 (fun c6 h7 => hK _ h7 _ hQ) (fun c6 h7 => fj_bd h7 fun q8 e9 h10 => ⟨Nat.le_of_ble_eq_true rfl, fn_aF hf rfl rfl, ⟨hf, some (.int q8.1), q8.2, gp_X12_isWord (n := n) (r := r)  e9, fun _ => fj_if h10 (fun c11 h12 => hK _ h12 _ hQ) (fun c11 h12 => hK _ h12 _ hQ)⟩⟩)⟩⟩))
set_option maxRecDepth 100000 in
theorem t_X12_sign_167 {n : Nat} {r : Nat → Nat → Option Nat} (hf : fn_F n r) {K : S_X12_sign → Option (Int32 × fm_)} {q : Int32 × fm_} (hK : ∀ s, K s = some q → P_X12_sign n r s q) (x1 : Int32) (m : fm_)
  (h : am_k K (st_X12_sign (Sum.inr (Sum.inr (Sum.inr (Sum.inr (Sum.inl ((x1, m)))))))) = some q) : P_X12_sign n r (Sum.inr (Sum.inr (Sum.inr (Sum.inr (Sum.inl ((x1, m))))))) q := fun Q hQ =>
  am_T.wp sm_X12_sign (K := am_T m_X12_sign sp_X12_sign n Q) (cuts := [23, 64, 96, 142, 167, 201, 253]) (fun _ _ _ _ h => h) 18
    (fj_bd h fun q1 e2 h3 => ⟨Nat.le_of_ble_eq_true rfl, fn_aF hf rfl rfl, ⟨hf, some (.int q1.1), q1.2, gp_X12_isWord (n := n) (r := r)  e2, fun _ => fj_bd h3 fun q4 e5 h6 => ⟨Nat.le_of_ble_eq_true rfl, fn_aF hf rfl rfl, ⟨hf, none, q4.2, gp_X12_settleOnes (n := n) (r := r)  e5, fun _ => ⟨rfl, fj_if h6 (fun c7 h8 => fj_bd h8 fun q9 e10 h11 => ⟨Nat.le_of_ble_eq_true rfl, fn_aF hf rfl rfl, ⟨hf, none, q9.2, gp_X12_hold (n := n) (r := r)  e10, fun _ => ⟨rfl, fj_bd h11 fun q12 e13 h14 => ⟨Nat.le_of_ble_eq_true rfl, fn_aF hf rfl rfl, ⟨hf, none, q12.2, gp_X12_next (n := n) (r := r)  e13, fun _ => ⟨rfl, ⟨rfl, fj_rt h14 hQ⟩⟩⟩⟩⟩⟩⟩) (fun c7 h8 => fj_bd h8 fun q15 e16 h17 => ⟨Nat.le_of_ble_eq_true rfl, fn_aF hf rfl rfl, ⟨hf, none, q15.2, gp_X12_hold (n := n) (r := r)  e16, fun _ => ⟨rfl, fj_bd h17 fun q18 e19 h20 => ⟨Nat.le_of_ble_eq_true rfl, fn_aF hf rfl rfl, ⟨hf, none, q18.2, gp_X12_next (n := n) (r := r)  e19, fun _ => ⟨rfl, ⟨rfl, fj_rt h20 hQ⟩⟩⟩⟩⟩⟩⟩)⟩⟩⟩⟩⟩)
set_option maxRecDepth 100000 in
theorem t_X12_sign_201 {n : Nat} {r : Nat → Nat → Option Nat} (hf : fn_F n r) {K : S_X12_sign → Option (Int32 × fm_)} {q : Int32 × fm_} (hK : ∀ s, K s = some q → P_X12_sign n r s q) (x1 : Int32) (m : fm_)
  (h : am_k K (st_X12_sign (Sum.inr (Sum.inr (Sum.inr (Sum.inr (Sum.inr (Sum.inl ((x1, m))))))))) = some q) : P_X12_sign n r (Sum.inr (Sum.inr (Sum.inr (Sum.inr (Sum.inr (Sum.inl ((x1, m)))))))) q := fun Q hQ =>
  am_T.wp sm_X12_sign (K := am_T m_X12_sign sp_X12_sign n Q) (cuts := [23, 64, 96, 142, 167, 201, 253]) (fun _ _ _ _ h => h) 30
    (fj_if h (fun c1 h2 => hK _ h2 _ hQ) (fun c1 h2 => ⟨fn_aF hf rfl rfl, fj_in h2 (fun c3 h4 => hK _ h4 _ hQ) (fun c3 h4 => fj_bd h4 fun q5 e6 h7 => ⟨Nat.le_of_ble_eq_true rfl, fn_aF hf rfl rfl, ⟨hf, some (.int q5.1), q5.2, gp_X12_isOpen (n := n) (r := r)  e6, fun _ => fj_if h7 (fun c8 h9 => hK _ h9 _ hQ) (fun c8 h9 => fj_bd h9 fun q10 e11 h12 => ⟨Nat.le_of_ble_eq_true rfl, fn_aF hf rfl rfl, ⟨hf, none, q10.2, gp_X12_settle (n := n) (r := r)  e11, fun _ => ⟨rfl, ⟨fn_aF hf rfl rfl, ⟨fn_aF hf rfl rfl, ⟨fn_aF hf rfl rfl, ⟨fn_aF hf rfl rfl, fj_bd h12 fun q13 e14 h15 => ⟨Nat.le_of_ble_eq_true rfl, fn_aF hf rfl rfl, ⟨hf, none, q13.2, gp_X12_next (n := n) (r := r)  e14, fun _ => ⟨rfl, ⟨rfl, fj_rt h15 hQ⟩⟩⟩⟩⟩⟩⟩⟩⟩⟩⟩)⟩⟩)⟩))
set_option maxRecDepth 100000 in
theorem t_X12_sign_253 {n : Nat} {r : Nat → Nat → Option Nat} (hf : fn_F n r) {K : S_X12_sign → Option (Int32 × fm_)} {q : Int32 × fm_} (hK : ∀ s, K s = some q → P_X12_sign n r s q) (x1 : Int32) (m : fm_)
  (h : am_k K (st_X12_sign (Sum.inr (Sum.inr (Sum.inr (Sum.inr (Sum.inr (Sum.inr ((x1, m))))))))) = some q) : P_X12_sign n r (Sum.inr (Sum.inr (Sum.inr (Sum.inr (Sum.inr (Sum.inr ((x1, m)))))))) q := fun Q hQ =>
  am_T.wp sm_X12_sign (K := am_T m_X12_sign sp_X12_sign n Q) (cuts := [23, 64, 96, 142, 167, 201, 253]) (fun _ _ _ _ h => h) 6
    (fj_bd h fun q1 e2 h3 => ⟨Nat.le_of_ble_eq_true rfl, fn_aF hf rfl rfl, ⟨hf, none, q1.2, gp_X12_wrong (n := n) (r := r)  e2, fun _ => ⟨rfl, ⟨rfl, fj_rt h3 hQ⟩⟩⟩⟩)
theorem l_X12_sign {n : Nat} {r : Nat → Nat → Option Nat} (hf : fn_F n r) (s : S_X12_sign) (q : Int32 × fm_) (h : am_lp (st_X12_sign) s = some q) : P_X12_sign n r s q :=
  am_lp_snd (P := P_X12_sign n r) (fun K hK s q h => match s, h with
    | Sum.inl ((x1, m)), h => t_X12_sign_23 hf (fun s => hK s q) x1 m h
    | Sum.inr (Sum.inl ((x1, m))), h => t_X12_sign_64 hf (fun s => hK s q) x1 m h
    | Sum.inr (Sum.inr (Sum.inl ((x1, m)))), h => t_X12_sign_96 hf (fun s => hK s q) x1 m h
    | Sum.inr (Sum.inr (Sum.inr (Sum.inl ((x1, m))))), h => t_X12_sign_142 hf (fun s => hK s q) x1 m h
    | Sum.inr (Sum.inr (Sum.inr (Sum.inr (Sum.inl ((x1, m)))))), h => t_X12_sign_167 hf (fun s => hK s q) x1 m h
    | Sum.inr (Sum.inr (Sum.inr (Sum.inr (Sum.inr (Sum.inl ((x1, m))))))), h => t_X12_sign_201 hf (fun s => hK s q) x1 m h
    | Sum.inr (Sum.inr (Sum.inr (Sum.inr (Sum.inr (Sum.inr ((x1, m))))))), h => t_X12_sign_253 hf (fun s => hK s q) x1 m h) s q h
set_option maxRecDepth 100000 in
theorem t_X12_sign {n : Nat} {r : Nat → Nat → Option Nat} (hf : fn_F n r) {q : Int32 × fm_} (p1 : Int32) {m : fm_}
  (h : f_X12_sign p1 m = some q) {Q : Option Value → am_W → Prop} (hQ : Q (en_i q).1 (mk_ n r q.2)) : am_T m_X12_sign sp_X12_sign n Q 0 [some (.ref 106), some (.int p1), none] [] (mk_ n r m) :=
  am_T.wp sm_X12_sign (K := am_T m_X12_sign sp_X12_sign n Q) (cuts := [23, 64, 96, 142, 167, 201, 253]) (fun _ _ _ _ h => h) 13
    (fh_if h (fun c1 h2 => l_X12_sign hf _ _ h2 _ hQ) (fun c1 h2 => ⟨fn_aF hf rfl rfl, fh_if h2 (fun c3 h4 => l_X12_sign hf _ _ h4 _ hQ) (fun c3 h4 => ⟨fn_aF hf rfl rfl, fh_in h4 (fun c5 h6 => l_X12_sign hf _ _ h6 _ hQ) (fun c5 h6 => l_X12_sign hf _ _ h6 _ hQ)⟩)⟩))
noncomputable def G_X12_sign (n : Nat) (r : Nat → Nat → Option Nat) (as : List Value) (m : fm_) : Option (Option Value × fm_) := match as with
  | [.ref x0, .int p1] => gd_ (Nat.beq x0 106) ((f_X12_sign p1 m).map en_i)
  | _ => none
set_option maxRecDepth 100000 in
theorem gp_X12_sign {n : Nat} {r : Nat → Nat → Option Nat}  {p1 : Int32} {m : fm_} {q : Int32 × fm_}  (e : f_X12_sign p1 m = some q) : G_X12_sign n r [.ref 106, .int p1] m = some (en_i q) := by
  show (gd_ (Nat.beq 106 106) ((f_X12_sign p1 m).map en_i)) = _
  exact fn_gd rfl (fn_mp e)
set_option maxRecDepth 100000 in
theorem ok_X12_sign : am_mok 12 217 m_X12_sign = true := by decide +kernel
set_option maxRecDepth 100000 in
theorem c_X12_sign (l : Launch) {g : am_G} (hg : fx_ l g) : am_Met l g 3 217 (fn_s fn_F G_X12_sign) := by
  refine am_sound (own := 12) (M := m_X12_sign) (SP := sp_X12_sign) hg.1 (by decide +kernel) ok_X12_sign (by decide +kernel) ?_ (fun q hq hk => absurd hk (am_no61 (M := m_X12_sign) (by decide +kernel) q hq)) (fn_ext l _ rfl g 12) (Or.inl (by decide +kernel)) ?_ ?_
  · intro q hq hk
    have hm : q.2.2.2.1 ∈ am_cs m_X12_sign := am_cs_in hq hk
    rw [show am_cs m_X12_sign = [210, 208, 192, 210, 208, 192, 194, 194, 194, 211, 208, 192, 212, 210, 192, 193] by decide +kernel] at hm
    have hm : q.2.2.2.1 ∈ [192, 193, 194, 208, 210, 211, 212] := (List.all_eq_true.mp (show ([210, 208, 192, 210, 208, 192, 194, 194, 194, 211, 208, 192, 212, 210, 192, 193] : List Nat).all (fun a => decide (a ∈ ([192, 193, 194, 208, 210, 211, 212] : List Nat))) = true by decide +kernel) _ hm |> of_decide_eq_true)
    simp only [List.mem_cons, List.not_mem_nil, or_false] at hm
    rcases hm with hm | hm | hm | hm | hm | hm | hm
    · rw [hm]; exact ⟨2, by omega, c_X12_next l hg⟩
    · rw [hm]; exact ⟨0, by omega, c_X12_wrong l hg⟩
    · rw [hm]; exact ⟨0, by omega, c_X12_isWord l hg⟩
    · rw [hm]; exact ⟨0, by omega, c_X12_hold l hg⟩
    · rw [hm]; exact ⟨2, by omega, c_X12_settle l hg⟩
    · rw [hm]; exact ⟨2, by omega, c_X12_settleOnes l hg⟩
    · rw [hm]; exact ⟨0, by omega, c_X12_isOpen l hg⟩
  · intro as w K h
    obtain ⟨hf, y, m1, hG, hK⟩ := h
    unfold G_X12_sign at hG
    split at hG
    · exact Nat.le_of_ble_eq_true rfl
    · cases hG
  · intro as w K h
    obtain ⟨n, i0, l0, r⟩ := w
    obtain ⟨hf, y, m1, hG, hK⟩ := h
    unfold G_X12_sign at hG
    split at hG
    · next x0 p1 =>
      obtain ⟨hx1, hG1⟩ := gd_u hG
      obtain rfl := Nat.eq_of_beq_eq_true hx1
      obtain ⟨q, hq, he⟩ := fn_mu hG1
      obtain ⟨rfl, rfl⟩ := Prod.mk.inj he
      exact t_X12_sign  hf  p1 (m := (i0, l0)) hq hK
    · cases hG

/-! == X12_named == -/
noncomputable def f_X12_named  (m : fm_) : Option (Int32 × fm_) :=
  (if (gi_ m 106 6) = 1 then
(if (lg_cmp (gl_ m 106 9) 1718969708) = 0 then
((some (1, m)))
else
(if (lg_cmp (gl_ m 106 9) 1852797549) = 0 then
((some (2, m)))
else
(if (lg_cmp (gl_ m 106 9) 1802071652) = 0 then
((some (3, m)))
else
(if (lg_cmp (gl_ m 106 9) 1752132965) = 0 then
((some (4, m)))
else
(if (lg_cmp (gl_ m 106 9) 6578553) = 0 then
((some (5, m)))
else
(if (lg_cmp (gl_ m 106 9) 120299592184933) = 0 then
((some (6, m)))
else
(if (lg_cmp (gl_ m 106 9) 28550419062547827) = 0 then
((some (7, m)))
else
(if (lg_cmp (gl_ m 106 9) 427020088179) = 0 then
((some (8, m)))
else
((some ((-1), m)))))))))))
else
((some ((-1), m))))
def sp_X12_named : am_S := fn_sp []
theorem sm_X12_named : am_Smono (sp_X12_named) := fn_sp_mono _
set_option maxRecDepth 100000 in
theorem t_X12_named {n : Nat} {r : Nat → Nat → Option Nat} (hf : fn_F n r) {q : Int32 × fm_}  {m : fm_}
  (h : f_X12_named  m = some q) {Q : Option Value → am_W → Prop} (hQ : Q (en_i q).1 (mk_ n r q.2)) : am_T m_X12_named sp_X12_named n Q 0 [some (.ref 106)] [] (mk_ n r m) :=
  am_T.wp sm_X12_named (K := am_T m_X12_named sp_X12_named n Q) (cuts := []) (fun _ _ _ _ h => h) 48
    (⟨fn_aF hf rfl rfl, fh_if h (fun c1 h2 => ⟨fn_aF hf rfl rfl, fh_in h2 (fun c3 h4 => ⟨fn_aF hf rfl rfl, fh_in h4 (fun c5 h6 => ⟨fn_aF hf rfl rfl, fh_in h6 (fun c7 h8 => ⟨fn_aF hf rfl rfl, fh_in h8 (fun c9 h10 => ⟨fn_aF hf rfl rfl, fh_in h10 (fun c11 h12 => ⟨fn_aF hf rfl rfl, fh_in h12 (fun c13 h14 => ⟨fn_aF hf rfl rfl, fh_in h14 (fun c15 h16 => ⟨fn_aF hf rfl rfl, fh_in h16 (fun c17 h18 => ⟨rfl, fh_rt h18 hQ⟩) (fun c17 h18 => ⟨rfl, fh_rt h18 hQ⟩)⟩) (fun c15 h16 => ⟨rfl, fh_rt h16 hQ⟩)⟩) (fun c13 h14 => ⟨rfl, fh_rt h14 hQ⟩)⟩) (fun c11 h12 => ⟨rfl, fh_rt h12 hQ⟩)⟩) (fun c9 h10 => ⟨rfl, fh_rt h10 hQ⟩)⟩) (fun c7 h8 => ⟨rfl, fh_rt h8 hQ⟩)⟩) (fun c5 h6 => ⟨rfl, fh_rt h6 hQ⟩)⟩) (fun c3 h4 => ⟨rfl, fh_rt h4 hQ⟩)⟩) (fun c1 h2 => ⟨rfl, fh_rt h2 hQ⟩)⟩)
noncomputable def G_X12_named (n : Nat) (r : Nat → Nat → Option Nat) (as : List Value) (m : fm_) : Option (Option Value × fm_) := match as with
  | [.ref x0] => gd_ (Nat.beq x0 106) ((f_X12_named  m).map en_i)
  | _ => none
set_option maxRecDepth 100000 in
theorem gp_X12_named {n : Nat} {r : Nat → Nat → Option Nat}   {m : fm_} {q : Int32 × fm_}  (e : f_X12_named  m = some q) : G_X12_named n r [.ref 106] m = some (en_i q) := by
  show (gd_ (Nat.beq 106 106) ((f_X12_named  m).map en_i)) = _
  exact fn_gd rfl (fn_mp e)
set_option maxRecDepth 100000 in
theorem ok_X12_named : am_mok 12 214 m_X12_named = true := by decide +kernel
set_option maxRecDepth 100000 in
theorem c_X12_named (l : Launch) {g : am_G} (hg : fx_ l g) : am_Met l g 0 214 (fn_s fn_F G_X12_named) := by
  refine am_sound (own := 12) (M := m_X12_named) (SP := sp_X12_named) hg.1 (by decide +kernel) ok_X12_named (by decide +kernel) ?_ (fun q hq hk => absurd hk (am_no61 (M := m_X12_named) (by decide +kernel) q hq)) (fn_ext l _ rfl g 12) (Or.inl (by decide +kernel)) ?_ ?_
  · intro q hq hk
    have hm : q.2.2.2.1 ∈ am_cs m_X12_named := am_cs_in hq hk
    rw [show am_cs m_X12_named = [] by decide +kernel] at hm
    cases hm
  · intro as w K h
    obtain ⟨hf, y, m1, hG, hK⟩ := h
    unfold G_X12_named at hG
    split at hG
    · exact Nat.le_of_ble_eq_true rfl
    · cases hG
  · intro as w K h
    obtain ⟨n, i0, l0, r⟩ := w
    obtain ⟨hf, y, m1, hG, hK⟩ := h
    unfold G_X12_named at hG
    split at hG
    · next x0 =>
      obtain ⟨hx1, hG1⟩ := gd_u hG
      obtain rfl := Nat.eq_of_beq_eq_true hx1
      obtain ⟨q, hq, he⟩ := fn_mu hG1
      obtain ⟨rfl, rfl⟩ := Prod.mk.inj he
      exact t_X12_named  hf   (m := (i0, l0)) hq hK
    · cases hG

/-! == X12_mayAsk == -/
noncomputable def f_X12_mayAsk (p1 : Int32) (m : fm_) : Option (Int32 × fm_) :=
  (if p1 = 8 then
(if (gi_ m 106 54) < 6 then
((some (0, m)))
else
((some (1, m))))
else
(if p1 = 6 then
(if (gi_ m 106 54) = 7 then
((some (1, m)))
else
((some (0, m))))
else
(if p1 = 7 then
(if (gi_ m 106 54) = 7 then
((some (1, m)))
else
((some (0, m))))
else
((some (1, m))))))
def sp_X12_mayAsk : am_S := fn_sp []
theorem sm_X12_mayAsk : am_Smono (sp_X12_mayAsk) := fn_sp_mono _
set_option maxRecDepth 100000 in
theorem t_X12_mayAsk {n : Nat} {r : Nat → Nat → Option Nat} (hf : fn_F n r) {q : Int32 × fm_} (p1 : Int32) {m : fm_}
  (h : f_X12_mayAsk p1 m = some q) {Q : Option Value → am_W → Prop} (hQ : Q (en_i q).1 (mk_ n r q.2)) : am_T m_X12_mayAsk sp_X12_mayAsk n Q 0 [some (.ref 106), some (.int p1)] [] (mk_ n r m) :=
  am_T.wp sm_X12_mayAsk (K := am_T m_X12_mayAsk sp_X12_mayAsk n Q) (cuts := []) (fun _ _ _ _ h => h) 17
    (fh_in h (fun c1 h2 => fh_if h2 (fun c3 h4 => ⟨fn_aF hf rfl rfl, fh_in h4 (fun c5 h6 => ⟨rfl, Or.inl rfl, fh_rt h6 hQ⟩) (fun c5 h6 => ⟨rfl, Or.inr rfl, fh_rt h6 hQ⟩)⟩) (fun c3 h4 => fh_in h4 (fun c7 h8 => ⟨rfl, Or.inr rfl, fh_rt h8 hQ⟩) (fun c7 h8 => ⟨fn_aF hf rfl rfl, fh_in h8 (fun c9 h10 => ⟨rfl, Or.inl rfl, fh_rt h10 hQ⟩) (fun c9 h10 => ⟨rfl, Or.inr rfl, fh_rt h10 hQ⟩)⟩))) (fun c1 h2 => ⟨fn_aF hf rfl rfl, fh_if h2 (fun c11 h12 => ⟨rfl, Or.inl rfl, fh_rt h12 hQ⟩) (fun c11 h12 => ⟨rfl, Or.inr rfl, fh_rt h12 hQ⟩)⟩))
noncomputable def G_X12_mayAsk (n : Nat) (r : Nat → Nat → Option Nat) (as : List Value) (m : fm_) : Option (Option Value × fm_) := match as with
  | [.ref x0, .int p1] => gd_ (Nat.beq x0 106) ((f_X12_mayAsk p1 m).map en_i)
  | _ => none
set_option maxRecDepth 100000 in
theorem gp_X12_mayAsk {n : Nat} {r : Nat → Nat → Option Nat}  {p1 : Int32} {m : fm_} {q : Int32 × fm_}  (e : f_X12_mayAsk p1 m = some q) : G_X12_mayAsk n r [.ref 106, .int p1] m = some (en_i q) := by
  show (gd_ (Nat.beq 106 106) ((f_X12_mayAsk p1 m).map en_i)) = _
  exact fn_gd rfl (fn_mp e)
set_option maxRecDepth 100000 in
theorem ok_X12_mayAsk : am_mok 12 215 m_X12_mayAsk = true := by decide +kernel
set_option maxRecDepth 100000 in
theorem c_X12_mayAsk (l : Launch) {g : am_G} (hg : fx_ l g) : am_Met l g 0 215 (fn_s fn_F G_X12_mayAsk) := by
  refine am_sound (own := 12) (M := m_X12_mayAsk) (SP := sp_X12_mayAsk) hg.1 (by decide +kernel) ok_X12_mayAsk (by decide +kernel) ?_ (fun q hq hk => absurd hk (am_no61 (M := m_X12_mayAsk) (by decide +kernel) q hq)) (fn_ext l _ rfl g 12) (Or.inl (by decide +kernel)) ?_ ?_
  · intro q hq hk
    have hm : q.2.2.2.1 ∈ am_cs m_X12_mayAsk := am_cs_in hq hk
    rw [show am_cs m_X12_mayAsk = [] by decide +kernel] at hm
    cases hm
  · intro as w K h
    obtain ⟨hf, y, m1, hG, hK⟩ := h
    unfold G_X12_mayAsk at hG
    split at hG
    · exact Nat.le_of_ble_eq_true rfl
    · cases hG
  · intro as w K h
    obtain ⟨n, i0, l0, r⟩ := w
    obtain ⟨hf, y, m1, hG, hK⟩ := h
    unfold G_X12_mayAsk at hG
    split at hG
    · next x0 p1 =>
      obtain ⟨hx1, hG1⟩ := gd_u hG
      obtain rfl := Nat.eq_of_beq_eq_true hx1
      obtain ⟨q, hq, he⟩ := fn_mu hG1
      obtain ⟨rfl, rfl⟩ := Prod.mk.inj he
      exact t_X12_mayAsk  hf  p1 (m := (i0, l0)) hq hK
    · cases hG

