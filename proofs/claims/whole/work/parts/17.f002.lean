/-! == X8_scanWord == -/
abbrev S_X8_scanWord : Type := (Int32 × Int32 × fm_)
noncomputable def st_X8_scanWord (s : S_X8_scanWord) : Option (S_X8_scanWord ⊕ (Int32 × fm_)) := match s with
  | (x1, x2, m) =>
    (if (gi_ m 1 4) ≤ x2 then
(if (x2 - x1) ≤ 8 then
(Option.bind (f_X8_lineWord x1 x2 m) fun q5 =>
(if q5.1 = 4 then
(Option.bind (f_X8_innerWord x1 x2 q5.2) fun q13 =>
(Option.bind (f_X8_put q13.1 0 x1 q13.2) fun q16 =>
((some (Sum.inr (x2, q16.2))))))
else
(Option.bind (f_X8_put q5.1 0 x1 q5.2) fun q10 =>
((some (Sum.inr (x2, q10.2)))))))
else
((some (Sum.inr (x1, m)))))
else
(Option.bind (f_X8_byteAt x2 m) fun q19 =>
(Option.bind (f_X8_isLetter q19.1 q19.2) fun q22 =>
(if q22.1 = 0 then
(if (x2 - x1) ≤ 8 then
(Option.bind (f_X8_lineWord x1 x2 q22.2) fun q29 =>
(if q29.1 = 4 then
(Option.bind (f_X8_innerWord x1 x2 q29.2) fun q37 =>
(Option.bind (f_X8_put q37.1 0 x1 q37.2) fun q40 =>
((some (Sum.inr (x2, q40.2))))))
else
(Option.bind (f_X8_put q29.1 0 x1 q29.2) fun q34 =>
((some (Sum.inr (x2, q34.2)))))))
else
((some (Sum.inr (x1, q22.2)))))
else
((some (Sum.inl ((x1, (x2 + 1), q22.2)))))))))
noncomputable def f_X8_scanWord_2 (x1 : Int32) (x2 : Int32) (m : fm_) : Option (Int32 × fm_) := am_lp (st_X8_scanWord) ((x1, x2, m))
theorem e_X8_scanWord_2 (x1 : Int32) (x2 : Int32) (m : fm_) : f_X8_scanWord_2 x1 x2 m =
(if (gi_ m 1 4) ≤ x2 then
(if (x2 - x1) ≤ 8 then
(Option.bind (f_X8_lineWord x1 x2 m) fun q5 =>
(if q5.1 = 4 then
(Option.bind (f_X8_innerWord x1 x2 q5.2) fun q13 =>
(Option.bind (f_X8_put q13.1 0 x1 q13.2) fun q16 =>
((some (x2, q16.2)))))
else
(Option.bind (f_X8_put q5.1 0 x1 q5.2) fun q10 =>
((some (x2, q10.2))))))
else
((some (x1, m))))
else
(Option.bind (f_X8_byteAt x2 m) fun q19 =>
(Option.bind (f_X8_isLetter q19.1 q19.2) fun q22 =>
(if q22.1 = 0 then
(if (x2 - x1) ≤ 8 then
(Option.bind (f_X8_lineWord x1 x2 q22.2) fun q29 =>
(if q29.1 = 4 then
(Option.bind (f_X8_innerWord x1 x2 q29.2) fun q37 =>
(Option.bind (f_X8_put q37.1 0 x1 q37.2) fun q40 =>
((some (x2, q40.2)))))
else
(Option.bind (f_X8_put q29.1 0 x1 q29.2) fun q34 =>
((some (x2, q34.2))))))
else
((some (x1, q22.2))))
else
((f_X8_scanWord_2 x1 (x2 + 1) q22.2)))))) :=
  (am_lp_eq _ _).trans (fe_if (fe_if (fe_bd fun q5 => (fe_if (fe_bd fun q13 => (fe_bd fun q16 => (rfl))) (fe_bd fun q10 => (rfl)))) (rfl)) (fe_bd fun q19 => (fe_bd fun q22 => (fe_if (fe_if (fe_bd fun q29 => (fe_if (fe_bd fun q37 => (fe_bd fun q40 => (rfl))) (fe_bd fun q34 => (rfl)))) (rfl)) (rfl)))))
noncomputable def f_X8_scanWord (p1 : Int32) (m : fm_) : Option (Int32 × fm_) :=
  ((f_X8_scanWord_2 p1 p1 m))
def sp_X8_scanWord : am_S := fn_sp [(101, fn_F, G_X8_byteAt), (113, fn_0, G_X8_isLetter), (108, fn_F, G_X8_lineWord), (109, fn_F, G_X8_innerWord), (100, fn_F, G_X8_put)]
theorem sm_X8_scanWord : am_Smono (sp_X8_scanWord) := fn_sp_mono _
def P_X8_scanWord (n : Nat) (r : Nat → Nat → Option Nat) (s : S_X8_scanWord) (q : Int32 × fm_) : Prop := match s with
  | (x1, x2, m) => ∀ (Q : Option Value → am_W → Prop), Q (en_i q).1 (mk_ n r q.2) → am_T m_X8_scanWord sp_X8_scanWord n Q 2 [some (.ref 1), some (.int x1), some (.int x2), none] [] (mk_ n r m)
set_option maxRecDepth 100000 in
theorem t_X8_scanWord_2 {n : Nat} {r : Nat → Nat → Option Nat} (hf : fn_F n r) {K : S_X8_scanWord → Option (Int32 × fm_)} {q : Int32 × fm_} (hK : ∀ s, K s = some q → P_X8_scanWord n r s q) (x1 : Int32) (x2 : Int32) (m : fm_)
  (h : am_k K (st_X8_scanWord ((x1, x2, m))) = some q) : P_X8_scanWord n r ((x1, x2, m)) q := fun Q hQ =>
  am_T.wp sm_X8_scanWord (K := am_T m_X8_scanWord sp_X8_scanWord n Q) (cuts := [2]) (fun _ _ _ _ h => h) 34
    (⟨fn_aF hf rfl rfl, fj_if h (fun c1 h2 => fj_if h2 (fun c3 h4 => fj_bd h4 fun q5 e6 h7 => ⟨Nat.le_of_ble_eq_true rfl, fn_aF hf rfl rfl, ⟨hf, some (.int q5.1), q5.2, gp_X8_lineWord (n := n) (r := r)  e6, fun _ => fj_in h7 (fun c8 h9 => fj_bd h9 fun q10 e11 h12 => ⟨Nat.le_of_ble_eq_true rfl, fn_aF hf rfl rfl, ⟨hf, none, q10.2, gp_X8_put (n := n) (r := r)  e11, fun _ => ⟨rfl, ⟨rfl, fj_rt h12 hQ⟩⟩⟩⟩) (fun c8 h9 => fj_bd h9 fun q13 e14 h15 => ⟨Nat.le_of_ble_eq_true rfl, fn_aF hf rfl rfl, ⟨hf, some (.int q13.1), q13.2, gp_X8_innerWord (n := n) (r := r)  e14, fun _ => fj_bd h15 fun q16 e17 h18 => ⟨Nat.le_of_ble_eq_true rfl, fn_aF hf rfl rfl, ⟨hf, none, q16.2, gp_X8_put (n := n) (r := r)  e17, fun _ => ⟨rfl, ⟨rfl, fj_rt h18 hQ⟩⟩⟩⟩⟩⟩)⟩⟩) (fun c3 h4 => ⟨rfl, fj_rt h4 hQ⟩)) (fun c1 h2 => fj_bd h2 fun q19 e20 h21 => ⟨Nat.le_of_ble_eq_true rfl, fn_aF hf rfl rfl, ⟨hf, some (.int q19.1), q19.2, gp_X8_byteAt (n := n) (r := r)  e20, fun _ => fj_bd h21 fun q22 e23 h24 => ⟨Nat.le_of_ble_eq_true rfl, trivial, ⟨trivial, some (.int q22.1), q22.2, gp_X8_isLetter (n := n) (r := r)  e23, fun _ => fj_if h24 (fun c25 h26 => fj_if h26 (fun c27 h28 => fj_bd h28 fun q29 e30 h31 => ⟨Nat.le_of_ble_eq_true rfl, fn_aF hf rfl rfl, ⟨hf, some (.int q29.1), q29.2, gp_X8_lineWord (n := n) (r := r)  e30, fun _ => fj_in h31 (fun c32 h33 => fj_bd h33 fun q34 e35 h36 => ⟨Nat.le_of_ble_eq_true rfl, fn_aF hf rfl rfl, ⟨hf, none, q34.2, gp_X8_put (n := n) (r := r)  e35, fun _ => ⟨rfl, ⟨rfl, fj_rt h36 hQ⟩⟩⟩⟩) (fun c32 h33 => fj_bd h33 fun q37 e38 h39 => ⟨Nat.le_of_ble_eq_true rfl, fn_aF hf rfl rfl, ⟨hf, some (.int q37.1), q37.2, gp_X8_innerWord (n := n) (r := r)  e38, fun _ => fj_bd h39 fun q40 e41 h42 => ⟨Nat.le_of_ble_eq_true rfl, fn_aF hf rfl rfl, ⟨hf, none, q40.2, gp_X8_put (n := n) (r := r)  e41, fun _ => ⟨rfl, ⟨rfl, fj_rt h42 hQ⟩⟩⟩⟩⟩⟩)⟩⟩) (fun c27 h28 => ⟨rfl, fj_rt h28 hQ⟩)) (fun c25 h26 => hK _ h26 _ hQ)⟩⟩⟩⟩)⟩)
theorem l_X8_scanWord {n : Nat} {r : Nat → Nat → Option Nat} (hf : fn_F n r) (s : S_X8_scanWord) (q : Int32 × fm_) (h : am_lp (st_X8_scanWord) s = some q) : P_X8_scanWord n r s q :=
  am_lp_snd (P := P_X8_scanWord n r) (fun K hK s q h => match s, h with
    | (x1, x2, m), h => t_X8_scanWord_2 hf (fun s => hK s q) x1 x2 m h) s q h
set_option maxRecDepth 100000 in
theorem t_X8_scanWord {n : Nat} {r : Nat → Nat → Option Nat} (hf : fn_F n r) {q : Int32 × fm_} (p1 : Int32) {m : fm_}
  (h : f_X8_scanWord p1 m = some q) {Q : Option Value → am_W → Prop} (hQ : Q (en_i q).1 (mk_ n r q.2)) : am_T m_X8_scanWord sp_X8_scanWord n Q 0 [some (.ref 1), some (.int p1), none, none] [] (mk_ n r m) :=
  am_T.wp sm_X8_scanWord (K := am_T m_X8_scanWord sp_X8_scanWord n Q) (cuts := [2]) (fun _ _ _ _ h => h) 4
    (l_X8_scanWord hf _ _ h _ hQ)
noncomputable def G_X8_scanWord (n : Nat) (r : Nat → Nat → Option Nat) (as : List Value) (m : fm_) : Option (Option Value × fm_) := match as with
  | [.ref x0, .int p1] => gd_ (Nat.beq x0 1) ((f_X8_scanWord p1 m).map en_i)
  | _ => none
set_option maxRecDepth 100000 in
theorem gp_X8_scanWord {n : Nat} {r : Nat → Nat → Option Nat}  {p1 : Int32} {m : fm_} {q : Int32 × fm_}  (e : f_X8_scanWord p1 m = some q) : G_X8_scanWord n r [.ref 1, .int p1] m = some (en_i q) := by
  show (gd_ (Nat.beq 1 1) ((f_X8_scanWord p1 m).map en_i)) = _
  exact fn_gd rfl (fn_mp e)
set_option maxRecDepth 100000 in
theorem ok_X8_scanWord : am_mok 8 105 m_X8_scanWord = true := by decide +kernel
set_option maxRecDepth 100000 in
theorem c_X8_scanWord (l : Launch) {g : am_G} (hg : fx_ l g) : am_Met l g 6 105 (fn_s fn_F G_X8_scanWord) := by
  refine am_sound (own := 8) (M := m_X8_scanWord) (SP := sp_X8_scanWord) hg.1 (by decide +kernel) ok_X8_scanWord (by decide +kernel) ?_ (fun q hq hk => absurd hk (am_no61 (M := m_X8_scanWord) (by decide +kernel) q hq)) (fn_ext l _ rfl g 8) (Or.inl (by decide +kernel)) ?_ ?_
  · intro q hq hk
    have hm : q.2.2.2.1 ∈ am_cs m_X8_scanWord := am_cs_in hq hk
    rw [show am_cs m_X8_scanWord = [101, 113, 108, 109, 100] by decide +kernel] at hm
    have hm : q.2.2.2.1 ∈ [100, 101, 108, 109, 113] := (List.all_eq_true.mp (show ([101, 113, 108, 109, 100] : List Nat).all (fun a => decide (a ∈ ([100, 101, 108, 109, 113] : List Nat))) = true by decide +kernel) _ hm |> of_decide_eq_true)
    simp only [List.mem_cons, List.not_mem_nil, or_false] at hm
    rcases hm with hm | hm | hm | hm | hm
    · rw [hm]; exact ⟨0, by omega, c_X8_put l hg⟩
    · rw [hm]; exact ⟨0, by omega, c_X8_byteAt l hg⟩
    · rw [hm]; exact ⟨5, by omega, c_X8_lineWord l hg⟩
    · rw [hm]; exact ⟨5, by omega, c_X8_innerWord l hg⟩
    · rw [hm]; exact ⟨0, by omega, c_X8_isLetter l hg⟩
  · intro as w K h
    obtain ⟨hf, y, m1, hG, hK⟩ := h
    unfold G_X8_scanWord at hG
    split at hG
    · exact Nat.le_of_ble_eq_true rfl
    · cases hG
  · intro as w K h
    obtain ⟨n, i0, l0, r⟩ := w
    obtain ⟨hf, y, m1, hG, hK⟩ := h
    unfold G_X8_scanWord at hG
    split at hG
    · next x0 p1 =>
      obtain ⟨hx1, hG1⟩ := gd_u hG
      obtain rfl := Nat.eq_of_beq_eq_true hx1
      obtain ⟨q, hq, he⟩ := fn_mu hG1
      obtain ⟨rfl, rfl⟩ := Prod.mk.inj he
      exact t_X8_scanWord  hf  p1 (m := (i0, l0)) hq hK
    · cases hG

/-! == X8_isMark == -/
noncomputable def f_X8_isMark (p1 : Int32) (m : fm_) : Option (Int32 × fm_) :=
  (if p1 = 59 then
((some (1, m)))
else
(if p1 = 40 then
((some (1, m)))
else
(if p1 = 41 then
((some (1, m)))
else
(if p1 = 60 then
((some (1, m)))
else
(if p1 = 62 then
((some (1, m)))
else
(if p1 = 61 then
((some (1, m)))
else
(if p1 = 43 then
((some (1, m)))
else
(if p1 = 45 then
((some (1, m)))
else
((some (0, m)))))))))))
def sp_X8_isMark : am_S := fn_sp []
theorem sm_X8_isMark : am_Smono (sp_X8_isMark) := fn_sp_mono _
set_option maxRecDepth 100000 in
theorem t_X8_isMark {n : Nat} {r : Nat → Nat → Option Nat} (hf : fn_0 n r) {q : Int32 × fm_} (p1 : Int32) {m : fm_}
  (h : f_X8_isMark p1 m = some q) {Q : Option Value → am_W → Prop} (hQ : Q (en_i q).1 (mk_ n r q.2)) : am_T m_X8_isMark sp_X8_isMark n Q 0 [some (.int p1)] [] (mk_ n r m) :=
  am_T.wp sm_X8_isMark (K := am_T m_X8_isMark sp_X8_isMark n Q) (cuts := []) (fun _ _ _ _ h => h) 28
    (fh_if h (fun c1 h2 => ⟨rfl, Or.inr rfl, fh_rt h2 hQ⟩) (fun c1 h2 => fh_if h2 (fun c3 h4 => ⟨rfl, Or.inr rfl, fh_rt h4 hQ⟩) (fun c3 h4 => fh_if h4 (fun c5 h6 => ⟨rfl, Or.inr rfl, fh_rt h6 hQ⟩) (fun c5 h6 => fh_if h6 (fun c7 h8 => ⟨rfl, Or.inr rfl, fh_rt h8 hQ⟩) (fun c7 h8 => fh_if h8 (fun c9 h10 => ⟨rfl, Or.inr rfl, fh_rt h10 hQ⟩) (fun c9 h10 => fh_if h10 (fun c11 h12 => ⟨rfl, Or.inr rfl, fh_rt h12 hQ⟩) (fun c11 h12 => fh_if h12 (fun c13 h14 => ⟨rfl, Or.inr rfl, fh_rt h14 hQ⟩) (fun c13 h14 => fh_in h14 (fun c15 h16 => ⟨rfl, Or.inl rfl, fh_rt h16 hQ⟩) (fun c15 h16 => ⟨rfl, Or.inr rfl, fh_rt h16 hQ⟩)))))))))
noncomputable def G_X8_isMark (n : Nat) (r : Nat → Nat → Option Nat) (as : List Value) (m : fm_) : Option (Option Value × fm_) := match as with
  | [.int p1] => (f_X8_isMark p1 m).map en_i
  | _ => none
set_option maxRecDepth 100000 in
theorem gp_X8_isMark {n : Nat} {r : Nat → Nat → Option Nat}  {p1 : Int32} {m : fm_} {q : Int32 × fm_}  (e : f_X8_isMark p1 m = some q) : G_X8_isMark n r [.int p1] m = some (en_i q) := by
  show ((f_X8_isMark p1 m).map en_i) = _
  exact fn_mp e
set_option maxRecDepth 100000 in
theorem ok_X8_isMark : am_mok 8 114 m_X8_isMark = true := by decide +kernel
set_option maxRecDepth 100000 in
theorem c_X8_isMark (l : Launch) {g : am_G} (hg : fx_ l g) : am_Met l g 0 114 (fn_s fn_0 G_X8_isMark) := by
  refine am_sound (own := 8) (M := m_X8_isMark) (SP := sp_X8_isMark) hg.1 (by decide +kernel) ok_X8_isMark (by decide +kernel) ?_ (fun q hq hk => absurd hk (am_no61 (M := m_X8_isMark) (by decide +kernel) q hq)) (fn_ext l _ rfl g 8) (Or.inl (by decide +kernel)) ?_ ?_
  · intro q hq hk
    have hm : q.2.2.2.1 ∈ am_cs m_X8_isMark := am_cs_in hq hk
    rw [show am_cs m_X8_isMark = [] by decide +kernel] at hm
    cases hm
  · intro as w K h
    obtain ⟨hf, y, m1, hG, hK⟩ := h
    unfold G_X8_isMark at hG
    split at hG
    · exact Nat.le_of_ble_eq_true rfl
    · cases hG
  · intro as w K h
    obtain ⟨n, i0, l0, r⟩ := w
    obtain ⟨hf, y, m1, hG, hK⟩ := h
    unfold G_X8_isMark at hG
    split at hG
    · next p1 =>
      obtain ⟨q, hq, he⟩ := fn_mu hG
      obtain ⟨rfl, rfl⟩ := Prod.mk.inj he
      exact t_X8_isMark  hf  p1 (m := (i0, l0)) hq hK
    · cases hG

/-! == X8_scan == -/
noncomputable def f_X8_scan (p1 : Int32) (m : fm_) : Option (Int32 × fm_) :=
  (Option.bind (f_X8_byteAt p1 m) fun q1 =>
(Option.bind (f_X8_isDigit q1.1 q1.2) fun q4 =>
(if q4.1 = 0 then
(Option.bind (f_X8_isLetter q1.1 q4.2) fun q9 =>
(if q9.1 = 0 then
(Option.bind (f_X8_isMark q1.1 q9.2) fun q14 =>
(if q14.1 = 0 then
((some (p1, q14.2)))
else
(Option.bind (f_X8_put q1.1 0 p1 q14.2) fun q19 =>
((some ((p1 + 1), q19.2))))))
else
(if q1.1 = 112 then
(Option.bind (f_X8_scanPoint p1 q9.2) fun q29 =>
(if q29.1 ≤ p1 then
(Option.bind (f_X8_scanWord p1 q29.2) fun q34 =>
((some (q34.1, q34.2))))
else
((some (q29.1, q29.2)))))
else
(if p1 ≤ p1 then
(Option.bind (f_X8_scanWord p1 q9.2) fun q26 =>
((some (q26.1, q26.2))))
else
((some (p1, q9.2)))))))
else
(Option.bind (f_X8_scanNumber p1 q4.2) fun q37 =>
((some (q37.1, q37.2)))))))
def sp_X8_scan : am_S := fn_sp [(101, fn_F, G_X8_byteAt), (112, fn_0, G_X8_isDigit), (103, fn_F, G_X8_scanNumber), (113, fn_0, G_X8_isLetter), (104, fn_F, G_X8_scanPoint), (105, fn_F, G_X8_scanWord), (114, fn_0, G_X8_isMark), (100, fn_F, G_X8_put)]
theorem sm_X8_scan : am_Smono (sp_X8_scan) := fn_sp_mono _
set_option maxRecDepth 100000 in
theorem t_X8_scan {n : Nat} {r : Nat → Nat → Option Nat} (hf : fn_F n r) {q : Int32 × fm_} (p1 : Int32) {m : fm_}
  (h : f_X8_scan p1 m = some q) {Q : Option Value → am_W → Prop} (hQ : Q (en_i q).1 (mk_ n r q.2)) : am_T m_X8_scan sp_X8_scan n Q 0 [some (.ref 1), some (.int p1), none, none] [] (mk_ n r m) :=
  am_T.wp sm_X8_scan (K := am_T m_X8_scan sp_X8_scan n Q) (cuts := []) (fun _ _ _ _ h => h) 26
    (fh_bd h fun q1 e2 h3 => ⟨Nat.le_of_ble_eq_true rfl, fn_aF hf rfl rfl, ⟨hf, some (.int q1.1), q1.2, gp_X8_byteAt (n := n) (r := r)  e2, fun _ => fh_bd h3 fun q4 e5 h6 => ⟨Nat.le_of_ble_eq_true rfl, trivial, ⟨trivial, some (.int q4.1), q4.2, gp_X8_isDigit (n := n) (r := r)  e5, fun _ => fh_if h6 (fun c7 h8 => fh_bd h8 fun q9 e10 h11 => ⟨Nat.le_of_ble_eq_true rfl, trivial, ⟨trivial, some (.int q9.1), q9.2, gp_X8_isLetter (n := n) (r := r)  e10, fun _ => fh_if h11 (fun c12 h13 => fh_bd h13 fun q14 e15 h16 => ⟨Nat.le_of_ble_eq_true rfl, trivial, ⟨trivial, some (.int q14.1), q14.2, gp_X8_isMark (n := n) (r := r)  e15, fun _ => fh_in h16 (fun c17 h18 => fh_bd h18 fun q19 e20 h21 => ⟨Nat.le_of_ble_eq_true rfl, fn_aF hf rfl rfl, ⟨hf, none, q19.2, gp_X8_put (n := n) (r := r)  e20, fun _ => ⟨rfl, ⟨rfl, fh_rt h21 hQ⟩⟩⟩⟩) (fun c17 h18 => ⟨rfl, fh_rt h18 hQ⟩)⟩⟩) (fun c12 h13 => fh_in h13 (fun c22 h23 => fh_if h23 (fun c24 h25 => fh_bd h25 fun q26 e27 h28 => ⟨Nat.le_of_ble_eq_true rfl, fn_aF hf rfl rfl, ⟨hf, some (.int q26.1), q26.2, gp_X8_scanWord (n := n) (r := r)  e27, fun _ => ⟨rfl, fh_rt h28 hQ⟩⟩⟩) (fun c24 h25 => ⟨rfl, fh_rt h25 hQ⟩)) (fun c22 h23 => fh_bd h23 fun q29 e30 h31 => ⟨Nat.le_of_ble_eq_true rfl, fn_aF hf rfl rfl, ⟨hf, some (.int q29.1), q29.2, gp_X8_scanPoint (n := n) (r := r)  e30, fun _ => fh_if h31 (fun c32 h33 => fh_bd h33 fun q34 e35 h36 => ⟨Nat.le_of_ble_eq_true rfl, fn_aF hf rfl rfl, ⟨hf, some (.int q34.1), q34.2, gp_X8_scanWord (n := n) (r := r)  e35, fun _ => ⟨rfl, fh_rt h36 hQ⟩⟩⟩) (fun c32 h33 => ⟨rfl, fh_rt h33 hQ⟩)⟩⟩))⟩⟩) (fun c7 h8 => fh_bd h8 fun q37 e38 h39 => ⟨Nat.le_of_ble_eq_true rfl, fn_aF hf rfl rfl, ⟨hf, some (.int q37.1), q37.2, gp_X8_scanNumber (n := n) (r := r)  e38, fun _ => ⟨rfl, fh_rt h39 hQ⟩⟩⟩)⟩⟩⟩⟩)
noncomputable def G_X8_scan (n : Nat) (r : Nat → Nat → Option Nat) (as : List Value) (m : fm_) : Option (Option Value × fm_) := match as with
  | [.ref x0, .int p1] => gd_ (Nat.beq x0 1) ((f_X8_scan p1 m).map en_i)
  | _ => none
set_option maxRecDepth 100000 in
theorem gp_X8_scan {n : Nat} {r : Nat → Nat → Option Nat}  {p1 : Int32} {m : fm_} {q : Int32 × fm_}  (e : f_X8_scan p1 m = some q) : G_X8_scan n r [.ref 1, .int p1] m = some (en_i q) := by
  show (gd_ (Nat.beq 1 1) ((f_X8_scan p1 m).map en_i)) = _
  exact fn_gd rfl (fn_mp e)
set_option maxRecDepth 100000 in
theorem ok_X8_scan : am_mok 8 102 m_X8_scan = true := by decide +kernel
set_option maxRecDepth 100000 in
theorem c_X8_scan (l : Launch) {g : am_G} (hg : fx_ l g) : am_Met l g 7 102 (fn_s fn_F G_X8_scan) := by
  refine am_sound (own := 8) (M := m_X8_scan) (SP := sp_X8_scan) hg.1 (by decide +kernel) ok_X8_scan (by decide +kernel) ?_ (fun q hq hk => absurd hk (am_no61 (M := m_X8_scan) (by decide +kernel) q hq)) (fn_ext l _ rfl g 8) (Or.inl (by decide +kernel)) ?_ ?_
  · intro q hq hk
    have hm : q.2.2.2.1 ∈ am_cs m_X8_scan := am_cs_in hq hk
    rw [show am_cs m_X8_scan = [101, 112, 103, 113, 104, 105, 114, 100] by decide +kernel] at hm
    have hm : q.2.2.2.1 ∈ [100, 101, 103, 104, 105, 112, 113, 114] := (List.all_eq_true.mp (show ([101, 112, 103, 113, 104, 105, 114, 100] : List Nat).all (fun a => decide (a ∈ ([100, 101, 103, 104, 105, 112, 113, 114] : List Nat))) = true by decide +kernel) _ hm |> of_decide_eq_true)
    simp only [List.mem_cons, List.not_mem_nil, or_false] at hm
    rcases hm with hm | hm | hm | hm | hm | hm | hm | hm
    · rw [hm]; exact ⟨0, by omega, c_X8_put l hg⟩
    · rw [hm]; exact ⟨0, by omega, c_X8_byteAt l hg⟩
    · rw [hm]; exact ⟨2, by omega, c_X8_scanNumber l hg⟩
    · rw [hm]; exact ⟨2, by omega, c_X8_scanPoint l hg⟩
    · rw [hm]; exact ⟨6, by omega, c_X8_scanWord l hg⟩
    · rw [hm]; exact ⟨0, by omega, c_X8_isDigit l hg⟩
    · rw [hm]; exact ⟨0, by omega, c_X8_isLetter l hg⟩
    · rw [hm]; exact ⟨0, by omega, c_X8_isMark l hg⟩
  · intro as w K h
    obtain ⟨hf, y, m1, hG, hK⟩ := h
    unfold G_X8_scan at hG
    split at hG
    · exact Nat.le_of_ble_eq_true rfl
    · cases hG
  · intro as w K h
    obtain ⟨n, i0, l0, r⟩ := w
    obtain ⟨hf, y, m1, hG, hK⟩ := h
    unfold G_X8_scan at hG
    split at hG
    · next x0 p1 =>
      obtain ⟨hx1, hG1⟩ := gd_u hG
      obtain rfl := Nat.eq_of_beq_eq_true hx1
      obtain ⟨q, hq, he⟩ := fn_mu hG1
      obtain ⟨rfl, rfl⟩ := Prod.mk.inj he
      exact t_X8_scan  hf  p1 (m := (i0, l0)) hq hK
    · cases hG

/-! == X8_split == -/
abbrev S_X8_split : Type := (Int32 × Int32 × fm_)
noncomputable def st_X8_split (s : S_X8_split) : Option (S_X8_split ⊕ (Int32 × fm_)) := match s with
  | (x1, x2, m) =>
    (if 900 ≤ x2 then
(Option.bind (f_X8_put 0 0 (gi_ m 1 4) m) fun q3 =>
((some (Sum.inr (0, q3.2)))))
else
(if (gi_ m 1 4) ≤ x1 then
(Option.bind (f_X8_put 0 0 (gi_ m 1 4) m) fun q8 =>
((some (Sum.inr (0, q8.2)))))
else
(Option.bind (f_X8_byteAt x1 m) fun q11 =>
(Option.bind (f_X8_isBlank q11.1 q11.2) fun q14 =>
(if q14.1 = 0 then
(Option.bind (f_X8_scan x1 q14.2) fun q19 =>
(if q19.1 = x1 then
(Option.bind (f_X8_put 1 0 x1 q19.2) fun q24 =>
((some (Sum.inr (0, q24.2)))))
else
((some (Sum.inl ((q19.1, (x2 + 1), q19.2)))))))
else
(if (x1 + 1) = x1 then
(Option.bind (f_X8_put 1 0 x1 q14.2) fun q29 =>
((some (Sum.inr (0, q29.2)))))
else
((some (Sum.inl (((x1 + 1), (x2 + 1), q14.2)))))))))))
noncomputable def f_X8_split_13 (x1 : Int32) (x2 : Int32) (m : fm_) : Option (Int32 × fm_) := am_lp (st_X8_split) ((x1, x2, m))
theorem e_X8_split_13 (x1 : Int32) (x2 : Int32) (m : fm_) : f_X8_split_13 x1 x2 m =
(if 900 ≤ x2 then
(Option.bind (f_X8_put 0 0 (gi_ m 1 4) m) fun q3 =>
((some (0, q3.2))))
else
(if (gi_ m 1 4) ≤ x1 then
(Option.bind (f_X8_put 0 0 (gi_ m 1 4) m) fun q8 =>
((some (0, q8.2))))
else
(Option.bind (f_X8_byteAt x1 m) fun q11 =>
(Option.bind (f_X8_isBlank q11.1 q11.2) fun q14 =>
(if q14.1 = 0 then
(Option.bind (f_X8_scan x1 q14.2) fun q19 =>
(if q19.1 = x1 then
(Option.bind (f_X8_put 1 0 x1 q19.2) fun q24 =>
((some (0, q24.2))))
else
((f_X8_split_13 q19.1 (x2 + 1) q19.2))))
else
(if (x1 + 1) = x1 then
(Option.bind (f_X8_put 1 0 x1 q14.2) fun q29 =>
((some (0, q29.2))))
else
((f_X8_split_13 (x1 + 1) (x2 + 1) q14.2)))))))) :=
  (am_lp_eq _ _).trans (fe_if (fe_bd fun q3 => (rfl)) (fe_if (fe_bd fun q8 => (rfl)) (fe_bd fun q11 => (fe_bd fun q14 => (fe_if (fe_bd fun q19 => (fe_if (fe_bd fun q24 => (rfl)) (rfl))) (fe_if (fe_bd fun q29 => (rfl)) (rfl)))))))
noncomputable def f_X8_split  (m : fm_) : Option (Int32 × fm_) :=
  (Option.bind (f_X8_restart (si_ m 1 5 0)) fun q1 =>
((f_X8_split_13 0 0 q1.2)))
def sp_X8_split : am_S := fn_sp [(92, fn_F, G_X8_restart), (101, fn_F, G_X8_byteAt), (111, fn_0, G_X8_isBlank), (102, fn_F, G_X8_scan), (100, fn_F, G_X8_put)]
theorem sm_X8_split : am_Smono (sp_X8_split) := fn_sp_mono _
def P_X8_split (n : Nat) (r : Nat → Nat → Option Nat) (s : S_X8_split) (q : Int32 × fm_) : Prop := match s with
  | (x1, x2, m) => ∀ (Q : Option Value → am_W → Prop) (y3 : Option Value), Q (en_v q).1 (mk_ n r q.2) → am_T m_X8_split sp_X8_split n Q 13 [some (.ref 1), some (.int x1), some (.int x2), y3] [] (mk_ n r m)
set_option maxRecDepth 100000 in
theorem t_X8_split_13 {n : Nat} {r : Nat → Nat → Option Nat} (hf : fn_F n r) {K : S_X8_split → Option (Int32 × fm_)} {q : Int32 × fm_} (hK : ∀ s, K s = some q → P_X8_split n r s q) (x1 : Int32) (x2 : Int32) (m : fm_)
  (h : am_k K (st_X8_split ((x1, x2, m))) = some q) : P_X8_split n r ((x1, x2, m)) q := fun Q y3 hQ =>
  am_T.wp sm_X8_split (K := am_T m_X8_split sp_X8_split n Q) (cuts := [13]) (fun _ _ _ _ h => h) 27
    (fj_if h (fun c1 h2 => ⟨fn_aF hf rfl rfl, fj_bd h2 fun q3 e4 h5 => ⟨Nat.le_of_ble_eq_true rfl, fn_aF hf rfl rfl, ⟨hf, none, q3.2, gp_X8_put (n := n) (r := r)  e4, fun _ => ⟨rfl, ⟨rfl, fj_rt h5 hQ⟩⟩⟩⟩⟩) (fun c1 h2 => ⟨fn_aF hf rfl rfl, fj_if h2 (fun c6 h7 => ⟨fn_aF hf rfl rfl, fj_bd h7 fun q8 e9 h10 => ⟨Nat.le_of_ble_eq_true rfl, fn_aF hf rfl rfl, ⟨hf, none, q8.2, gp_X8_put (n := n) (r := r)  e9, fun _ => ⟨rfl, ⟨rfl, fj_rt h10 hQ⟩⟩⟩⟩⟩) (fun c6 h7 => fj_bd h7 fun q11 e12 h13 => ⟨Nat.le_of_ble_eq_true rfl, fn_aF hf rfl rfl, ⟨hf, some (.int q11.1), q11.2, gp_X8_byteAt (n := n) (r := r)  e12, fun _ => fj_bd h13 fun q14 e15 h16 => ⟨Nat.le_of_ble_eq_true rfl, trivial, ⟨trivial, some (.int q14.1), q14.2, gp_X8_isBlank (n := n) (r := r)  e15, fun _ => fj_if h16 (fun c17 h18 => fj_bd h18 fun q19 e20 h21 => ⟨Nat.le_of_ble_eq_true rfl, fn_aF hf rfl rfl, ⟨hf, some (.int q19.1), q19.2, gp_X8_scan (n := n) (r := r)  e20, fun _ => fj_in h21 (fun c22 h23 => hK _ h23 _ _ hQ) (fun c22 h23 => fj_bd h23 fun q24 e25 h26 => ⟨Nat.le_of_ble_eq_true rfl, fn_aF hf rfl rfl, ⟨hf, none, q24.2, gp_X8_put (n := n) (r := r)  e25, fun _ => ⟨rfl, ⟨rfl, fj_rt h26 hQ⟩⟩⟩⟩)⟩⟩) (fun c17 h18 => fj_in h18 (fun c27 h28 => hK _ h28 _ _ hQ) (fun c27 h28 => fj_bd h28 fun q29 e30 h31 => ⟨Nat.le_of_ble_eq_true rfl, fn_aF hf rfl rfl, ⟨hf, none, q29.2, gp_X8_put (n := n) (r := r)  e30, fun _ => ⟨rfl, ⟨rfl, fj_rt h31 hQ⟩⟩⟩⟩))⟩⟩⟩⟩)⟩))
theorem l_X8_split {n : Nat} {r : Nat → Nat → Option Nat} (hf : fn_F n r) (s : S_X8_split) (q : Int32 × fm_) (h : am_lp (st_X8_split) s = some q) : P_X8_split n r s q :=
  am_lp_snd (P := P_X8_split n r) (fun K hK s q h => match s, h with
    | (x1, x2, m), h => t_X8_split_13 hf (fun s => hK s q) x1 x2 m h) s q h
set_option maxRecDepth 100000 in
theorem t_X8_split {n : Nat} {r : Nat → Nat → Option Nat} (hf : fn_F n r) {q : Int32 × fm_}  {m : fm_}
  (h : f_X8_split  m = some q) {Q : Option Value → am_W → Prop} (hQ : Q (en_v q).1 (mk_ n r q.2)) : am_T m_X8_split sp_X8_split n Q 0 [some (.ref 1), none, none, none] [] (mk_ n r m) :=
  am_T.wp sm_X8_split (K := am_T m_X8_split sp_X8_split n Q) (cuts := [13]) (fun _ _ _ _ h => h) 11
    (⟨fn_aF hf rfl rfl, fh_bd h fun q1 e2 h3 => ⟨Nat.le_of_ble_eq_true rfl, fn_aF hf rfl rfl, ⟨hf, none, q1.2, gp_X8_restart (n := n) (r := r)  e2, fun _ => ⟨rfl, l_X8_split hf _ _ h3 _ _ hQ⟩⟩⟩⟩)
noncomputable def G_X8_split (n : Nat) (r : Nat → Nat → Option Nat) (as : List Value) (m : fm_) : Option (Option Value × fm_) := match as with
  | [.ref x0] => gd_ (Nat.beq x0 1) ((f_X8_split  m).map en_v)
  | _ => none
set_option maxRecDepth 100000 in
theorem gp_X8_split {n : Nat} {r : Nat → Nat → Option Nat}   {m : fm_} {q : Int32 × fm_}  (e : f_X8_split  m = some q) : G_X8_split n r [.ref 1] m = some (en_v q) := by
  show (gd_ (Nat.beq 1 1) ((f_X8_split  m).map en_v)) = _
  exact fn_gd rfl (fn_mp e)
set_option maxRecDepth 100000 in
theorem ok_X8_split : am_mok 8 91 m_X8_split = true := by decide +kernel
set_option maxRecDepth 100000 in
theorem c_X8_split (l : Launch) {g : am_G} (hg : fx_ l g) : am_Met l g 8 91 (fn_s fn_F G_X8_split) := by
  refine am_sound (own := 8) (M := m_X8_split) (SP := sp_X8_split) hg.1 (by decide +kernel) ok_X8_split (by decide +kernel) ?_ (fun q hq hk => absurd hk (am_no61 (M := m_X8_split) (by decide +kernel) q hq)) (fn_ext l _ rfl g 8) (Or.inl (by decide +kernel)) ?_ ?_
  · intro q hq hk
    have hm : q.2.2.2.1 ∈ am_cs m_X8_split := am_cs_in hq hk
    rw [show am_cs m_X8_split = [92, 101, 111, 102, 100, 100] by decide +kernel] at hm
    have hm : q.2.2.2.1 ∈ [92, 100, 101, 102, 111] := (List.all_eq_true.mp (show ([92, 101, 111, 102, 100, 100] : List Nat).all (fun a => decide (a ∈ ([92, 100, 101, 102, 111] : List Nat))) = true by decide +kernel) _ hm |> of_decide_eq_true)
    simp only [List.mem_cons, List.not_mem_nil, or_false] at hm
    rcases hm with hm | hm | hm | hm | hm
    · rw [hm]; exact ⟨0, by omega, c_X8_restart l hg⟩
    · rw [hm]; exact ⟨0, by omega, c_X8_put l hg⟩
    · rw [hm]; exact ⟨0, by omega, c_X8_byteAt l hg⟩
    · rw [hm]; exact ⟨7, by omega, c_X8_scan l hg⟩
    · rw [hm]; exact ⟨0, by omega, c_X8_isBlank l hg⟩
  · intro as w K h
    obtain ⟨hf, y, m1, hG, hK⟩ := h
    unfold G_X8_split at hG
    split at hG
    · exact Nat.le_of_ble_eq_true rfl
    · cases hG
  · intro as w K h
    obtain ⟨n, i0, l0, r⟩ := w
    obtain ⟨hf, y, m1, hG, hK⟩ := h
    unfold G_X8_split at hG
    split at hG
    · next x0 =>
      obtain ⟨hx1, hG1⟩ := gd_u hG
      obtain rfl := Nat.eq_of_beq_eq_true hx1
      obtain ⟨q, hq, he⟩ := fn_mu hG1
      obtain ⟨rfl, rfl⟩ := Prod.mk.inj he
      exact t_X8_split  hf   (m := (i0, l0)) hq hK
    · cases hG

/-! == X8_kind == -/
noncomputable def f_X8_kind  (m : fm_) : Option (Int32 × fm_) :=
  (if (gi_ m 1 5) ≤ (gi_ m 1 6) then
((some (0, m)))
else
(gd_ (ix_ (gi_ m 1 6) 901)
((some ((gi_ m 3 (Int32.toNatClampNeg (gi_ m 1 6))), m)))))
def sp_X8_kind : am_S := fn_sp []
theorem sm_X8_kind : am_Smono (sp_X8_kind) := fn_sp_mono _
set_option maxRecDepth 100000 in
theorem t_X8_kind {n : Nat} {r : Nat → Nat → Option Nat} (hf : fn_F n r) {q : Int32 × fm_}  {m : fm_}
  (h : f_X8_kind  m = some q) {Q : Option Value → am_W → Prop} (hQ : Q (en_i q).1 (mk_ n r q.2)) : am_T m_X8_kind sp_X8_kind n Q 0 [some (.ref 1)] [] (mk_ n r m) :=
  am_T.wp sm_X8_kind (K := am_T m_X8_kind sp_X8_kind n Q) (cuts := []) (fun _ _ _ _ h => h) 13
    (⟨fn_aF hf rfl rfl, ⟨fn_aF hf rfl rfl, fh_if h (fun c1 h2 => ⟨rfl, fh_rt h2 hQ⟩) (fun c1 h2 => ⟨fn_aF hf rfl rfl, Or.inl ⟨_, hf.2 1 1 3 rfl, ⟨fn_aF hf rfl rfl, fh_gd h2 fun g4 h3 => ⟨901, fn_aF hf rfl rfl, ix_t g4, ⟨rfl, fh_rt h3 hQ⟩⟩⟩⟩⟩)⟩⟩)
noncomputable def G_X8_kind (n : Nat) (r : Nat → Nat → Option Nat) (as : List Value) (m : fm_) : Option (Option Value × fm_) := match as with
  | [.ref x0] => gd_ (Nat.beq x0 1) ((f_X8_kind  m).map en_i)
  | _ => none
set_option maxRecDepth 100000 in
theorem gp_X8_kind {n : Nat} {r : Nat → Nat → Option Nat}   {m : fm_} {q : Int32 × fm_}  (e : f_X8_kind  m = some q) : G_X8_kind n r [.ref 1] m = some (en_i q) := by
  show (gd_ (Nat.beq 1 1) ((f_X8_kind  m).map en_i)) = _
  exact fn_gd rfl (fn_mp e)
set_option maxRecDepth 100000 in
theorem ok_X8_kind : am_mok 8 93 m_X8_kind = true := by decide +kernel
set_option maxRecDepth 100000 in
theorem c_X8_kind (l : Launch) {g : am_G} (hg : fx_ l g) : am_Met l g 0 93 (fn_s fn_F G_X8_kind) := by
  refine am_sound (own := 8) (M := m_X8_kind) (SP := sp_X8_kind) hg.1 (by decide +kernel) ok_X8_kind (by decide +kernel) ?_ (fun q hq hk => absurd hk (am_no61 (M := m_X8_kind) (by decide +kernel) q hq)) (fn_ext l _ rfl g 8) (Or.inl (by decide +kernel)) ?_ ?_
  · intro q hq hk
    have hm : q.2.2.2.1 ∈ am_cs m_X8_kind := am_cs_in hq hk
    rw [show am_cs m_X8_kind = [] by decide +kernel] at hm
    cases hm
  · intro as w K h
    obtain ⟨hf, y, m1, hG, hK⟩ := h
    unfold G_X8_kind at hG
    split at hG
    · exact Nat.le_of_ble_eq_true rfl
    · cases hG
  · intro as w K h
    obtain ⟨n, i0, l0, r⟩ := w
    obtain ⟨hf, y, m1, hG, hK⟩ := h
    unfold G_X8_kind at hG
    split at hG
    · next x0 =>
      obtain ⟨hx1, hG1⟩ := gd_u hG
      obtain rfl := Nat.eq_of_beq_eq_true hx1
      obtain ⟨q, hq, he⟩ := fn_mu hG1
      obtain ⟨rfl, rfl⟩ := Prod.mk.inj he
      exact t_X8_kind  hf   (m := (i0, l0)) hq hK
    · cases hG

/-! == X8_value == -/
noncomputable def f_X8_value  (m : fm_) : Option (Int32 × fm_) :=
  (if (gi_ m 1 5) ≤ (gi_ m 1 6) then
((some (0, m)))
else
(gd_ (ix_ (gi_ m 1 6) 901)
((some ((gi_ m 4 (Int32.toNatClampNeg (gi_ m 1 6))), m)))))
def sp_X8_value : am_S := fn_sp []
theorem sm_X8_value : am_Smono (sp_X8_value) := fn_sp_mono _
set_option maxRecDepth 100000 in
theorem t_X8_value {n : Nat} {r : Nat → Nat → Option Nat} (hf : fn_F n r) {q : Int32 × fm_}  {m : fm_}
  (h : f_X8_value  m = some q) {Q : Option Value → am_W → Prop} (hQ : Q (en_i q).1 (mk_ n r q.2)) : am_T m_X8_value sp_X8_value n Q 0 [some (.ref 1)] [] (mk_ n r m) :=
  am_T.wp sm_X8_value (K := am_T m_X8_value sp_X8_value n Q) (cuts := []) (fun _ _ _ _ h => h) 13
    (⟨fn_aF hf rfl rfl, ⟨fn_aF hf rfl rfl, fh_if h (fun c1 h2 => ⟨rfl, fh_rt h2 hQ⟩) (fun c1 h2 => ⟨fn_aF hf rfl rfl, Or.inl ⟨_, hf.2 1 2 4 rfl, ⟨fn_aF hf rfl rfl, fh_gd h2 fun g4 h3 => ⟨901, fn_aF hf rfl rfl, ix_t g4, ⟨rfl, fh_rt h3 hQ⟩⟩⟩⟩⟩)⟩⟩)
noncomputable def G_X8_value (n : Nat) (r : Nat → Nat → Option Nat) (as : List Value) (m : fm_) : Option (Option Value × fm_) := match as with
  | [.ref x0] => gd_ (Nat.beq x0 1) ((f_X8_value  m).map en_i)
  | _ => none
set_option maxRecDepth 100000 in
theorem gp_X8_value {n : Nat} {r : Nat → Nat → Option Nat}   {m : fm_} {q : Int32 × fm_}  (e : f_X8_value  m = some q) : G_X8_value n r [.ref 1] m = some (en_i q) := by
  show (gd_ (Nat.beq 1 1) ((f_X8_value  m).map en_i)) = _
  exact fn_gd rfl (fn_mp e)
set_option maxRecDepth 100000 in
theorem ok_X8_value : am_mok 8 94 m_X8_value = true := by decide +kernel
set_option maxRecDepth 100000 in
theorem c_X8_value (l : Launch) {g : am_G} (hg : fx_ l g) : am_Met l g 0 94 (fn_s fn_F G_X8_value) := by
  refine am_sound (own := 8) (M := m_X8_value) (SP := sp_X8_value) hg.1 (by decide +kernel) ok_X8_value (by decide +kernel) ?_ (fun q hq hk => absurd hk (am_no61 (M := m_X8_value) (by decide +kernel) q hq)) (fn_ext l _ rfl g 8) (Or.inl (by decide +kernel)) ?_ ?_
  · intro q hq hk
    have hm : q.2.2.2.1 ∈ am_cs m_X8_value := am_cs_in hq hk
    rw [show am_cs m_X8_value = [] by decide +kernel] at hm
    cases hm
  · intro as w K h
    obtain ⟨hf, y, m1, hG, hK⟩ := h
    unfold G_X8_value at hG
    split at hG
    · exact Nat.le_of_ble_eq_true rfl
    · cases hG
  · intro as w K h
    obtain ⟨n, i0, l0, r⟩ := w
    obtain ⟨hf, y, m1, hG, hK⟩ := h
    unfold G_X8_value at hG
    split at hG
    · next x0 =>
      obtain ⟨hx1, hG1⟩ := gd_u hG
      obtain rfl := Nat.eq_of_beq_eq_true hx1
      obtain ⟨q, hq, he⟩ := fn_mu hG1
      obtain ⟨rfl, rfl⟩ := Prod.mk.inj he
      exact t_X8_value  hf   (m := (i0, l0)) hq hK
    · cases hG

/-! == X8_step == -/
noncomputable def f_X8_step  (m : fm_) : Option (Int32 × fm_) :=
  (if ((gi_ m 1 5) - 1) ≤ (gi_ m 1 6) then
((some (0, m)))
else
((some (0, (si_ m 1 6 ((gi_ m 1 6) + 1))))))
def sp_X8_step : am_S := fn_sp []
theorem sm_X8_step : am_Smono (sp_X8_step) := fn_sp_mono _
set_option maxRecDepth 100000 in
theorem t_X8_step {n : Nat} {r : Nat → Nat → Option Nat} (hf : fn_F n r) {q : Int32 × fm_}  {m : fm_}
  (h : f_X8_step  m = some q) {Q : Option Value → am_W → Prop} (hQ : Q (en_v q).1 (mk_ n r q.2)) : am_T m_X8_step sp_X8_step n Q 0 [some (.ref 1)] [] (mk_ n r m) :=
  am_T.wp sm_X8_step (K := am_T m_X8_step sp_X8_step n Q) (cuts := []) (fun _ _ _ _ h => h) 15
    (⟨fn_aF hf rfl rfl, ⟨fn_aF hf rfl rfl, fh_if h (fun c1 h2 => ⟨rfl, fh_rt h2 hQ⟩) (fun c1 h2 => ⟨fn_aF hf rfl rfl, ⟨fn_aF hf rfl rfl, ⟨rfl, fh_rt h2 hQ⟩⟩⟩)⟩⟩)
noncomputable def G_X8_step (n : Nat) (r : Nat → Nat → Option Nat) (as : List Value) (m : fm_) : Option (Option Value × fm_) := match as with
  | [.ref x0] => gd_ (Nat.beq x0 1) ((f_X8_step  m).map en_v)
  | _ => none
set_option maxRecDepth 100000 in
theorem gp_X8_step {n : Nat} {r : Nat → Nat → Option Nat}   {m : fm_} {q : Int32 × fm_}  (e : f_X8_step  m = some q) : G_X8_step n r [.ref 1] m = some (en_v q) := by
  show (gd_ (Nat.beq 1 1) ((f_X8_step  m).map en_v)) = _
  exact fn_gd rfl (fn_mp e)
set_option maxRecDepth 100000 in
theorem ok_X8_step : am_mok 8 95 m_X8_step = true := by decide +kernel
set_option maxRecDepth 100000 in
theorem c_X8_step (l : Launch) {g : am_G} (hg : fx_ l g) : am_Met l g 0 95 (fn_s fn_F G_X8_step) := by
  refine am_sound (own := 8) (M := m_X8_step) (SP := sp_X8_step) hg.1 (by decide +kernel) ok_X8_step (by decide +kernel) ?_ (fun q hq hk => absurd hk (am_no61 (M := m_X8_step) (by decide +kernel) q hq)) (fn_ext l _ rfl g 8) (Or.inl (by decide +kernel)) ?_ ?_
  · intro q hq hk
    have hm : q.2.2.2.1 ∈ am_cs m_X8_step := am_cs_in hq hk
    rw [show am_cs m_X8_step = [] by decide +kernel] at hm
    cases hm
  · intro as w K h
    obtain ⟨hf, y, m1, hG, hK⟩ := h
    unfold G_X8_step at hG
    split at hG
    · exact Nat.le_of_ble_eq_true rfl
    · cases hG
  · intro as w K h
    obtain ⟨n, i0, l0, r⟩ := w
    obtain ⟨hf, y, m1, hG, hK⟩ := h
    unfold G_X8_step at hG
    split at hG
    · next x0 =>
      obtain ⟨hx1, hG1⟩ := gd_u hG
      obtain rfl := Nat.eq_of_beq_eq_true hx1
      obtain ⟨q, hq, he⟩ := fn_mu hG1
      obtain ⟨rfl, rfl⟩ := Prod.mk.inj he
      exact t_X8_step  hf   (m := (i0, l0)) hq hK
    · cases hG

/-! == X8_fail == -/
noncomputable def f_X8_fail (p1 : Int32) (m : fm_) : Option (Int32 × fm_) :=
  (if (gi_ m 1 7) = 0 then
(if (gi_ m 1 5) ≤ (gi_ m 1 6) then
((some (0, m)))
else
(gd_ (ix_ (gi_ m 1 6) 901)
(if (gi_ m 3 (Int32.toNatClampNeg (gi_ m 1 6))) = 1 then
(gd_ (ix_ (gi_ m 1 6) 901)
((some (0, (si_ (si_ m 1 7 1) 1 8 (gi_ m 5 (Int32.toNatClampNeg (gi_ m 1 6))))))))
else
(gd_ (ix_ (gi_ m 1 6) 901)
((some (0, (si_ (si_ m 1 7 p1) 1 8 (gi_ m 5 (Int32.toNatClampNeg (gi_ m 1 6)))))))))))
else
((some (0, m))))
def sp_X8_fail : am_S := fn_sp []
theorem sm_X8_fail : am_Smono (sp_X8_fail) := fn_sp_mono _
set_option maxRecDepth 100000 in
theorem t_X8_fail {n : Nat} {r : Nat → Nat → Option Nat} (hf : fn_F n r) {q : Int32 × fm_} (p1 : Int32) {m : fm_}
  (h : f_X8_fail p1 m = some q) {Q : Option Value → am_W → Prop} (hQ : Q (en_i q).1 (mk_ n r q.2)) : am_T m_X8_fail sp_X8_fail n Q 0 [some (.ref 1), some (.int p1)] [] (mk_ n r m) :=
  am_T.wp sm_X8_fail (K := am_T m_X8_fail sp_X8_fail n Q) (cuts := []) (fun _ _ _ _ h => h) 29
    (⟨fn_aF hf rfl rfl, fh_in h (fun c1 h2 => ⟨rfl, Or.inl rfl, fh_rt h2 hQ⟩) (fun c1 h2 => ⟨fn_aF hf rfl rfl, ⟨fn_aF hf rfl rfl, fh_if h2 (fun c3 h4 => ⟨rfl, Or.inl rfl, fh_rt h4 hQ⟩) (fun c3 h4 => ⟨fn_aF hf rfl rfl, Or.inl ⟨_, hf.2 1 1 3 rfl, ⟨fn_aF hf rfl rfl, fh_gd h4 fun g6 h5 => ⟨901, fn_aF hf rfl rfl, ix_t g6, fh_in h5 (fun c7 h8 => ⟨fn_aF hf rfl rfl, ⟨fn_aF hf rfl rfl, Or.inl ⟨_, hf.2 1 3 5 rfl, ⟨fn_aF hf rfl rfl, fh_gd h8 fun g10 h9 => ⟨901, fn_aF hf rfl rfl, ix_t g10, ⟨fn_aF hf rfl rfl, ⟨rfl, Or.inl rfl, fh_rt h9 hQ⟩⟩⟩⟩⟩⟩⟩) (fun c7 h8 => ⟨fn_aF hf rfl rfl, ⟨fn_aF hf rfl rfl, Or.inl ⟨_, hf.2 1 3 5 rfl, ⟨fn_aF hf rfl rfl, fh_gd h8 fun g12 h11 => ⟨901, fn_aF hf rfl rfl, ix_t g12, ⟨fn_aF hf rfl rfl, ⟨rfl, Or.inl rfl, fh_rt h11 hQ⟩⟩⟩⟩⟩⟩⟩)⟩⟩⟩⟩)⟩⟩)⟩)
noncomputable def G_X8_fail (n : Nat) (r : Nat → Nat → Option Nat) (as : List Value) (m : fm_) : Option (Option Value × fm_) := match as with
  | [.ref x0, .int p1] => gd_ (Nat.beq x0 1) ((f_X8_fail p1 m).map en_i)
  | _ => none
set_option maxRecDepth 100000 in
theorem gp_X8_fail {n : Nat} {r : Nat → Nat → Option Nat}  {p1 : Int32} {m : fm_} {q : Int32 × fm_}  (e : f_X8_fail p1 m = some q) : G_X8_fail n r [.ref 1, .int p1] m = some (en_i q) := by
  show (gd_ (Nat.beq 1 1) ((f_X8_fail p1 m).map en_i)) = _
  exact fn_gd rfl (fn_mp e)
set_option maxRecDepth 100000 in
theorem ok_X8_fail : am_mok 8 96 m_X8_fail = true := by decide +kernel
set_option maxRecDepth 100000 in
theorem c_X8_fail (l : Launch) {g : am_G} (hg : fx_ l g) : am_Met l g 0 96 (fn_s fn_F G_X8_fail) := by
  refine am_sound (own := 8) (M := m_X8_fail) (SP := sp_X8_fail) hg.1 (by decide +kernel) ok_X8_fail (by decide +kernel) ?_ (fun q hq hk => absurd hk (am_no61 (M := m_X8_fail) (by decide +kernel) q hq)) (fn_ext l _ rfl g 8) (Or.inl (by decide +kernel)) ?_ ?_
  · intro q hq hk
    have hm : q.2.2.2.1 ∈ am_cs m_X8_fail := am_cs_in hq hk
    rw [show am_cs m_X8_fail = [] by decide +kernel] at hm
    cases hm
  · intro as w K h
    obtain ⟨hf, y, m1, hG, hK⟩ := h
    unfold G_X8_fail at hG
    split at hG
    · exact Nat.le_of_ble_eq_true rfl
    · cases hG
  · intro as w K h
    obtain ⟨n, i0, l0, r⟩ := w
    obtain ⟨hf, y, m1, hG, hK⟩ := h
    unfold G_X8_fail at hG
    split at hG
    · next x0 p1 =>
      obtain ⟨hx1, hG1⟩ := gd_u hG
      obtain rfl := Nat.eq_of_beq_eq_true hx1
      obtain ⟨q, hq, he⟩ := fn_mu hG1
      obtain ⟨rfl, rfl⟩ := Prod.mk.inj he
      exact t_X8_fail  hf  p1 (m := (i0, l0)) hq hK
    · cases hG

/-! == X8_take == -/
noncomputable def f_X8_take (p1 : Int32) (m : fm_) : Option (Int32 × fm_) :=
  (Option.bind (f_X8_kind m) fun q1 =>
(if q1.1 = p1 then
(Option.bind (f_X8_step q1.2) fun q6 =>
((some (1, q6.2))))
else
(Option.bind (f_X8_fail 2 q1.2) fun q9 =>
(gd_ (bl_ q9.1)
((some (q9.1, q9.2)))))))
def sp_X8_take : am_S := fn_sp [(93, fn_F, G_X8_kind), (96, fn_F, G_X8_fail), (95, fn_F, G_X8_step)]
theorem sm_X8_take : am_Smono (sp_X8_take) := fn_sp_mono _
set_option maxRecDepth 100000 in
theorem t_X8_take {n : Nat} {r : Nat → Nat → Option Nat} (hf : fn_F n r) {q : Int32 × fm_} (p1 : Int32) {m : fm_}
  (h : f_X8_take p1 m = some q) {Q : Option Value → am_W → Prop} (hQ : Q (en_i q).1 (mk_ n r q.2)) : am_T m_X8_take sp_X8_take n Q 0 [some (.ref 1), some (.int p1)] [] (mk_ n r m) :=
  am_T.wp sm_X8_take (K := am_T m_X8_take sp_X8_take n Q) (cuts := []) (fun _ _ _ _ h => h) 9
    (fh_bd h fun q1 e2 h3 => ⟨Nat.le_of_ble_eq_true rfl, fn_aF hf rfl rfl, ⟨hf, some (.int q1.1), q1.2, gp_X8_kind (n := n) (r := r)  e2, fun _ => fh_if h3 (fun c4 h5 => fh_bd h5 fun q6 e7 h8 => ⟨Nat.le_of_ble_eq_true rfl, fn_aF hf rfl rfl, ⟨hf, none, q6.2, gp_X8_step (n := n) (r := r)  e7, fun _ => ⟨rfl, ⟨rfl, Or.inr rfl, fh_rt h8 hQ⟩⟩⟩⟩) (fun c4 h5 => fh_bd h5 fun q9 e10 h11 => ⟨Nat.le_of_ble_eq_true rfl, fn_aF hf rfl rfl, ⟨hf, some (.int q9.1), q9.2, gp_X8_fail (n := n) (r := r)  e10, fun _ => fh_gd h11 fun g13 h12 => ⟨rfl, bl_t g13, fh_rt h12 hQ⟩⟩⟩)⟩⟩)
noncomputable def G_X8_take (n : Nat) (r : Nat → Nat → Option Nat) (as : List Value) (m : fm_) : Option (Option Value × fm_) := match as with
  | [.ref x0, .int p1] => gd_ (Nat.beq x0 1) ((f_X8_take p1 m).map en_i)
  | _ => none
set_option maxRecDepth 100000 in
theorem gp_X8_take {n : Nat} {r : Nat → Nat → Option Nat}  {p1 : Int32} {m : fm_} {q : Int32 × fm_}  (e : f_X8_take p1 m = some q) : G_X8_take n r [.ref 1, .int p1] m = some (en_i q) := by
  show (gd_ (Nat.beq 1 1) ((f_X8_take p1 m).map en_i)) = _
  exact fn_gd rfl (fn_mp e)
set_option maxRecDepth 100000 in
theorem ok_X8_take : am_mok 8 97 m_X8_take = true := by decide +kernel
set_option maxRecDepth 100000 in
theorem c_X8_take (l : Launch) {g : am_G} (hg : fx_ l g) : am_Met l g 1 97 (fn_s fn_F G_X8_take) := by
  refine am_sound (own := 8) (M := m_X8_take) (SP := sp_X8_take) hg.1 (by decide +kernel) ok_X8_take (by decide +kernel) ?_ (fun q hq hk => absurd hk (am_no61 (M := m_X8_take) (by decide +kernel) q hq)) (fn_ext l _ rfl g 8) (Or.inl (by decide +kernel)) ?_ ?_
  · intro q hq hk
    have hm : q.2.2.2.1 ∈ am_cs m_X8_take := am_cs_in hq hk
    rw [show am_cs m_X8_take = [93, 96, 95] by decide +kernel] at hm
    have hm : q.2.2.2.1 ∈ [93, 95, 96] := (List.all_eq_true.mp (show ([93, 96, 95] : List Nat).all (fun a => decide (a ∈ ([93, 95, 96] : List Nat))) = true by decide +kernel) _ hm |> of_decide_eq_true)
    simp only [List.mem_cons, List.not_mem_nil, or_false] at hm
    rcases hm with hm | hm | hm
    · rw [hm]; exact ⟨0, by omega, c_X8_kind l hg⟩
    · rw [hm]; exact ⟨0, by omega, c_X8_step l hg⟩
    · rw [hm]; exact ⟨0, by omega, c_X8_fail l hg⟩
  · intro as w K h
    obtain ⟨hf, y, m1, hG, hK⟩ := h
    unfold G_X8_take at hG
    split at hG
    · exact Nat.le_of_ble_eq_true rfl
    · cases hG
  · intro as w K h
    obtain ⟨n, i0, l0, r⟩ := w
    obtain ⟨hf, y, m1, hG, hK⟩ := h
    unfold G_X8_take at hG
    split at hG
    · next x0 p1 =>
      obtain ⟨hx1, hG1⟩ := gd_u hG
      obtain rfl := Nat.eq_of_beq_eq_true hx1
      obtain ⟨q, hq, he⟩ := fn_mu hG1
      obtain ⟨rfl, rfl⟩ := Prod.mk.inj he
      exact t_X8_take  hf  p1 (m := (i0, l0)) hq hK
    · cases hG

