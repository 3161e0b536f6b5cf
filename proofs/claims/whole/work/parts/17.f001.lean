/-! == X8_numberIn == -/
abbrev S_X8_numberIn : Type := (Int32 × Int32 × Int32 × Int32 × fm_)
noncomputable def st_X8_numberIn (s : S_X8_numberIn) : Option (S_X8_numberIn ⊕ (Int32 × fm_)) := match s with
  | (x1, x2, x3, x4, m) =>
    (if x2 ≤ x4 then
((some (Sum.inr (x3, m))))
else
(Option.bind (f_X8_byteAt x4 m) fun q3 =>
((some (Sum.inl ((x1, x2, (((x3 * 10) + q3.1) - 48), (x4 + 1), q3.2)))))))
noncomputable def f_X8_numberIn_5 (x1 : Int32) (x2 : Int32) (x3 : Int32) (x4 : Int32) (m : fm_) : Option (Int32 × fm_) := am_lp (st_X8_numberIn) ((x1, x2, x3, x4, m))
theorem e_X8_numberIn_5 (x1 : Int32) (x2 : Int32) (x3 : Int32) (x4 : Int32) (m : fm_) : f_X8_numberIn_5 x1 x2 x3 x4 m =
(if x2 ≤ x4 then
((some (x3, m)))
else
(Option.bind (f_X8_byteAt x4 m) fun q3 =>
((f_X8_numberIn_5 x1 x2 (((x3 * 10) + q3.1) - 48) (x4 + 1) q3.2)))) :=
  (am_lp_eq _ _).trans (fe_if (rfl) (fe_bd fun q3 => (rfl)))
noncomputable def f_X8_numberIn (p1 : Int32) (p2 : Int32) (m : fm_) : Option (Int32 × fm_) :=
  ((f_X8_numberIn_5 p1 p2 0 p1 m))
def sp_X8_numberIn : am_S := fn_sp [(101, fn_F, G_X8_byteAt)]
theorem sm_X8_numberIn : am_Smono (sp_X8_numberIn) := fn_sp_mono _
def P_X8_numberIn (n : Nat) (r : Nat → Nat → Option Nat) (s : S_X8_numberIn) (q : Int32 × fm_) : Prop := match s with
  | (x1, x2, x3, x4, m) => ∀ (Q : Option Value → am_W → Prop), Q (en_i q).1 (mk_ n r q.2) → am_T m_X8_numberIn sp_X8_numberIn n Q 5 [some (.ref 1), some (.int x1), some (.int x2), some (.int x3), some (.int x4)] [] (mk_ n r m)
set_option maxRecDepth 100000 in
theorem t_X8_numberIn_5 {n : Nat} {r : Nat → Nat → Option Nat} (hf : fn_F n r) {K : S_X8_numberIn → Option (Int32 × fm_)} {q : Int32 × fm_} (hK : ∀ s, K s = some q → P_X8_numberIn n r s q) (x1 : Int32) (x2 : Int32) (x3 : Int32) (x4 : Int32) (m : fm_)
  (h : am_k K (st_X8_numberIn ((x1, x2, x3, x4, m))) = some q) : P_X8_numberIn n r ((x1, x2, x3, x4, m)) q := fun Q hQ =>
  am_T.wp sm_X8_numberIn (K := am_T m_X8_numberIn sp_X8_numberIn n Q) (cuts := [5]) (fun _ _ _ _ h => h) 17
    (fj_if h (fun c1 h2 => ⟨rfl, fj_rt h2 hQ⟩) (fun c1 h2 => fj_bd h2 fun q3 e4 h5 => ⟨Nat.le_of_ble_eq_true rfl, fn_aF hf rfl rfl, ⟨hf, some (.int q3.1), q3.2, gp_X8_byteAt (n := n) (r := r)  e4, fun _ => hK _ h5 _ hQ⟩⟩))
theorem l_X8_numberIn {n : Nat} {r : Nat → Nat → Option Nat} (hf : fn_F n r) (s : S_X8_numberIn) (q : Int32 × fm_) (h : am_lp (st_X8_numberIn) s = some q) : P_X8_numberIn n r s q :=
  am_lp_snd (P := P_X8_numberIn n r) (fun K hK s q h => match s, h with
    | (x1, x2, x3, x4, m), h => t_X8_numberIn_5 hf (fun s => hK s q) x1 x2 x3 x4 m h) s q h
set_option maxRecDepth 100000 in
theorem t_X8_numberIn {n : Nat} {r : Nat → Nat → Option Nat} (hf : fn_F n r) {q : Int32 × fm_} (p1 : Int32) (p2 : Int32) {m : fm_}
  (h : f_X8_numberIn p1 p2 m = some q) {Q : Option Value → am_W → Prop} (hQ : Q (en_i q).1 (mk_ n r q.2)) : am_T m_X8_numberIn sp_X8_numberIn n Q 0 [some (.ref 1), some (.int p1), some (.int p2), none, none] [] (mk_ n r m) :=
  am_T.wp sm_X8_numberIn (K := am_T m_X8_numberIn sp_X8_numberIn n Q) (cuts := [5]) (fun _ _ _ _ h => h) 6
    (l_X8_numberIn hf _ _ h _ hQ)
noncomputable def G_X8_numberIn (n : Nat) (r : Nat → Nat → Option Nat) (as : List Value) (m : fm_) : Option (Option Value × fm_) := match as with
  | [.ref x0, .int p1, .int p2] => gd_ (Nat.beq x0 1) ((f_X8_numberIn p1 p2 m).map en_i)
  | _ => none
set_option maxRecDepth 100000 in
theorem gp_X8_numberIn {n : Nat} {r : Nat → Nat → Option Nat}  {p1 : Int32} {p2 : Int32} {m : fm_} {q : Int32 × fm_}  (e : f_X8_numberIn p1 p2 m = some q) : G_X8_numberIn n r [.ref 1, .int p1, .int p2] m = some (en_i q) := by
  show (gd_ (Nat.beq 1 1) ((f_X8_numberIn p1 p2 m).map en_i)) = _
  exact fn_gd rfl (fn_mp e)
set_option maxRecDepth 100000 in
theorem ok_X8_numberIn : am_mok 8 107 m_X8_numberIn = true := by decide +kernel
set_option maxRecDepth 100000 in
theorem c_X8_numberIn (l : Launch) {g : am_G} (hg : fx_ l g) : am_Met l g 1 107 (fn_s fn_F G_X8_numberIn) := by
  refine am_sound (own := 8) (M := m_X8_numberIn) (SP := sp_X8_numberIn) hg.1 (by decide +kernel) ok_X8_numberIn (by decide +kernel) ?_ (fun q hq hk => absurd hk (am_no61 (M := m_X8_numberIn) (by decide +kernel) q hq)) (fn_ext l _ rfl g 8) (Or.inl (by decide +kernel)) ?_ ?_
  · intro q hq hk
    have hm : q.2.2.2.1 ∈ am_cs m_X8_numberIn := am_cs_in hq hk
    rw [show am_cs m_X8_numberIn = [101] by decide +kernel] at hm
    have hm : q.2.2.2.1 ∈ [101] := (List.all_eq_true.mp (show ([101] : List Nat).all (fun a => decide (a ∈ ([101] : List Nat))) = true by decide +kernel) _ hm |> of_decide_eq_true)
    simp only [List.mem_cons, List.not_mem_nil, or_false] at hm
    rcases hm with hm
    · rw [hm]; exact ⟨0, by omega, c_X8_byteAt l hg⟩
  · intro as w K h
    obtain ⟨hf, y, m1, hG, hK⟩ := h
    unfold G_X8_numberIn at hG
    split at hG
    · exact Nat.le_of_ble_eq_true rfl
    · cases hG
  · intro as w K h
    obtain ⟨n, i0, l0, r⟩ := w
    obtain ⟨hf, y, m1, hG, hK⟩ := h
    unfold G_X8_numberIn at hG
    split at hG
    · next x0 p1 p2 =>
      obtain ⟨hx1, hG1⟩ := gd_u hG
      obtain rfl := Nat.eq_of_beq_eq_true hx1
      obtain ⟨q, hq, he⟩ := fn_mu hG1
      obtain ⟨rfl, rfl⟩ := Prod.mk.inj he
      exact t_X8_numberIn  hf  p1 p2 (m := (i0, l0)) hq hK
    · cases hG

/-! == X8_put == -/
noncomputable def f_X8_put (p1 : Int32) (p2 : Int32) (p3 : Int32) (m : fm_) : Option (Int32 × fm_) :=
  (if (Int32.ofNat 901) ≤ (gi_ m 1 5) then
((some (0, m)))
else
(gd_ (ix_ (gi_ m 1 5) 901)
(gd_ (ix_ (gi_ m 1 5) 901)
(gd_ (ix_ (gi_ m 1 5) 901)
((some (0, (si_ (si_ (si_ (si_ m 3 (Int32.toNatClampNeg (gi_ m 1 5)) p1) 4 (Int32.toNatClampNeg (gi_ m 1 5)) p2) 5 (Int32.toNatClampNeg (gi_ m 1 5)) p3) 1 5 ((gi_ m 1 5) + 1)))))))))
def sp_X8_put : am_S := fn_sp []
theorem sm_X8_put : am_Smono (sp_X8_put) := fn_sp_mono _
set_option maxRecDepth 100000 in
theorem t_X8_put {n : Nat} {r : Nat → Nat → Option Nat} (hf : fn_F n r) {q : Int32 × fm_} (p1 : Int32) (p2 : Int32) (p3 : Int32) {m : fm_}
  (h : f_X8_put p1 p2 p3 m = some q) {Q : Option Value → am_W → Prop} (hQ : Q (en_v q).1 (mk_ n r q.2)) : am_T m_X8_put sp_X8_put n Q 0 [some (.ref 1), some (.int p1), some (.int p2), some (.int p3)] [] (mk_ n r m) :=
  am_T.wp sm_X8_put (K := am_T m_X8_put sp_X8_put n Q) (cuts := []) (fun _ _ _ _ h => h) 32
    (⟨fn_aF hf rfl rfl, ⟨fn_aF hf rfl rfl, Or.inl ⟨_, hf.2 1 1 3 rfl, ⟨0, 901, fn_aF hf rfl rfl, Nat.le_of_ble_eq_true rfl, fh_if h (fun c1 h2 => ⟨rfl, fh_rt h2 hQ⟩) (fun c1 h2 => ⟨fn_aF hf rfl rfl, Or.inl ⟨_, hf.2 1 1 3 rfl, ⟨fn_aF hf rfl rfl, fh_gd h2 fun g4 h3 => ⟨901, fn_aF hf rfl rfl, ix_t g4, ⟨fn_aF hf rfl rfl, Or.inl ⟨_, hf.2 1 2 4 rfl, ⟨fn_aF hf rfl rfl, fh_gd h3 fun g6 h5 => ⟨901, fn_aF hf rfl rfl, ix_t g6, ⟨fn_aF hf rfl rfl, Or.inl ⟨_, hf.2 1 3 5 rfl, ⟨fn_aF hf rfl rfl, fh_gd h5 fun g8 h7 => ⟨901, fn_aF hf rfl rfl, ix_t g8, ⟨fn_aF hf rfl rfl, ⟨fn_aF hf rfl rfl, ⟨rfl, fh_rt h7 hQ⟩⟩⟩⟩⟩⟩⟩⟩⟩⟩⟩⟩⟩⟩⟩)⟩⟩⟩⟩)
noncomputable def G_X8_put (n : Nat) (r : Nat → Nat → Option Nat) (as : List Value) (m : fm_) : Option (Option Value × fm_) := match as with
  | [.ref x0, .int p1, .int p2, .int p3] => gd_ (Nat.beq x0 1) ((f_X8_put p1 p2 p3 m).map en_v)
  | _ => none
set_option maxRecDepth 100000 in
theorem gp_X8_put {n : Nat} {r : Nat → Nat → Option Nat}  {p1 : Int32} {p2 : Int32} {p3 : Int32} {m : fm_} {q : Int32 × fm_}  (e : f_X8_put p1 p2 p3 m = some q) : G_X8_put n r [.ref 1, .int p1, .int p2, .int p3] m = some (en_v q) := by
  show (gd_ (Nat.beq 1 1) ((f_X8_put p1 p2 p3 m).map en_v)) = _
  exact fn_gd rfl (fn_mp e)
set_option maxRecDepth 100000 in
theorem ok_X8_put : am_mok 8 100 m_X8_put = true := by decide +kernel
set_option maxRecDepth 100000 in
theorem c_X8_put (l : Launch) {g : am_G} (hg : fx_ l g) : am_Met l g 0 100 (fn_s fn_F G_X8_put) := by
  refine am_sound (own := 8) (M := m_X8_put) (SP := sp_X8_put) hg.1 (by decide +kernel) ok_X8_put (by decide +kernel) ?_ (fun q hq hk => absurd hk (am_no61 (M := m_X8_put) (by decide +kernel) q hq)) (fn_ext l _ rfl g 8) (Or.inl (by decide +kernel)) ?_ ?_
  · intro q hq hk
    have hm : q.2.2.2.1 ∈ am_cs m_X8_put := am_cs_in hq hk
    rw [show am_cs m_X8_put = [] by decide +kernel] at hm
    cases hm
  · intro as w K h
    obtain ⟨hf, y, m1, hG, hK⟩ := h
    unfold G_X8_put at hG
    split at hG
    · exact Nat.le_of_ble_eq_true rfl
    · cases hG
  · intro as w K h
    obtain ⟨n, i0, l0, r⟩ := w
    obtain ⟨hf, y, m1, hG, hK⟩ := h
    unfold G_X8_put at hG
    split at hG
    · next x0 p1 p2 p3 =>
      obtain ⟨hx1, hG1⟩ := gd_u hG
      obtain rfl := Nat.eq_of_beq_eq_true hx1
      obtain ⟨q, hq, he⟩ := fn_mu hG1
      obtain ⟨rfl, rfl⟩ := Prod.mk.inj he
      exact t_X8_put  hf  p1 p2 p3 (m := (i0, l0)) hq hK
    · cases hG

/-! == X8_scanNumber == -/
noncomputable def f_X8_scanNumber (p1 : Int32) (m : fm_) : Option (Int32 × fm_) :=
  (Option.bind (f_X8_digitsEnd p1 m) fun q1 =>
(if 4 < (q1.1 - p1) then
((some (p1, q1.2)))
else
(Option.bind (f_X8_byteAt q1.1 q1.2) fun q6 =>
(Option.bind (f_X8_isLetter q6.1 q6.2) fun q9 =>
(if q9.1 = 0 then
(Option.bind (f_X8_numberIn p1 q1.1 q9.2) fun q14 =>
(Option.bind (f_X8_put 2 q14.1 p1 q14.2) fun q17 =>
((some (q1.1, q17.2)))))
else
((some (p1, q9.2))))))))
def sp_X8_scanNumber : am_S := fn_sp [(106, fn_F, G_X8_digitsEnd), (101, fn_F, G_X8_byteAt), (113, fn_0, G_X8_isLetter), (107, fn_F, G_X8_numberIn), (100, fn_F, G_X8_put)]
theorem sm_X8_scanNumber : am_Smono (sp_X8_scanNumber) := fn_sp_mono _
set_option maxRecDepth 100000 in
theorem t_X8_scanNumber {n : Nat} {r : Nat → Nat → Option Nat} (hf : fn_F n r) {q : Int32 × fm_} (p1 : Int32) {m : fm_}
  (h : f_X8_scanNumber p1 m = some q) {Q : Option Value → am_W → Prop} (hQ : Q (en_i q).1 (mk_ n r q.2)) : am_T m_X8_scanNumber sp_X8_scanNumber n Q 0 [some (.ref 1), some (.int p1), none] [] (mk_ n r m) :=
  am_T.wp sm_X8_scanNumber (K := am_T m_X8_scanNumber sp_X8_scanNumber n Q) (cuts := []) (fun _ _ _ _ h => h) 25
    (fh_bd h fun q1 e2 h3 => ⟨Nat.le_of_ble_eq_true rfl, fn_aF hf rfl rfl, ⟨hf, some (.int q1.1), q1.2, gp_X8_digitsEnd (n := n) (r := r)  e2, fun _ => fh_if h3 (fun c4 h5 => ⟨rfl, fh_rt h5 hQ⟩) (fun c4 h5 => fh_bd h5 fun q6 e7 h8 => ⟨Nat.le_of_ble_eq_true rfl, fn_aF hf rfl rfl, ⟨hf, some (.int q6.1), q6.2, gp_X8_byteAt (n := n) (r := r)  e7, fun _ => fh_bd h8 fun q9 e10 h11 => ⟨Nat.le_of_ble_eq_true rfl, trivial, ⟨trivial, some (.int q9.1), q9.2, gp_X8_isLetter (n := n) (r := r)  e10, fun _ => fh_if h11 (fun c12 h13 => fh_bd h13 fun q14 e15 h16 => ⟨Nat.le_of_ble_eq_true rfl, fn_aF hf rfl rfl, ⟨hf, some (.int q14.1), q14.2, gp_X8_numberIn (n := n) (r := r)  e15, fun _ => fh_bd h16 fun q17 e18 h19 => ⟨Nat.le_of_ble_eq_true rfl, fn_aF hf rfl rfl, ⟨hf, none, q17.2, gp_X8_put (n := n) (r := r)  e18, fun _ => ⟨rfl, ⟨rfl, fh_rt h19 hQ⟩⟩⟩⟩⟩⟩) (fun c12 h13 => ⟨rfl, fh_rt h13 hQ⟩)⟩⟩⟩⟩)⟩⟩)
noncomputable def G_X8_scanNumber (n : Nat) (r : Nat → Nat → Option Nat) (as : List Value) (m : fm_) : Option (Option Value × fm_) := match as with
  | [.ref x0, .int p1] => gd_ (Nat.beq x0 1) ((f_X8_scanNumber p1 m).map en_i)
  | _ => none
set_option maxRecDepth 100000 in
theorem gp_X8_scanNumber {n : Nat} {r : Nat → Nat → Option Nat}  {p1 : Int32} {m : fm_} {q : Int32 × fm_}  (e : f_X8_scanNumber p1 m = some q) : G_X8_scanNumber n r [.ref 1, .int p1] m = some (en_i q) := by
  show (gd_ (Nat.beq 1 1) ((f_X8_scanNumber p1 m).map en_i)) = _
  exact fn_gd rfl (fn_mp e)
set_option maxRecDepth 100000 in
theorem ok_X8_scanNumber : am_mok 8 103 m_X8_scanNumber = true := by decide +kernel
set_option maxRecDepth 100000 in
theorem c_X8_scanNumber (l : Launch) {g : am_G} (hg : fx_ l g) : am_Met l g 2 103 (fn_s fn_F G_X8_scanNumber) := by
  refine am_sound (own := 8) (M := m_X8_scanNumber) (SP := sp_X8_scanNumber) hg.1 (by decide +kernel) ok_X8_scanNumber (by decide +kernel) ?_ (fun q hq hk => absurd hk (am_no61 (M := m_X8_scanNumber) (by decide +kernel) q hq)) (fn_ext l _ rfl g 8) (Or.inl (by decide +kernel)) ?_ ?_
  · intro q hq hk
    have hm : q.2.2.2.1 ∈ am_cs m_X8_scanNumber := am_cs_in hq hk
    rw [show am_cs m_X8_scanNumber = [106, 101, 113, 107, 100] by decide +kernel] at hm
    have hm : q.2.2.2.1 ∈ [100, 101, 106, 107, 113] := (List.all_eq_true.mp (show ([106, 101, 113, 107, 100] : List Nat).all (fun a => decide (a ∈ ([100, 101, 106, 107, 113] : List Nat))) = true by decide +kernel) _ hm |> of_decide_eq_true)
    simp only [List.mem_cons, List.not_mem_nil, or_false] at hm
    rcases hm with hm | hm | hm | hm | hm
    · rw [hm]; exact ⟨0, by omega, c_X8_put l hg⟩
    · rw [hm]; exact ⟨0, by omega, c_X8_byteAt l hg⟩
    · rw [hm]; exact ⟨1, by omega, c_X8_digitsEnd l hg⟩
    · rw [hm]; exact ⟨1, by omega, c_X8_numberIn l hg⟩
    · rw [hm]; exact ⟨0, by omega, c_X8_isLetter l hg⟩
  · intro as w K h
    obtain ⟨hf, y, m1, hG, hK⟩ := h
    unfold G_X8_scanNumber at hG
    split at hG
    · exact Nat.le_of_ble_eq_true rfl
    · cases hG
  · intro as w K h
    obtain ⟨n, i0, l0, r⟩ := w
    obtain ⟨hf, y, m1, hG, hK⟩ := h
    unfold G_X8_scanNumber at hG
    split at hG
    · next x0 p1 =>
      obtain ⟨hx1, hG1⟩ := gd_u hG
      obtain rfl := Nat.eq_of_beq_eq_true hx1
      obtain ⟨q, hq, he⟩ := fn_mu hG1
      obtain ⟨rfl, rfl⟩ := Prod.mk.inj he
      exact t_X8_scanNumber  hf  p1 (m := (i0, l0)) hq hK
    · cases hG

/-! == X8_scanPoint == -/
noncomputable def f_X8_scanPoint (p1 : Int32) (m : fm_) : Option (Int32 × fm_) :=
  (Option.bind (f_X8_digitsEnd (p1 + 1) m) fun q1 =>
(if ((q1.1 - p1) - 1) < 1 then
((some (p1, q1.2)))
else
(if 2 < ((q1.1 - p1) - 1) then
((some (p1, q1.2)))
else
(Option.bind (f_X8_byteAt q1.1 q1.2) fun q8 =>
(Option.bind (f_X8_isLetter q8.1 q8.2) fun q11 =>
(if q11.1 = 0 then
(Option.bind (f_X8_numberIn (p1 + 1) q1.1 q11.2) fun q16 =>
(if q16.1 < 12 then
(Option.bind (f_X8_put 3 q16.1 p1 q16.2) fun q21 =>
((some (q1.1, q21.2))))
else
((some (p1, q16.2)))))
else
((some (p1, q11.2)))))))))
def sp_X8_scanPoint : am_S := fn_sp [(106, fn_F, G_X8_digitsEnd), (101, fn_F, G_X8_byteAt), (113, fn_0, G_X8_isLetter), (107, fn_F, G_X8_numberIn), (100, fn_F, G_X8_put)]
theorem sm_X8_scanPoint : am_Smono (sp_X8_scanPoint) := fn_sp_mono _
set_option maxRecDepth 100000 in
theorem t_X8_scanPoint {n : Nat} {r : Nat → Nat → Option Nat} (hf : fn_F n r) {q : Int32 × fm_} (p1 : Int32) {m : fm_}
  (h : f_X8_scanPoint p1 m = some q) {Q : Option Value → am_W → Prop} (hQ : Q (en_i q).1 (mk_ n r q.2)) : am_T m_X8_scanPoint sp_X8_scanPoint n Q 0 [some (.ref 1), some (.int p1), none, none, none] [] (mk_ n r m) :=
  am_T.wp sm_X8_scanPoint (K := am_T m_X8_scanPoint sp_X8_scanPoint n Q) (cuts := []) (fun _ _ _ _ h => h) 41
    (fh_bd h fun q1 e2 h3 => ⟨Nat.le_of_ble_eq_true rfl, fn_aF hf rfl rfl, ⟨hf, some (.int q1.1), q1.2, gp_X8_digitsEnd (n := n) (r := r)  e2, fun _ => fh_if h3 (fun c4 h5 => ⟨rfl, fh_rt h5 hQ⟩) (fun c4 h5 => fh_if h5 (fun c6 h7 => ⟨rfl, fh_rt h7 hQ⟩) (fun c6 h7 => fh_bd h7 fun q8 e9 h10 => ⟨Nat.le_of_ble_eq_true rfl, fn_aF hf rfl rfl, ⟨hf, some (.int q8.1), q8.2, gp_X8_byteAt (n := n) (r := r)  e9, fun _ => fh_bd h10 fun q11 e12 h13 => ⟨Nat.le_of_ble_eq_true rfl, trivial, ⟨trivial, some (.int q11.1), q11.2, gp_X8_isLetter (n := n) (r := r)  e12, fun _ => fh_if h13 (fun c14 h15 => fh_bd h15 fun q16 e17 h18 => ⟨Nat.le_of_ble_eq_true rfl, fn_aF hf rfl rfl, ⟨hf, some (.int q16.1), q16.2, gp_X8_numberIn (n := n) (r := r)  e17, fun _ => fh_if h18 (fun c19 h20 => fh_bd h20 fun q21 e22 h23 => ⟨Nat.le_of_ble_eq_true rfl, fn_aF hf rfl rfl, ⟨hf, none, q21.2, gp_X8_put (n := n) (r := r)  e22, fun _ => ⟨rfl, ⟨rfl, fh_rt h23 hQ⟩⟩⟩⟩) (fun c19 h20 => ⟨rfl, fh_rt h20 hQ⟩)⟩⟩) (fun c14 h15 => ⟨rfl, fh_rt h15 hQ⟩)⟩⟩⟩⟩))⟩⟩)
noncomputable def G_X8_scanPoint (n : Nat) (r : Nat → Nat → Option Nat) (as : List Value) (m : fm_) : Option (Option Value × fm_) := match as with
  | [.ref x0, .int p1] => gd_ (Nat.beq x0 1) ((f_X8_scanPoint p1 m).map en_i)
  | _ => none
set_option maxRecDepth 100000 in
theorem gp_X8_scanPoint {n : Nat} {r : Nat → Nat → Option Nat}  {p1 : Int32} {m : fm_} {q : Int32 × fm_}  (e : f_X8_scanPoint p1 m = some q) : G_X8_scanPoint n r [.ref 1, .int p1] m = some (en_i q) := by
  show (gd_ (Nat.beq 1 1) ((f_X8_scanPoint p1 m).map en_i)) = _
  exact fn_gd rfl (fn_mp e)
set_option maxRecDepth 100000 in
theorem ok_X8_scanPoint : am_mok 8 104 m_X8_scanPoint = true := by decide +kernel
set_option maxRecDepth 100000 in
theorem c_X8_scanPoint (l : Launch) {g : am_G} (hg : fx_ l g) : am_Met l g 2 104 (fn_s fn_F G_X8_scanPoint) := by
  refine am_sound (own := 8) (M := m_X8_scanPoint) (SP := sp_X8_scanPoint) hg.1 (by decide +kernel) ok_X8_scanPoint (by decide +kernel) ?_ (fun q hq hk => absurd hk (am_no61 (M := m_X8_scanPoint) (by decide +kernel) q hq)) (fn_ext l _ rfl g 8) (Or.inl (by decide +kernel)) ?_ ?_
  · intro q hq hk
    have hm : q.2.2.2.1 ∈ am_cs m_X8_scanPoint := am_cs_in hq hk
    rw [show am_cs m_X8_scanPoint = [106, 101, 113, 107, 100] by decide +kernel] at hm
    have hm : q.2.2.2.1 ∈ [100, 101, 106, 107, 113] := (List.all_eq_true.mp (show ([106, 101, 113, 107, 100] : List Nat).all (fun a => decide (a ∈ ([100, 101, 106, 107, 113] : List Nat))) = true by decide +kernel) _ hm |> of_decide_eq_true)
    simp only [List.mem_cons, List.not_mem_nil, or_false] at hm
    rcases hm with hm | hm | hm | hm | hm
    · rw [hm]; exact ⟨0, by omega, c_X8_put l hg⟩
    · rw [hm]; exact ⟨0, by omega, c_X8_byteAt l hg⟩
    · rw [hm]; exact ⟨1, by omega, c_X8_digitsEnd l hg⟩
    · rw [hm]; exact ⟨1, by omega, c_X8_numberIn l hg⟩
    · rw [hm]; exact ⟨0, by omega, c_X8_isLetter l hg⟩
  · intro as w K h
    obtain ⟨hf, y, m1, hG, hK⟩ := h
    unfold G_X8_scanPoint at hG
    split at hG
    · exact Nat.le_of_ble_eq_true rfl
    · cases hG
  · intro as w K h
    obtain ⟨n, i0, l0, r⟩ := w
    obtain ⟨hf, y, m1, hG, hK⟩ := h
    unfold G_X8_scanPoint at hG
    split at hG
    · next x0 p1 =>
      obtain ⟨hx1, hG1⟩ := gd_u hG
      obtain rfl := Nat.eq_of_beq_eq_true hx1
      obtain ⟨q, hq, he⟩ := fn_mu hG1
      obtain ⟨rfl, rfl⟩ := Prod.mk.inj he
      exact t_X8_scanPoint  hf  p1 (m := (i0, l0)) hq hK
    · cases hG

/-! == X8_spells == -/
abbrev S_X8_spells : Type := (Int32 × Int32 × Int32 × fm_)
noncomputable def st_X8_spells (k : Nat) (s : S_X8_spells) : Option (S_X8_spells ⊕ (Int32 × fm_)) := match s with
  | (x2, x3, x4, m) =>
    (if (nI (fx_wd k).length) ≤ x4 then
((some (Sum.inr (1, m))))
else
(Option.bind (f_X8_byteAt (x2 + x4) m) fun q3 =>
(gd_ (ix_ x4 (fx_wd k).length)
(if q3.1 = ((fx_wd k).getD (Int32.toNatClampNeg x4) 0) then
((some (Sum.inl ((x2, x3, (x4 + 1), q3.2)))))
else
((some (Sum.inr (0, q3.2))))))))
noncomputable def f_X8_spells_15 (k : Nat) (x2 : Int32) (x3 : Int32) (x4 : Int32) (m : fm_) : Option (Int32 × fm_) := am_lp (st_X8_spells k) ((x2, x3, x4, m))
theorem e_X8_spells_15 (k : Nat) (x2 : Int32) (x3 : Int32) (x4 : Int32) (m : fm_) : f_X8_spells_15 k x2 x3 x4 m =
(if (nI (fx_wd k).length) ≤ x4 then
((some (1, m)))
else
(Option.bind (f_X8_byteAt (x2 + x4) m) fun q3 =>
(gd_ (ix_ x4 (fx_wd k).length)
(if q3.1 = ((fx_wd k).getD (Int32.toNatClampNeg x4) 0) then
((f_X8_spells_15 k x2 x3 (x4 + 1) q3.2))
else
((some (0, q3.2))))))) :=
  (am_lp_eq _ _).trans (fe_if (rfl) (fe_bd fun q3 => (fe_gd (fe_if (rfl) (rfl)))))
noncomputable def f_X8_spells (k : Nat) (p2 : Int32) (p3 : Int32) (m : fm_) : Option (Int32 × fm_) :=
  (if (nI (fx_wd k).length) = (p3 - p2) then
((f_X8_spells_15 k p2 p3 0 m))
else
((some (0, m))))
def sp_X8_spells : am_S := fn_sp [(101, fn_F, G_X8_byteAt), (903, fn_0, G903_), (904, fn_0, G904_)]
theorem sm_X8_spells : am_Smono (sp_X8_spells) := fn_sp_mono _
def P_X8_spells (k : Nat) (n : Nat) (r : Nat → Nat → Option Nat) (s : S_X8_spells) (q : Int32 × fm_) : Prop := match s with
  | (x2, x3, x4, m) => ∀ (Q : Option Value → am_W → Prop), Q (en_i q).1 (mk_ n r q.2) → am_T m_X8_spells sp_X8_spells n Q 15 [some (.ref 1), some (.ref (2000 + k)), some (.int x2), some (.int x3), some (.int x4)] [] (mk_ n r m)
set_option maxRecDepth 100000 in
theorem t_X8_spells_15 (k : Nat) {n : Nat} {r : Nat → Nat → Option Nat} (hf : fn_F n r) (hk : k < 23) {K : S_X8_spells → Option (Int32 × fm_)} {q : Int32 × fm_} (hK : ∀ s, K s = some q → P_X8_spells k n r s q) (x2 : Int32) (x3 : Int32) (x4 : Int32) (m : fm_)
  (h : am_k K (st_X8_spells k ((x2, x3, x4, m))) = some q) : P_X8_spells k n r ((x2, x3, x4, m)) q := fun Q hQ =>
  am_T.wp sm_X8_spells (K := am_T m_X8_spells sp_X8_spells n Q) (cuts := [15]) (fun _ _ _ _ h => h) 17
    (⟨Nat.le_of_ble_eq_true rfl, ⟨trivial, _, _, g903_ (n := n) (r := r) hk, fun _ => fj_if h (fun c1 h2 => ⟨rfl, Or.inr rfl, fj_rt h2 hQ⟩) (fun c1 h2 => fj_bd h2 fun q3 e4 h5 => ⟨Nat.le_of_ble_eq_true rfl, fn_aF hf rfl rfl, ⟨hf, some (.int q3.1), q3.2, gp_X8_byteAt (n := n) (r := r)  e4, fun _ => fj_gd h5 fun g7 h6 => ⟨Nat.le_of_ble_eq_true rfl, ⟨trivial, _, _, g904_ (n := n) (r := r) hk g7, fun _ => fj_if h6 (fun c8 h9 => hK _ h9 _ hQ) (fun c8 h9 => ⟨rfl, Or.inl rfl, fj_rt h9 hQ⟩)⟩⟩⟩⟩)⟩⟩)
theorem l_X8_spells (k : Nat) {n : Nat} {r : Nat → Nat → Option Nat} (hf : fn_F n r) (hk : k < 23) (s : S_X8_spells) (q : Int32 × fm_) (h : am_lp (st_X8_spells k) s = some q) : P_X8_spells k n r s q :=
  am_lp_snd (P := P_X8_spells k n r) (fun K hK s q h => match s, h with
    | (x2, x3, x4, m), h => t_X8_spells_15 k hf hk (fun s => hK s q) x2 x3 x4 m h) s q h
set_option maxRecDepth 100000 in
theorem t_X8_spells (k : Nat) {n : Nat} {r : Nat → Nat → Option Nat} (hf : fn_F n r) (hk : k < 23) {q : Int32 × fm_} (p2 : Int32) (p3 : Int32) {m : fm_}
  (h : f_X8_spells k p2 p3 m = some q) {Q : Option Value → am_W → Prop} (hQ : Q (en_i q).1 (mk_ n r q.2)) : am_T m_X8_spells sp_X8_spells n Q 0 [some (.ref 1), some (.ref (2000 + k)), some (.int p2), some (.int p3), none] [] (mk_ n r m) :=
  am_T.wp sm_X8_spells (K := am_T m_X8_spells sp_X8_spells n Q) (cuts := [15]) (fun _ _ _ _ h => h) 10
    (⟨Nat.le_of_ble_eq_true rfl, ⟨trivial, _, _, g903_ (n := n) (r := r) hk, fun _ => fh_if h (fun c1 h2 => l_X8_spells k hf hk _ _ h2 _ hQ) (fun c1 h2 => ⟨rfl, Or.inl rfl, fh_rt h2 hQ⟩)⟩⟩)
noncomputable def G_X8_spells (n : Nat) (r : Nat → Nat → Option Nat) (as : List Value) (m : fm_) : Option (Option Value × fm_) := match as with
  | [.ref x0, .ref sx, .int p2, .int p3] => gd_ (Nat.beq x0 1) (fn_sk sx fun k => (f_X8_spells k p2 p3 m).map en_i)
  | _ => none
set_option maxRecDepth 100000 in
theorem gp_X8_spells {n : Nat} {r : Nat → Nat → Option Nat} {k : Nat} {p2 : Int32} {p3 : Int32} {m : fm_} {q : Int32 × fm_} {sx : Nat} (hk : k < 23) (hs : sx = 2000 + k) (e : f_X8_spells k p2 p3 m = some q) : G_X8_spells n r [.ref 1, .ref sx, .int p2, .int p3] m = some (en_i q) := by
  subst hs
  show gd_ (Nat.beq 1 1) (fn_sk (2000 + k) fun k => (f_X8_spells k p2 p3 m).map en_i) = _
  rw [fn_sk_i hk, gd_t (by decide)]
  exact fn_mp e
set_option maxRecDepth 100000 in
theorem ok_X8_spells : am_mok 8 110 m_X8_spells = true := by decide +kernel
set_option maxRecDepth 100000 in
theorem c_X8_spells (l : Launch) {g : am_G} (hg : fx_ l g) : am_Met l g 4 110 (fn_s fn_F G_X8_spells) := by
  refine am_sound (own := 8) (M := m_X8_spells) (SP := sp_X8_spells) hg.1 (by decide +kernel) ok_X8_spells (by decide +kernel) ?_ (fun q hq hk => absurd hk (am_no61 (M := m_X8_spells) (by decide +kernel) q hq)) (fx_e8s hg _ _) (Or.inr (by omega)) ?_ ?_
  · intro q hq hk
    have hm : q.2.2.2.1 ∈ am_cs m_X8_spells := am_cs_in hq hk
    rw [show am_cs m_X8_spells = [101] by decide +kernel] at hm
    have hm : q.2.2.2.1 ∈ [101] := (List.all_eq_true.mp (show ([101] : List Nat).all (fun a => decide (a ∈ ([101] : List Nat))) = true by decide +kernel) _ hm |> of_decide_eq_true)
    simp only [List.mem_cons, List.not_mem_nil, or_false] at hm
    rcases hm with hm
    · rw [hm]; exact ⟨0, by omega, c_X8_byteAt l hg⟩
  · intro as w K h
    obtain ⟨hf, y, m1, hG, hK⟩ := h
    unfold G_X8_spells at hG
    split at hG
    · exact Nat.le_of_ble_eq_true rfl
    · cases hG
  · intro as w K h
    obtain ⟨n, i0, l0, r⟩ := w
    obtain ⟨hf, y, m1, hG, hK⟩ := h
    unfold G_X8_spells at hG
    split at hG
    · next x0 sx p2 p3 =>
      obtain ⟨hx1, hG1⟩ := gd_u hG
      obtain ⟨k, hk, hsx, hG9⟩ := fn_sk_u hG1
      obtain rfl := Nat.eq_of_beq_eq_true hx1
      subst hsx
      obtain ⟨q, hq, he⟩ := fn_mu hG9
      obtain ⟨rfl, rfl⟩ := Prod.mk.inj he
      exact t_X8_spells k hf hk p2 p3 (m := (i0, l0)) hq hK
    · cases hG

/-! == X8_lineWord == -/
noncomputable def f_X8_lineWord (p1 : Int32) (p2 : Int32) (m : fm_) : Option (Int32 × fm_) :=
  (Option.bind (f_X8_spells 0 p1 p2 m) fun q1 =>
(if q1.1 = 0 then
(Option.bind (f_X8_spells 1 p1 p2 q1.2) fun q6 =>
(if q6.1 = 0 then
(Option.bind (f_X8_spells 2 p1 p2 q6.2) fun q11 =>
(if q11.1 = 0 then
(Option.bind (f_X8_spells 3 p1 p2 q11.2) fun q16 =>
(if q16.1 = 0 then
(Option.bind (f_X8_spells 4 p1 p2 q16.2) fun q21 =>
(if q21.1 = 0 then
(Option.bind (f_X8_spells 5 p1 p2 q21.2) fun q26 =>
(if q26.1 = 0 then
(Option.bind (f_X8_spells 6 p1 p2 q26.2) fun q31 =>
(if q31.1 = 0 then
(Option.bind (f_X8_spells 7 p1 p2 q31.2) fun q36 =>
(if q36.1 = 0 then
(Option.bind (f_X8_spells 8 p1 p2 q36.2) fun q41 =>
(if q41.1 = 0 then
((some (4, q41.2)))
else
((some (110, q41.2)))))
else
((some (109, q36.2)))))
else
((some (108, q31.2)))))
else
((some (107, q26.2)))))
else
((some (105, q21.2)))))
else
((some (127, q16.2)))))
else
((some (102, q11.2)))))
else
((some (101, q6.2)))))
else
((some (100, q1.2)))))
def sp_X8_lineWord : am_S := fn_sp [(110, fn_F, G_X8_spells), (905, fn_0, G905_)]
theorem sm_X8_lineWord : am_Smono (sp_X8_lineWord) := fn_sp_mono _
set_option maxRecDepth 100000 in
theorem t_X8_lineWord {n : Nat} {r : Nat → Nat → Option Nat} (hf : fn_F n r) {q : Int32 × fm_} (p1 : Int32) (p2 : Int32) {m : fm_}
  (h : f_X8_lineWord p1 p2 m = some q) {Q : Option Value → am_W → Prop} (hQ : Q (en_i q).1 (mk_ n r q.2)) : am_T m_X8_lineWord sp_X8_lineWord n Q 0 [some (.ref 1), some (.int p1), some (.int p2)] [] (mk_ n r m) :=
  am_T.wp sm_X8_lineWord (K := am_T m_X8_lineWord sp_X8_lineWord n Q) (cuts := []) (fun _ _ _ _ h => h) 57
    (⟨trivial, _, _, g905_0 (n := n) (r := r), fun _ => fh_bd h fun q1 e2 h3 => ⟨Nat.le_of_ble_eq_true rfl, fn_aF hf rfl rfl, ⟨hf, some (.int q1.1), q1.2, gp_X8_spells (n := n) (r := r) (k := 0) (Nat.le_of_ble_eq_true rfl) rfl e2, fun _ => fh_if h3 (fun c4 h5 => ⟨trivial, _, _, g905_1 (n := n) (r := r), fun _ => fh_bd h5 fun q6 e7 h8 => ⟨Nat.le_of_ble_eq_true rfl, fn_aF hf rfl rfl, ⟨hf, some (.int q6.1), q6.2, gp_X8_spells (n := n) (r := r) (k := 1) (Nat.le_of_ble_eq_true rfl) rfl e7, fun _ => fh_if h8 (fun c9 h10 => ⟨trivial, _, _, g905_2 (n := n) (r := r), fun _ => fh_bd h10 fun q11 e12 h13 => ⟨Nat.le_of_ble_eq_true rfl, fn_aF hf rfl rfl, ⟨hf, some (.int q11.1), q11.2, gp_X8_spells (n := n) (r := r) (k := 2) (Nat.le_of_ble_eq_true rfl) rfl e12, fun _ => fh_if h13 (fun c14 h15 => ⟨trivial, _, _, g905_3 (n := n) (r := r), fun _ => fh_bd h15 fun q16 e17 h18 => ⟨Nat.le_of_ble_eq_true rfl, fn_aF hf rfl rfl, ⟨hf, some (.int q16.1), q16.2, gp_X8_spells (n := n) (r := r) (k := 3) (Nat.le_of_ble_eq_true rfl) rfl e17, fun _ => fh_if h18 (fun c19 h20 => ⟨trivial, _, _, g905_4 (n := n) (r := r), fun _ => fh_bd h20 fun q21 e22 h23 => ⟨Nat.le_of_ble_eq_true rfl, fn_aF hf rfl rfl, ⟨hf, some (.int q21.1), q21.2, gp_X8_spells (n := n) (r := r) (k := 4) (Nat.le_of_ble_eq_true rfl) rfl e22, fun _ => fh_if h23 (fun c24 h25 => ⟨trivial, _, _, g905_5 (n := n) (r := r), fun _ => fh_bd h25 fun q26 e27 h28 => ⟨Nat.le_of_ble_eq_true rfl, fn_aF hf rfl rfl, ⟨hf, some (.int q26.1), q26.2, gp_X8_spells (n := n) (r := r) (k := 5) (Nat.le_of_ble_eq_true rfl) rfl e27, fun _ => fh_if h28 (fun c29 h30 => ⟨trivial, _, _, g905_6 (n := n) (r := r), fun _ => fh_bd h30 fun q31 e32 h33 => ⟨Nat.le_of_ble_eq_true rfl, fn_aF hf rfl rfl, ⟨hf, some (.int q31.1), q31.2, gp_X8_spells (n := n) (r := r) (k := 6) (Nat.le_of_ble_eq_true rfl) rfl e32, fun _ => fh_if h33 (fun c34 h35 => ⟨trivial, _, _, g905_7 (n := n) (r := r), fun _ => fh_bd h35 fun q36 e37 h38 => ⟨Nat.le_of_ble_eq_true rfl, fn_aF hf rfl rfl, ⟨hf, some (.int q36.1), q36.2, gp_X8_spells (n := n) (r := r) (k := 7) (Nat.le_of_ble_eq_true rfl) rfl e37, fun _ => fh_if h38 (fun c39 h40 => ⟨trivial, _, _, g905_8 (n := n) (r := r), fun _ => fh_bd h40 fun q41 e42 h43 => ⟨Nat.le_of_ble_eq_true rfl, fn_aF hf rfl rfl, ⟨hf, some (.int q41.1), q41.2, gp_X8_spells (n := n) (r := r) (k := 8) (Nat.le_of_ble_eq_true rfl) rfl e42, fun _ => fh_if h43 (fun c44 h45 => ⟨rfl, fh_rt h45 hQ⟩) (fun c44 h45 => ⟨rfl, fh_rt h45 hQ⟩)⟩⟩⟩) (fun c39 h40 => ⟨rfl, fh_rt h40 hQ⟩)⟩⟩⟩) (fun c34 h35 => ⟨rfl, fh_rt h35 hQ⟩)⟩⟩⟩) (fun c29 h30 => ⟨rfl, fh_rt h30 hQ⟩)⟩⟩⟩) (fun c24 h25 => ⟨rfl, fh_rt h25 hQ⟩)⟩⟩⟩) (fun c19 h20 => ⟨rfl, fh_rt h20 hQ⟩)⟩⟩⟩) (fun c14 h15 => ⟨rfl, fh_rt h15 hQ⟩)⟩⟩⟩) (fun c9 h10 => ⟨rfl, fh_rt h10 hQ⟩)⟩⟩⟩) (fun c4 h5 => ⟨rfl, fh_rt h5 hQ⟩)⟩⟩⟩)
noncomputable def G_X8_lineWord (n : Nat) (r : Nat → Nat → Option Nat) (as : List Value) (m : fm_) : Option (Option Value × fm_) := match as with
  | [.ref x0, .int p1, .int p2] => gd_ (Nat.beq x0 1) ((f_X8_lineWord p1 p2 m).map en_i)
  | _ => none
set_option maxRecDepth 100000 in
theorem gp_X8_lineWord {n : Nat} {r : Nat → Nat → Option Nat}  {p1 : Int32} {p2 : Int32} {m : fm_} {q : Int32 × fm_}  (e : f_X8_lineWord p1 p2 m = some q) : G_X8_lineWord n r [.ref 1, .int p1, .int p2] m = some (en_i q) := by
  show (gd_ (Nat.beq 1 1) ((f_X8_lineWord p1 p2 m).map en_i)) = _
  exact fn_gd rfl (fn_mp e)
set_option maxRecDepth 100000 in
theorem ok_X8_lineWord : am_mok 8 108 m_X8_lineWord = true := by decide +kernel
set_option maxRecDepth 100000 in
theorem c_X8_lineWord (l : Launch) {g : am_G} (hg : fx_ l g) : am_Met l g 5 108 (fn_s fn_F G_X8_lineWord) := by
  refine am_sound (own := 8) (M := m_X8_lineWord) (SP := sp_X8_lineWord) hg.1 (by decide +kernel) ok_X8_lineWord (by decide +kernel) ?_ (fun q hq hk => absurd hk (am_no61 (M := m_X8_lineWord) (by decide +kernel) q hq)) (fx_e8w hg _ _) (Or.inl (by decide +kernel)) ?_ ?_
  · intro q hq hk
    have hm : q.2.2.2.1 ∈ am_cs m_X8_lineWord := am_cs_in hq hk
    rw [show am_cs m_X8_lineWord = [110, 110, 110, 110, 110, 110, 110, 110, 110] by decide +kernel] at hm
    have hm : q.2.2.2.1 ∈ [110] := (List.all_eq_true.mp (show ([110, 110, 110, 110, 110, 110, 110, 110, 110] : List Nat).all (fun a => decide (a ∈ ([110] : List Nat))) = true by decide +kernel) _ hm |> of_decide_eq_true)
    simp only [List.mem_cons, List.not_mem_nil, or_false] at hm
    rcases hm with hm
    · rw [hm]; exact ⟨4, by omega, c_X8_spells l hg⟩
  · intro as w K h
    obtain ⟨hf, y, m1, hG, hK⟩ := h
    unfold G_X8_lineWord at hG
    split at hG
    · exact Nat.le_of_ble_eq_true rfl
    · cases hG
  · intro as w K h
    obtain ⟨n, i0, l0, r⟩ := w
    obtain ⟨hf, y, m1, hG, hK⟩ := h
    unfold G_X8_lineWord at hG
    split at hG
    · next x0 p1 p2 =>
      obtain ⟨hx1, hG1⟩ := gd_u hG
      obtain rfl := Nat.eq_of_beq_eq_true hx1
      obtain ⟨q, hq, he⟩ := fn_mu hG1
      obtain ⟨rfl, rfl⟩ := Prod.mk.inj he
      exact t_X8_lineWord  hf  p1 p2 (m := (i0, l0)) hq hK
    · cases hG

/-! == X8_innerWord == -/
noncomputable def f_X8_innerWord (p1 : Int32) (p2 : Int32) (m : fm_) : Option (Int32 × fm_) :=
  (Option.bind (f_X8_spells 9 p1 p2 m) fun q1 =>
(if q1.1 = 0 then
(Option.bind (f_X8_spells 10 p1 p2 q1.2) fun q6 =>
(if q6.1 = 0 then
(Option.bind (f_X8_spells 11 p1 p2 q6.2) fun q11 =>
(if q11.1 = 0 then
(Option.bind (f_X8_spells 12 p1 p2 q11.2) fun q16 =>
(if q16.1 = 0 then
(Option.bind (f_X8_spells 13 p1 p2 q16.2) fun q21 =>
(if q21.1 = 0 then
(Option.bind (f_X8_spells 14 p1 p2 q21.2) fun q26 =>
(if q26.1 = 0 then
(Option.bind (f_X8_spells 15 p1 p2 q26.2) fun q31 =>
(if q31.1 = 0 then
(Option.bind (f_X8_spells 16 p1 p2 q31.2) fun q36 =>
(if q36.1 = 0 then
(Option.bind (f_X8_spells 17 p1 p2 q36.2) fun q41 =>
(if q41.1 = 0 then
(Option.bind (f_X8_spells 18 p1 p2 q41.2) fun q46 =>
(if q46.1 = 0 then
(Option.bind (f_X8_spells 19 p1 p2 q46.2) fun q51 =>
(if q51.1 = 0 then
(Option.bind (f_X8_spells 20 p1 p2 q51.2) fun q56 =>
(if q56.1 = 0 then
(Option.bind (f_X8_spells 21 p1 p2 q56.2) fun q61 =>
(if q61.1 = 0 then
(Option.bind (f_X8_spells 22 p1 p2 q61.2) fun q66 =>
(if q66.1 = 0 then
((some (4, q66.2)))
else
((some (126, q66.2)))))
else
((some (125, q61.2)))))
else
((some (124, q56.2)))))
else
((some (123, q51.2)))))
else
((some (122, q46.2)))))
else
((some (121, q41.2)))))
else
((some (120, q36.2)))))
else
((some (114, q31.2)))))
else
((some (113, q26.2)))))
else
((some (112, q21.2)))))
else
((some (111, q16.2)))))
else
((some (106, q11.2)))))
else
((some (104, q6.2)))))
else
((some (103, q1.2)))))
def sp_X8_innerWord : am_S := fn_sp [(110, fn_F, G_X8_spells), (905, fn_0, G905_)]
theorem sm_X8_innerWord : am_Smono (sp_X8_innerWord) := fn_sp_mono _
set_option maxRecDepth 100000 in
theorem t_X8_innerWord {n : Nat} {r : Nat → Nat → Option Nat} (hf : fn_F n r) {q : Int32 × fm_} (p1 : Int32) (p2 : Int32) {m : fm_}
  (h : f_X8_innerWord p1 p2 m = some q) {Q : Option Value → am_W → Prop} (hQ : Q (en_i q).1 (mk_ n r q.2)) : am_T m_X8_innerWord sp_X8_innerWord n Q 0 [some (.ref 1), some (.int p1), some (.int p2)] [] (mk_ n r m) :=
  am_T.wp sm_X8_innerWord (K := am_T m_X8_innerWord sp_X8_innerWord n Q) (cuts := []) (fun _ _ _ _ h => h) 87
    (⟨trivial, _, _, g905_9 (n := n) (r := r), fun _ => fh_bd h fun q1 e2 h3 => ⟨Nat.le_of_ble_eq_true rfl, fn_aF hf rfl rfl, ⟨hf, some (.int q1.1), q1.2, gp_X8_spells (n := n) (r := r) (k := 9) (Nat.le_of_ble_eq_true rfl) rfl e2, fun _ => fh_if h3 (fun c4 h5 => ⟨trivial, _, _, g905_10 (n := n) (r := r), fun _ => fh_bd h5 fun q6 e7 h8 => ⟨Nat.le_of_ble_eq_true rfl, fn_aF hf rfl rfl, ⟨hf, some (.int q6.1), q6.2, gp_X8_spells (n := n) (r := r) (k := 10) (Nat.le_of_ble_eq_true rfl) rfl e7, fun _ => fh_if h8 (fun c9 h10 => ⟨trivial, _, _, g905_11 (n := n) (r := r), fun _ => fh_bd h10 fun q11 e12 h13 => ⟨Nat.le_of_ble_eq_true rfl, fn_aF hf rfl rfl, ⟨hf, some (.int q11.1), q11.2, gp_X8_spells (n := n) (r := r) (k := 11) (Nat.le_of_ble_eq_true rfl) rfl e12, fun _ => fh_if h13 (fun c14 h15 => ⟨trivial, _, _, g905_12 (n := n) (r := r), fun _ => fh_bd h15 fun q16 e17 h18 => ⟨Nat.le_of_ble_eq_true rfl, fn_aF hf rfl rfl, ⟨hf, some (.int q16.1), q16.2, gp_X8_spells (n := n) (r := r) (k := 12) (Nat.le_of_ble_eq_true rfl) rfl e17, fun _ => fh_if h18 (fun c19 h20 => ⟨trivial, _, _, g905_13 (n := n) (r := r), fun _ => fh_bd h20 fun q21 e22 h23 => ⟨Nat.le_of_ble_eq_true rfl, fn_aF hf rfl rfl, ⟨hf, some (.int q21.1), q21.2, gp_X8_spells (n := n) (r := r) (k := 13) (Nat.le_of_ble_eq_true rfl) rfl e22, fun _ => fh_if h23 (fun c24 h25 => ⟨trivial, _, _, g905_14 (n := n) (r := r), fun _ => fh_bd h25 fun q26 e27 h28 => ⟨Nat.le_of_ble_eq_true rfl, fn_aF hf rfl rfl, ⟨hf, some (.int q26.1), q26.2, gp_X8_spells (n := n) (r := r) (k := 14) (Nat.le_of_ble_eq_true rfl) rfl e27, fun _ => fh_if h28 (fun c29 h30 => ⟨trivial, _, _, g905_15 (n := n) (r := r), fun _ => fh_bd h30 fun q31 e32 h33 => ⟨Nat.le_of_ble_eq_true rfl, fn_aF hf rfl rfl, ⟨hf, some (.int q31.1), q31.2, gp_X8_spells (n := n) (r := r) (k := 15) (Nat.le_of_ble_eq_true rfl) rfl e32, fun _ => fh_if h33 (fun c34 h35 => ⟨trivial, _, _, g905_16 (n := n) (r := r), fun _ => fh_bd h35 fun q36 e37 h38 => ⟨Nat.le_of_ble_eq_true rfl, fn_aF hf rfl rfl, ⟨hf, some (.int q36.1), q36.2, gp_X8_spells (n := n) (r := r) (k := 16) (Nat.le_of_ble_eq_true rfl) rfl e37, fun _ => fh_if h38 (fun c39 h40 => ⟨trivial, _, _, g905_17 (n := n) (r := r), fun _ => fh_bd h40 fun q41 e42 h43 => ⟨Nat.le_of_ble_eq_true rfl, fn_aF hf rfl rfl, ⟨hf, some (.int q41.1), q41.2, gp_X8_spells (n := n) (r := r) (k := 17) (Nat.le_of_ble_eq_true rfl) rfl e42, fun _ => fh_if h43 (fun c44 h45 => ⟨trivial, _, _, g905_18 (n := n) (r := r), fun _ => fh_bd h45 fun q46 e47 h48 => ⟨Nat.le_of_ble_eq_true rfl, fn_aF hf rfl rfl, ⟨hf, some (.int q46.1), q46.2, gp_X8_spells (n := n) (r := r) (k := 18) (Nat.le_of_ble_eq_true rfl) rfl e47, fun _ => fh_if h48 (fun c49 h50 => ⟨trivial, _, _, g905_19 (n := n) (r := r), fun _ => fh_bd h50 fun q51 e52 h53 => ⟨Nat.le_of_ble_eq_true rfl, fn_aF hf rfl rfl, ⟨hf, some (.int q51.1), q51.2, gp_X8_spells (n := n) (r := r) (k := 19) (Nat.le_of_ble_eq_true rfl) rfl e52, fun _ => fh_if h53 (fun c54 h55 => ⟨trivial, _, _, g905_20 (n := n) (r := r), fun _ => fh_bd h55 fun q56 e57 h58 => ⟨Nat.le_of_ble_eq_true rfl, fn_aF hf rfl rfl, ⟨hf, some (.int q56.1), q56.2, gp_X8_spells (n := n) (r := r) (k := 20) (Nat.le_of_ble_eq_true rfl) rfl e57, fun _ => fh_if h58 (fun c59 h60 => ⟨trivial, _, _, g905_21 (n := n) (r := r), fun _ => fh_bd h60 fun q61 e62 h63 => ⟨Nat.le_of_ble_eq_true rfl, fn_aF hf rfl rfl, ⟨hf, some (.int q61.1), q61.2, gp_X8_spells (n := n) (r := r) (k := 21) (Nat.le_of_ble_eq_true rfl) rfl e62, fun _ => fh_if h63 (fun c64 h65 => ⟨trivial, _, _, g905_22 (n := n) (r := r), fun _ => fh_bd h65 fun q66 e67 h68 => ⟨Nat.le_of_ble_eq_true rfl, fn_aF hf rfl rfl, ⟨hf, some (.int q66.1), q66.2, gp_X8_spells (n := n) (r := r) (k := 22) (Nat.le_of_ble_eq_true rfl) rfl e67, fun _ => fh_if h68 (fun c69 h70 => ⟨rfl, fh_rt h70 hQ⟩) (fun c69 h70 => ⟨rfl, fh_rt h70 hQ⟩)⟩⟩⟩) (fun c64 h65 => ⟨rfl, fh_rt h65 hQ⟩)⟩⟩⟩) (fun c59 h60 => ⟨rfl, fh_rt h60 hQ⟩)⟩⟩⟩) (fun c54 h55 => ⟨rfl, fh_rt h55 hQ⟩)⟩⟩⟩) (fun c49 h50 => ⟨rfl, fh_rt h50 hQ⟩)⟩⟩⟩) (fun c44 h45 => ⟨rfl, fh_rt h45 hQ⟩)⟩⟩⟩) (fun c39 h40 => ⟨rfl, fh_rt h40 hQ⟩)⟩⟩⟩) (fun c34 h35 => ⟨rfl, fh_rt h35 hQ⟩)⟩⟩⟩) (fun c29 h30 => ⟨rfl, fh_rt h30 hQ⟩)⟩⟩⟩) (fun c24 h25 => ⟨rfl, fh_rt h25 hQ⟩)⟩⟩⟩) (fun c19 h20 => ⟨rfl, fh_rt h20 hQ⟩)⟩⟩⟩) (fun c14 h15 => ⟨rfl, fh_rt h15 hQ⟩)⟩⟩⟩) (fun c9 h10 => ⟨rfl, fh_rt h10 hQ⟩)⟩⟩⟩) (fun c4 h5 => ⟨rfl, fh_rt h5 hQ⟩)⟩⟩⟩)
noncomputable def G_X8_innerWord (n : Nat) (r : Nat → Nat → Option Nat) (as : List Value) (m : fm_) : Option (Option Value × fm_) := match as with
  | [.ref x0, .int p1, .int p2] => gd_ (Nat.beq x0 1) ((f_X8_innerWord p1 p2 m).map en_i)
  | _ => none
set_option maxRecDepth 100000 in
theorem gp_X8_innerWord {n : Nat} {r : Nat → Nat → Option Nat}  {p1 : Int32} {p2 : Int32} {m : fm_} {q : Int32 × fm_}  (e : f_X8_innerWord p1 p2 m = some q) : G_X8_innerWord n r [.ref 1, .int p1, .int p2] m = some (en_i q) := by
  show (gd_ (Nat.beq 1 1) ((f_X8_innerWord p1 p2 m).map en_i)) = _
  exact fn_gd rfl (fn_mp e)
set_option maxRecDepth 100000 in
theorem ok_X8_innerWord : am_mok 8 109 m_X8_innerWord = true := by decide +kernel
set_option maxRecDepth 100000 in
theorem c_X8_innerWord (l : Launch) {g : am_G} (hg : fx_ l g) : am_Met l g 5 109 (fn_s fn_F G_X8_innerWord) := by
  refine am_sound (own := 8) (M := m_X8_innerWord) (SP := sp_X8_innerWord) hg.1 (by decide +kernel) ok_X8_innerWord (by decide +kernel) ?_ (fun q hq hk => absurd hk (am_no61 (M := m_X8_innerWord) (by decide +kernel) q hq)) (fx_e8w hg _ _) (Or.inl (by decide +kernel)) ?_ ?_
  · intro q hq hk
    have hm : q.2.2.2.1 ∈ am_cs m_X8_innerWord := am_cs_in hq hk
    rw [show am_cs m_X8_innerWord = [110, 110, 110, 110, 110, 110, 110, 110, 110, 110, 110, 110, 110, 110] by decide +kernel] at hm
    have hm : q.2.2.2.1 ∈ [110] := (List.all_eq_true.mp (show ([110, 110, 110, 110, 110, 110, 110, 110, 110, 110, 110, 110, 110, 110] : List Nat).all (fun a => decide (a ∈ ([110] : List Nat))) = true by decide +kernel) _ hm |> of_decide_eq_true)
    simp only [List.mem_cons, List.not_mem_nil, or_false] at hm
    rcases hm with hm
    · rw [hm]; exact ⟨4, by omega, c_X8_spells l hg⟩
  · intro as w K h
    obtain ⟨hf, y, m1, hG, hK⟩ := h
    unfold G_X8_innerWord at hG
    split at hG
    · exact Nat.le_of_ble_eq_true rfl
    · cases hG
  · intro as w K h
    obtain ⟨n, i0, l0, r⟩ := w
    obtain ⟨hf, y, m1, hG, hK⟩ := h
    unfold G_X8_innerWord at hG
    split at hG
    · next x0 p1 p2 =>
      obtain ⟨hx1, hG1⟩ := gd_u hG
      obtain rfl := Nat.eq_of_beq_eq_true hx1
      obtain ⟨q, hq, he⟩ := fn_mu hG1
      obtain ⟨rfl, rfl⟩ := Prod.mk.inj he
      exact t_X8_innerWord  hf  p1 p2 (m := (i0, l0)) hq hK
    · cases hG

