/-! == X12_feed == -/
noncomputable def f_X12_feed (p1 : Int32) (p2 : Int32) (p3 : Int32) (p4 : Int32) (p5 : Int32) (m : fm_) : Option (Int32 × fm_) :=
  (if ((gi_ m 106 1) + 20) ≤ 900 then
(Option.bind (f_X12_four p1 m) fun q3 =>
(Option.bind (f_X12_four p2 q3.2) fun q6 =>
(Option.bind (f_X12_four p3 q6.2) fun q9 =>
(Option.bind (f_X12_four p4 q9.2) fun q12 =>
(Option.bind (f_X12_four p5 q12.2) fun q15 =>
((some ((gi_ q15.2 106 1), q15.2))))))))
else
((some ((-1), m))))
def sp_X12_feed : am_S := fn_sp [(185, fn_F, G_X12_four)]
theorem sm_X12_feed : am_Smono (sp_X12_feed) := fn_sp_mono _
set_option maxRecDepth 100000 in
theorem t_X12_feed {n : Nat} {r : Nat → Nat → Option Nat} (hf : fn_F n r) {q : Int32 × fm_} (p1 : Int32) (p2 : Int32) (p3 : Int32) (p4 : Int32) (p5 : Int32) {m : fm_}
  (h : f_X12_feed p1 p2 p3 p4 p5 m = some q) {Q : Option Value → am_W → Prop} (hQ : Q (en_i q).1 (mk_ n r q.2)) : am_T m_X12_feed sp_X12_feed n Q 0 [some (.ref 106), some (.int p1), some (.int p2), some (.int p3), some (.int p4), some (.int p5)] [] (mk_ n r m) :=
  am_T.wp sm_X12_feed (K := am_T m_X12_feed sp_X12_feed n Q) (cuts := []) (fun _ _ _ _ h => h) 25
    (⟨fn_aF hf rfl rfl, fh_if h (fun c1 h2 => fh_bd h2 fun q3 e4 h5 => ⟨Nat.le_of_ble_eq_true rfl, fn_aF hf rfl rfl, ⟨hf, none, q3.2, gp_X12_four (n := n) (r := r)  e4, fun _ => ⟨rfl, fh_bd h5 fun q6 e7 h8 => ⟨Nat.le_of_ble_eq_true rfl, fn_aF hf rfl rfl, ⟨hf, none, q6.2, gp_X12_four (n := n) (r := r)  e7, fun _ => ⟨rfl, fh_bd h8 fun q9 e10 h11 => ⟨Nat.le_of_ble_eq_true rfl, fn_aF hf rfl rfl, ⟨hf, none, q9.2, gp_X12_four (n := n) (r := r)  e10, fun _ => ⟨rfl, fh_bd h11 fun q12 e13 h14 => ⟨Nat.le_of_ble_eq_true rfl, fn_aF hf rfl rfl, ⟨hf, none, q12.2, gp_X12_four (n := n) (r := r)  e13, fun _ => ⟨rfl, fh_bd h14 fun q15 e16 h17 => ⟨Nat.le_of_ble_eq_true rfl, fn_aF hf rfl rfl, ⟨hf, none, q15.2, gp_X12_four (n := n) (r := r)  e16, fun _ => ⟨rfl, ⟨fn_aF hf rfl rfl, ⟨rfl, fh_rt h17 hQ⟩⟩⟩⟩⟩⟩⟩⟩⟩⟩⟩⟩⟩⟩⟩⟩⟩) (fun c1 h2 => ⟨rfl, fh_rt h2 hQ⟩)⟩)
noncomputable def G_X12_feed (n : Nat) (r : Nat → Nat → Option Nat) (as : List Value) (m : fm_) : Option (Option Value × fm_) := match as with
  | [.ref x0, .int p1, .int p2, .int p3, .int p4, .int p5] => gd_ (Nat.beq x0 106) ((f_X12_feed p1 p2 p3 p4 p5 m).map en_i)
  | _ => none
set_option maxRecDepth 100000 in
theorem gp_X12_feed {n : Nat} {r : Nat → Nat → Option Nat}  {p1 : Int32} {p2 : Int32} {p3 : Int32} {p4 : Int32} {p5 : Int32} {m : fm_} {q : Int32 × fm_}  (e : f_X12_feed p1 p2 p3 p4 p5 m = some q) : G_X12_feed n r [.ref 106, .int p1, .int p2, .int p3, .int p4, .int p5] m = some (en_i q) := by
  show (gd_ (Nat.beq 106 106) ((f_X12_feed p1 p2 p3 p4 p5 m).map en_i)) = _
  exact fn_gd rfl (fn_mp e)
set_option maxRecDepth 100000 in
theorem ok_X12_feed : am_mok 12 184 m_X12_feed = true := by decide +kernel
set_option maxRecDepth 100000 in
theorem c_X12_feed (l : Launch) {g : am_G} (hg : fx_ l g) : am_Met l g 1 184 (fn_s fn_F G_X12_feed) := by
  refine am_sound (own := 12) (M := m_X12_feed) (SP := sp_X12_feed) hg.1 (by decide +kernel) ok_X12_feed (by decide +kernel) ?_ (fun q hq hk => absurd hk (am_no61 (M := m_X12_feed) (by decide +kernel) q hq)) (fn_ext l _ rfl g 12) (Or.inl (by decide +kernel)) ?_ ?_
  · intro q hq hk
    have hm : q.2.2.2.1 ∈ am_cs m_X12_feed := am_cs_in hq hk
    rw [show am_cs m_X12_feed = [185, 185, 185, 185, 185] by decide +kernel] at hm
    have hm : q.2.2.2.1 ∈ [185] := (List.all_eq_true.mp (show ([185, 185, 185, 185, 185] : List Nat).all (fun a => decide (a ∈ ([185] : List Nat))) = true by decide +kernel) _ hm |> of_decide_eq_true)
    simp only [List.mem_cons, List.not_mem_nil, or_false] at hm
    rcases hm with hm
    · rw [hm]; exact ⟨0, by omega, c_X12_four l hg⟩
  · intro as w K h
    obtain ⟨hf, y, m1, hG, hK⟩ := h
    unfold G_X12_feed at hG
    split at hG
    · exact Nat.le_of_ble_eq_true rfl
    · cases hG
  · intro as w K h
    obtain ⟨n, i0, l0, r⟩ := w
    obtain ⟨hf, y, m1, hG, hK⟩ := h
    unfold G_X12_feed at hG
    split at hG
    · next x0 p1 p2 p3 p4 p5 =>
      obtain ⟨hx1, hG1⟩ := gd_u hG
      obtain rfl := Nat.eq_of_beq_eq_true hx1
      obtain ⟨q, hq, he⟩ := fn_mu hG1
      obtain ⟨rfl, rfl⟩ := Prod.mk.inj he
      exact t_X12_feed  hf  p1 p2 p3 p4 p5 (m := (i0, l0)) hq hK
    · cases hG

/-! == X12_end == -/
noncomputable def f_X12_end (p1 : Int32) (m : fm_) : Option (Int32 × fm_) :=
  (if p1 < 0 then
((some ((-1), m)))
else
(if p1 ≤ (gi_ m 106 1) then
((some (p1, (si_ m 106 1 p1))))
else
((some ((-1), m)))))
def sp_X12_end : am_S := fn_sp []
theorem sm_X12_end : am_Smono (sp_X12_end) := fn_sp_mono _
set_option maxRecDepth 100000 in
theorem t_X12_end {n : Nat} {r : Nat → Nat → Option Nat} (hf : fn_F n r) {q : Int32 × fm_} (p1 : Int32) {m : fm_}
  (h : f_X12_end p1 m = some q) {Q : Option Value → am_W → Prop} (hQ : Q (en_i q).1 (mk_ n r q.2)) : am_T m_X12_end sp_X12_end n Q 0 [some (.ref 106), some (.int p1)] [] (mk_ n r m) :=
  am_T.wp sm_X12_end (K := am_T m_X12_end sp_X12_end n Q) (cuts := []) (fun _ _ _ _ h => h) 12
    (fh_if h (fun c1 h2 => ⟨rfl, fh_rt h2 hQ⟩) (fun c1 h2 => ⟨fn_aF hf rfl rfl, fh_if h2 (fun c3 h4 => ⟨fn_aF hf rfl rfl, ⟨rfl, fh_rt h4 hQ⟩⟩) (fun c3 h4 => ⟨rfl, fh_rt h4 hQ⟩)⟩))
noncomputable def G_X12_end (n : Nat) (r : Nat → Nat → Option Nat) (as : List Value) (m : fm_) : Option (Option Value × fm_) := match as with
  | [.ref x0, .int p1] => gd_ (Nat.beq x0 106) ((f_X12_end p1 m).map en_i)
  | _ => none
set_option maxRecDepth 100000 in
theorem gp_X12_end {n : Nat} {r : Nat → Nat → Option Nat}  {p1 : Int32} {m : fm_} {q : Int32 × fm_}  (e : f_X12_end p1 m = some q) : G_X12_end n r [.ref 106, .int p1] m = some (en_i q) := by
  show (gd_ (Nat.beq 106 106) ((f_X12_end p1 m).map en_i)) = _
  exact fn_gd rfl (fn_mp e)
set_option maxRecDepth 100000 in
theorem ok_X12_end : am_mok 12 186 m_X12_end = true := by decide +kernel
set_option maxRecDepth 100000 in
theorem c_X12_end (l : Launch) {g : am_G} (hg : fx_ l g) : am_Met l g 0 186 (fn_s fn_F G_X12_end) := by
  refine am_sound (own := 12) (M := m_X12_end) (SP := sp_X12_end) hg.1 (by decide +kernel) ok_X12_end (by decide +kernel) ?_ (fun q hq hk => absurd hk (am_no61 (M := m_X12_end) (by decide +kernel) q hq)) (fn_ext l _ rfl g 12) (Or.inl (by decide +kernel)) ?_ ?_
  · intro q hq hk
    have hm : q.2.2.2.1 ∈ am_cs m_X12_end := am_cs_in hq hk
    rw [show am_cs m_X12_end = [] by decide +kernel] at hm
    cases hm
  · intro as w K h
    obtain ⟨hf, y, m1, hG, hK⟩ := h
    unfold G_X12_end at hG
    split at hG
    · exact Nat.le_of_ble_eq_true rfl
    · cases hG
  · intro as w K h
    obtain ⟨n, i0, l0, r⟩ := w
    obtain ⟨hf, y, m1, hG, hK⟩ := h
    unfold G_X12_end at hG
    split at hG
    · next x0 p1 =>
      obtain ⟨hx1, hG1⟩ := gd_u hG
      obtain rfl := Nat.eq_of_beq_eq_true hx1
      obtain ⟨q, hq, he⟩ := fn_mu hG1
      obtain ⟨rfl, rfl⟩ := Prod.mk.inj he
      exact t_X12_end  hf  p1 (m := (i0, l0)) hq hK
    · cases hG

/-! == X12_here == -/
noncomputable def f_X12_here (p1 : Int32) (m : fm_) : Option (Int32 × fm_) :=
  (if (gi_ m 106 5) ≤ ((gi_ m 106 4) + p1) then
((some ((-1), m)))
else
(gd_ (ix_ ((gi_ m 106 4) + p1) 900)
((some ((gi_ m 107 (Int32.toNatClampNeg ((gi_ m 106 4) + p1))), m)))))
def sp_X12_here : am_S := fn_sp []
theorem sm_X12_here : am_Smono (sp_X12_here) := fn_sp_mono _
set_option maxRecDepth 100000 in
theorem t_X12_here {n : Nat} {r : Nat → Nat → Option Nat} (hf : fn_F n r) {q : Int32 × fm_} (p1 : Int32) {m : fm_}
  (h : f_X12_here p1 m = some q) {Q : Option Value → am_W → Prop} (hQ : Q (en_i q).1 (mk_ n r q.2)) : am_T m_X12_here sp_X12_here n Q 0 [some (.ref 106), some (.int p1)] [] (mk_ n r m) :=
  am_T.wp sm_X12_here (K := am_T m_X12_here sp_X12_here n Q) (cuts := []) (fun _ _ _ _ h => h) 17
    (⟨fn_aF hf rfl rfl, ⟨fn_aF hf rfl rfl, fh_if h (fun c1 h2 => ⟨rfl, fh_rt h2 hQ⟩) (fun c1 h2 => ⟨fn_aF hf rfl rfl, Or.inl ⟨_, hf.2 106 0 107 rfl, ⟨fn_aF hf rfl rfl, fh_gd h2 fun g4 h3 => ⟨900, fn_aF hf rfl rfl, ix_t g4, ⟨rfl, fh_rt h3 hQ⟩⟩⟩⟩⟩)⟩⟩)
noncomputable def G_X12_here (n : Nat) (r : Nat → Nat → Option Nat) (as : List Value) (m : fm_) : Option (Option Value × fm_) := match as with
  | [.ref x0, .int p1] => gd_ (Nat.beq x0 106) ((f_X12_here p1 m).map en_i)
  | _ => none
set_option maxRecDepth 100000 in
theorem gp_X12_here {n : Nat} {r : Nat → Nat → Option Nat}  {p1 : Int32} {m : fm_} {q : Int32 × fm_}  (e : f_X12_here p1 m = some q) : G_X12_here n r [.ref 106, .int p1] m = some (en_i q) := by
  show (gd_ (Nat.beq 106 106) ((f_X12_here p1 m).map en_i)) = _
  exact fn_gd rfl (fn_mp e)
set_option maxRecDepth 100000 in
theorem ok_X12_here : am_mok 12 187 m_X12_here = true := by decide +kernel
set_option maxRecDepth 100000 in
theorem c_X12_here (l : Launch) {g : am_G} (hg : fx_ l g) : am_Met l g 0 187 (fn_s fn_F G_X12_here) := by
  refine am_sound (own := 12) (M := m_X12_here) (SP := sp_X12_here) hg.1 (by decide +kernel) ok_X12_here (by decide +kernel) ?_ (fun q hq hk => absurd hk (am_no61 (M := m_X12_here) (by decide +kernel) q hq)) (fn_ext l _ rfl g 12) (Or.inl (by decide +kernel)) ?_ ?_
  · intro q hq hk
    have hm : q.2.2.2.1 ∈ am_cs m_X12_here := am_cs_in hq hk
    rw [show am_cs m_X12_here = [] by decide +kernel] at hm
    cases hm
  · intro as w K h
    obtain ⟨hf, y, m1, hG, hK⟩ := h
    unfold G_X12_here at hG
    split at hG
    · exact Nat.le_of_ble_eq_true rfl
    · cases hG
  · intro as w K h
    obtain ⟨n, i0, l0, r⟩ := w
    obtain ⟨hf, y, m1, hG, hK⟩ := h
    unfold G_X12_here at hG
    split at hG
    · next x0 p1 =>
      obtain ⟨hx1, hG1⟩ := gd_u hG
      obtain rfl := Nat.eq_of_beq_eq_true hx1
      obtain ⟨q, hq, he⟩ := fn_mu hG1
      obtain ⟨rfl, rfl⟩ := Prod.mk.inj he
      exact t_X12_here  hf  p1 (m := (i0, l0)) hq hK
    · cases hG

/-! == X12_isLetter == -/
noncomputable def f_X12_isLetter (p1 : Int32) (m : fm_) : Option (Int32 × fm_) :=
  (if p1 < 97 then
((some (0, m)))
else
(if 122 < p1 then
((some (0, m)))
else
((some (1, m)))))
def sp_X12_isLetter : am_S := fn_sp []
theorem sm_X12_isLetter : am_Smono (sp_X12_isLetter) := fn_sp_mono _
set_option maxRecDepth 100000 in
theorem t_X12_isLetter {n : Nat} {r : Nat → Nat → Option Nat} (hf : fn_0 n r) {q : Int32 × fm_} (p1 : Int32) {m : fm_}
  (h : f_X12_isLetter p1 m = some q) {Q : Option Value → am_W → Prop} (hQ : Q (en_i q).1 (mk_ n r q.2)) : am_T m_X12_isLetter sp_X12_isLetter n Q 0 [some (.int p1)] [] (mk_ n r m) :=
  am_T.wp sm_X12_isLetter (K := am_T m_X12_isLetter sp_X12_isLetter n Q) (cuts := []) (fun _ _ _ _ h => h) 10
    (fh_if h (fun c1 h2 => ⟨rfl, Or.inl rfl, fh_rt h2 hQ⟩) (fun c1 h2 => fh_if h2 (fun c3 h4 => ⟨rfl, Or.inl rfl, fh_rt h4 hQ⟩) (fun c3 h4 => ⟨rfl, Or.inr rfl, fh_rt h4 hQ⟩)))
noncomputable def G_X12_isLetter (n : Nat) (r : Nat → Nat → Option Nat) (as : List Value) (m : fm_) : Option (Option Value × fm_) := match as with
  | [.int p1] => (f_X12_isLetter p1 m).map en_i
  | _ => none
set_option maxRecDepth 100000 in
theorem gp_X12_isLetter {n : Nat} {r : Nat → Nat → Option Nat}  {p1 : Int32} {m : fm_} {q : Int32 × fm_}  (e : f_X12_isLetter p1 m = some q) : G_X12_isLetter n r [.int p1] m = some (en_i q) := by
  show ((f_X12_isLetter p1 m).map en_i) = _
  exact fn_mp e
set_option maxRecDepth 100000 in
theorem ok_X12_isLetter : am_mok 12 188 m_X12_isLetter = true := by decide +kernel
set_option maxRecDepth 100000 in
theorem c_X12_isLetter (l : Launch) {g : am_G} (hg : fx_ l g) : am_Met l g 0 188 (fn_s fn_0 G_X12_isLetter) := by
  refine am_sound (own := 12) (M := m_X12_isLetter) (SP := sp_X12_isLetter) hg.1 (by decide +kernel) ok_X12_isLetter (by decide +kernel) ?_ (fun q hq hk => absurd hk (am_no61 (M := m_X12_isLetter) (by decide +kernel) q hq)) (fn_ext l _ rfl g 12) (Or.inl (by decide +kernel)) ?_ ?_
  · intro q hq hk
    have hm : q.2.2.2.1 ∈ am_cs m_X12_isLetter := am_cs_in hq hk
    rw [show am_cs m_X12_isLetter = [] by decide +kernel] at hm
    cases hm
  · intro as w K h
    obtain ⟨hf, y, m1, hG, hK⟩ := h
    unfold G_X12_isLetter at hG
    split at hG
    · exact Nat.le_of_ble_eq_true rfl
    · cases hG
  · intro as w K h
    obtain ⟨n, i0, l0, r⟩ := w
    obtain ⟨hf, y, m1, hG, hK⟩ := h
    unfold G_X12_isLetter at hG
    split at hG
    · next p1 =>
      obtain ⟨q, hq, he⟩ := fn_mu hG
      obtain ⟨rfl, rfl⟩ := Prod.mk.inj he
      exact t_X12_isLetter  hf  p1 (m := (i0, l0)) hq hK
    · cases hG

/-! == X12_isDigit == -/
noncomputable def f_X12_isDigit (p1 : Int32) (m : fm_) : Option (Int32 × fm_) :=
  (if p1 < 48 then
((some (0, m)))
else
(if 57 < p1 then
((some (0, m)))
else
((some (1, m)))))
def sp_X12_isDigit : am_S := fn_sp []
theorem sm_X12_isDigit : am_Smono (sp_X12_isDigit) := fn_sp_mono _
set_option maxRecDepth 100000 in
theorem t_X12_isDigit {n : Nat} {r : Nat → Nat → Option Nat} (hf : fn_0 n r) {q : Int32 × fm_} (p1 : Int32) {m : fm_}
  (h : f_X12_isDigit p1 m = some q) {Q : Option Value → am_W → Prop} (hQ : Q (en_i q).1 (mk_ n r q.2)) : am_T m_X12_isDigit sp_X12_isDigit n Q 0 [some (.int p1)] [] (mk_ n r m) :=
  am_T.wp sm_X12_isDigit (K := am_T m_X12_isDigit sp_X12_isDigit n Q) (cuts := []) (fun _ _ _ _ h => h) 10
    (fh_if h (fun c1 h2 => ⟨rfl, Or.inl rfl, fh_rt h2 hQ⟩) (fun c1 h2 => fh_if h2 (fun c3 h4 => ⟨rfl, Or.inl rfl, fh_rt h4 hQ⟩) (fun c3 h4 => ⟨rfl, Or.inr rfl, fh_rt h4 hQ⟩)))
noncomputable def G_X12_isDigit (n : Nat) (r : Nat → Nat → Option Nat) (as : List Value) (m : fm_) : Option (Option Value × fm_) := match as with
  | [.int p1] => (f_X12_isDigit p1 m).map en_i
  | _ => none
set_option maxRecDepth 100000 in
theorem gp_X12_isDigit {n : Nat} {r : Nat → Nat → Option Nat}  {p1 : Int32} {m : fm_} {q : Int32 × fm_}  (e : f_X12_isDigit p1 m = some q) : G_X12_isDigit n r [.int p1] m = some (en_i q) := by
  show ((f_X12_isDigit p1 m).map en_i) = _
  exact fn_mp e
set_option maxRecDepth 100000 in
theorem ok_X12_isDigit : am_mok 12 189 m_X12_isDigit = true := by decide +kernel
set_option maxRecDepth 100000 in
theorem c_X12_isDigit (l : Launch) {g : am_G} (hg : fx_ l g) : am_Met l g 0 189 (fn_s fn_0 G_X12_isDigit) := by
  refine am_sound (own := 12) (M := m_X12_isDigit) (SP := sp_X12_isDigit) hg.1 (by decide +kernel) ok_X12_isDigit (by decide +kernel) ?_ (fun q hq hk => absurd hk (am_no61 (M := m_X12_isDigit) (by decide +kernel) q hq)) (fn_ext l _ rfl g 12) (Or.inl (by decide +kernel)) ?_ ?_
  · intro q hq hk
    have hm : q.2.2.2.1 ∈ am_cs m_X12_isDigit := am_cs_in hq hk
    rw [show am_cs m_X12_isDigit = [] by decide +kernel] at hm
    cases hm
  · intro as w K h
    obtain ⟨hf, y, m1, hG, hK⟩ := h
    unfold G_X12_isDigit at hG
    split at hG
    · exact Nat.le_of_ble_eq_true rfl
    · cases hG
  · intro as w K h
    obtain ⟨n, i0, l0, r⟩ := w
    obtain ⟨hf, y, m1, hG, hK⟩ := h
    unfold G_X12_isDigit at hG
    split at hG
    · next p1 =>
      obtain ⟨q, hq, he⟩ := fn_mu hG
      obtain ⟨rfl, rfl⟩ := Prod.mk.inj he
      exact t_X12_isDigit  hf  p1 (m := (i0, l0)) hq hK
    · cases hG

/-! == X12_isSign == -/
noncomputable def f_X12_isSign (p1 : Int32) (m : fm_) : Option (Int32 × fm_) :=
  (if p1 = 59 then
((some (1, m)))
else
(if p1 = 40 then
((some (1, m)))
else
(if p1 = 41 then
((some (1, m)))
else
(if p1 = 60 then
((some (1, m)))
else
(if p1 = 62 then
((some (1, m)))
else
(if p1 = 61 then
((some (1, m)))
else
(if p1 = 43 then
((some (1, m)))
else
(if p1 = 45 then
((some (1, m)))
else
((some (0, m)))))))))))
def sp_X12_isSign : am_S := fn_sp []
theorem sm_X12_isSign : am_Smono (sp_X12_isSign) := fn_sp_mono _
set_option maxRecDepth 100000 in
theorem t_X12_isSign {n : Nat} {r : Nat → Nat → Option Nat} (hf : fn_0 n r) {q : Int32 × fm_} (p1 : Int32) {m : fm_}
  (h : f_X12_isSign p1 m = some q) {Q : Option Value → am_W → Prop} (hQ : Q (en_i q).1 (mk_ n r q.2)) : am_T m_X12_isSign sp_X12_isSign n Q 0 [some (.int p1)] [] (mk_ n r m) :=
  am_T.wp sm_X12_isSign (K := am_T m_X12_isSign sp_X12_isSign n Q) (cuts := []) (fun _ _ _ _ h => h) 28
    (fh_if h (fun c1 h2 => ⟨rfl, Or.inr rfl, fh_rt h2 hQ⟩) (fun c1 h2 => fh_if h2 (fun c3 h4 => ⟨rfl, Or.inr rfl, fh_rt h4 hQ⟩) (fun c3 h4 => fh_if h4 (fun c5 h6 => ⟨rfl, Or.inr rfl, fh_rt h6 hQ⟩) (fun c5 h6 => fh_if h6 (fun c7 h8 => ⟨rfl, Or.inr rfl, fh_rt h8 hQ⟩) (fun c7 h8 => fh_if h8 (fun c9 h10 => ⟨rfl, Or.inr rfl, fh_rt h10 hQ⟩) (fun c9 h10 => fh_if h10 (fun c11 h12 => ⟨rfl, Or.inr rfl, fh_rt h12 hQ⟩) (fun c11 h12 => fh_if h12 (fun c13 h14 => ⟨rfl, Or.inr rfl, fh_rt h14 hQ⟩) (fun c13 h14 => fh_in h14 (fun c15 h16 => ⟨rfl, Or.inl rfl, fh_rt h16 hQ⟩) (fun c15 h16 => ⟨rfl, Or.inr rfl, fh_rt h16 hQ⟩)))))))))
noncomputable def G_X12_isSign (n : Nat) (r : Nat → Nat → Option Nat) (as : List Value) (m : fm_) : Option (Option Value × fm_) := match as with
  | [.int p1] => (f_X12_isSign p1 m).map en_i
  | _ => none
set_option maxRecDepth 100000 in
theorem gp_X12_isSign {n : Nat} {r : Nat → Nat → Option Nat}  {p1 : Int32} {m : fm_} {q : Int32 × fm_}  (e : f_X12_isSign p1 m = some q) : G_X12_isSign n r [.int p1] m = some (en_i q) := by
  show ((f_X12_isSign p1 m).map en_i) = _
  exact fn_mp e
set_option maxRecDepth 100000 in
theorem ok_X12_isSign : am_mok 12 190 m_X12_isSign = true := by decide +kernel
set_option maxRecDepth 100000 in
theorem c_X12_isSign (l : Launch) {g : am_G} (hg : fx_ l g) : am_Met l g 0 190 (fn_s fn_0 G_X12_isSign) := by
  refine am_sound (own := 12) (M := m_X12_isSign) (SP := sp_X12_isSign) hg.1 (by decide +kernel) ok_X12_isSign (by decide +kernel) ?_ (fun q hq hk => absurd hk (am_no61 (M := m_X12_isSign) (by decide +kernel) q hq)) (fn_ext l _ rfl g 12) (Or.inl (by decide +kernel)) ?_ ?_
  · intro q hq hk
    have hm : q.2.2.2.1 ∈ am_cs m_X12_isSign := am_cs_in hq hk
    rw [show am_cs m_X12_isSign = [] by decide +kernel] at hm
    cases hm
  · intro as w K h
    obtain ⟨hf, y, m1, hG, hK⟩ := h
    unfold G_X12_isSign at hG
    split at hG
    · exact Nat.le_of_ble_eq_true rfl
    · cases hG
  · intro as w K h
    obtain ⟨n, i0, l0, r⟩ := w
    obtain ⟨hf, y, m1, hG, hK⟩ := h
    unfold G_X12_isSign at hG
    split at hG
    · next p1 =>
      obtain ⟨q, hq, he⟩ := fn_mu hG
      obtain ⟨rfl, rfl⟩ := Prod.mk.inj he
      exact t_X12_isSign  hf  p1 (m := (i0, l0)) hq hK
    · cases hG

/-! == X12_pointSize == -/
noncomputable def f_X12_pointSize  (m : fm_) : Option (Int32 × fm_) :=
  (Option.bind (f_X12_here 0 m) fun q1 =>
(if q1.1 = 112 then
(Option.bind (f_X12_here 1 q1.2) fun q6 =>
(Option.bind (f_X12_isDigit q6.1 q6.2) fun q9 =>
(if q9.1 = 0 then
((some (0, q9.2)))
else
(Option.bind (f_X12_here 2 q9.2) fun q14 =>
(Option.bind (f_X12_isDigit q14.1 q14.2) fun q17 =>
(if q17.1 = 0 then
(Option.bind (f_X12_here 1 q17.2) fun q23 =>
(if 12 ≤ (q23.1 - 48) then
((some (0, q23.2)))
else
(Option.bind (f_X12_here 2 q23.2) fun q28 =>
(Option.bind (f_X12_isDigit q28.1 q28.2) fun q31 =>
(if q31.1 = 0 then
(Option.bind (f_X12_here 2 q31.2) fun q36 =>
(Option.bind (f_X12_isLetter q36.1 q36.2) fun q39 =>
(if q39.1 = 0 then
((some (2, q39.2)))
else
((some (0, q39.2))))))
else
((some (0, q31.2))))))))
else
(Option.bind (f_X12_here 1 q17.2) fun q45 =>
(Option.bind (f_X12_here 2 q45.2) fun q48 =>
(if 12 ≤ (((10 * (q45.1 - 48)) + q48.1) - 48) then
((some (0, q48.2)))
else
(Option.bind (f_X12_here 3 q48.2) fun q53 =>
(Option.bind (f_X12_isDigit q53.1 q53.2) fun q56 =>
(if q56.1 = 0 then
(Option.bind (f_X12_here 3 q56.2) fun q61 =>
(Option.bind (f_X12_isLetter q61.1 q61.2) fun q64 =>
(if q64.1 = 0 then
((some (3, q64.2)))
else
((some (0, q64.2))))))
else
((some (0, q56.2)))))))))))))))
else
((some (0, q1.2)))))
def sp_X12_pointSize : am_S := fn_sp [(187, fn_F, G_X12_here), (189, fn_0, G_X12_isDigit), (188, fn_0, G_X12_isLetter)]
theorem sm_X12_pointSize : am_Smono (sp_X12_pointSize) := fn_sp_mono _
set_option maxRecDepth 100000 in
theorem t_X12_pointSize {n : Nat} {r : Nat → Nat → Option Nat} (hf : fn_F n r) {q : Int32 × fm_}  {m : fm_}
  (h : f_X12_pointSize  m = some q) {Q : Option Value → am_W → Prop} (hQ : Q (en_i q).1 (mk_ n r q.2)) : am_T m_X12_pointSize sp_X12_pointSize n Q 0 [some (.ref 106), none, none] [] (mk_ n r m) :=
  am_T.wp sm_X12_pointSize (K := am_T m_X12_pointSize sp_X12_pointSize n Q) (cuts := []) (fun _ _ _ _ h => h) 52
    (fh_bd h fun q1 e2 h3 => ⟨Nat.le_of_ble_eq_true rfl, fn_aF hf rfl rfl, ⟨hf, some (.int q1.1), q1.2, gp_X12_here (n := n) (r := r)  e2, fun _ => fh_in h3 (fun c4 h5 => ⟨rfl, fh_rt h5 hQ⟩) (fun c4 h5 => fh_bd h5 fun q6 e7 h8 => ⟨Nat.le_of_ble_eq_true rfl, fn_aF hf rfl rfl, ⟨hf, some (.int q6.1), q6.2, gp_X12_here (n := n) (r := r)  e7, fun _ => fh_bd h8 fun q9 e10 h11 => ⟨Nat.le_of_ble_eq_true rfl, trivial, ⟨trivial, some (.int q9.1), q9.2, gp_X12_isDigit (n := n) (r := r)  e10, fun _ => fh_in h11 (fun c12 h13 => fh_bd h13 fun q14 e15 h16 => ⟨Nat.le_of_ble_eq_true rfl, fn_aF hf rfl rfl, ⟨hf, some (.int q14.1), q14.2, gp_X12_here (n := n) (r := r)  e15, fun _ => fh_bd h16 fun q17 e18 h19 => ⟨Nat.le_of_ble_eq_true rfl, trivial, ⟨trivial, some (.int q17.1), q17.2, gp_X12_isDigit (n := n) (r := r)  e18, fun _ => fh_if h19 (fun c20 h21 => ⟨fun c22 => absurd c22 (by decide), fun c22 => fh_bd h21 fun q23 e24 h25 => ⟨Nat.le_of_ble_eq_true rfl, fn_aF hf rfl rfl, ⟨hf, some (.int q23.1), q23.2, gp_X12_here (n := n) (r := r)  e24, fun _ => fh_if h25 (fun c26 h27 => ⟨rfl, fh_rt h27 hQ⟩) (fun c26 h27 => fh_bd h27 fun q28 e29 h30 => ⟨Nat.le_of_ble_eq_true rfl, fn_aF hf rfl rfl, ⟨hf, some (.int q28.1), q28.2, gp_X12_here (n := n) (r := r)  e29, fun _ => fh_bd h30 fun q31 e32 h33 => ⟨Nat.le_of_ble_eq_true rfl, trivial, ⟨trivial, some (.int q31.1), q31.2, gp_X12_isDigit (n := n) (r := r)  e32, fun _ => fh_in h33 (fun c34 h35 => ⟨rfl, fh_rt h35 hQ⟩) (fun c34 h35 => fh_bd h35 fun q36 e37 h38 => ⟨Nat.le_of_ble_eq_true rfl, fn_aF hf rfl rfl, ⟨hf, some (.int q36.1), q36.2, gp_X12_here (n := n) (r := r)  e37, fun _ => fh_bd h38 fun q39 e40 h41 => ⟨Nat.le_of_ble_eq_true rfl, trivial, ⟨trivial, some (.int q39.1), q39.2, gp_X12_isLetter (n := n) (r := r)  e40, fun _ => fh_if h41 (fun c42 h43 => ⟨rfl, fh_rt h43 hQ⟩) (fun c42 h43 => ⟨rfl, fh_rt h43 hQ⟩)⟩⟩⟩⟩)⟩⟩⟩⟩)⟩⟩⟩) (fun c20 h21 => ⟨fun c44 => fh_bd h21 fun q45 e46 h47 => ⟨Nat.le_of_ble_eq_true rfl, fn_aF hf rfl rfl, ⟨hf, some (.int q45.1), q45.2, gp_X12_here (n := n) (r := r)  e46, fun _ => fh_bd h47 fun q48 e49 h50 => ⟨Nat.le_of_ble_eq_true rfl, fn_aF hf rfl rfl, ⟨hf, some (.int q48.1), q48.2, gp_X12_here (n := n) (r := r)  e49, fun _ => fh_if h50 (fun c51 h52 => ⟨rfl, fh_rt h52 hQ⟩) (fun c51 h52 => fh_bd h52 fun q53 e54 h55 => ⟨Nat.le_of_ble_eq_true rfl, fn_aF hf rfl rfl, ⟨hf, some (.int q53.1), q53.2, gp_X12_here (n := n) (r := r)  e54, fun _ => fh_bd h55 fun q56 e57 h58 => ⟨Nat.le_of_ble_eq_true rfl, trivial, ⟨trivial, some (.int q56.1), q56.2, gp_X12_isDigit (n := n) (r := r)  e57, fun _ => fh_in h58 (fun c59 h60 => ⟨rfl, fh_rt h60 hQ⟩) (fun c59 h60 => fh_bd h60 fun q61 e62 h63 => ⟨Nat.le_of_ble_eq_true rfl, fn_aF hf rfl rfl, ⟨hf, some (.int q61.1), q61.2, gp_X12_here (n := n) (r := r)  e62, fun _ => fh_bd h63 fun q64 e65 h66 => ⟨Nat.le_of_ble_eq_true rfl, trivial, ⟨trivial, some (.int q64.1), q64.2, gp_X12_isLetter (n := n) (r := r)  e65, fun _ => fh_if h66 (fun c67 h68 => ⟨rfl, fh_rt h68 hQ⟩) (fun c67 h68 => ⟨rfl, fh_rt h68 hQ⟩)⟩⟩⟩⟩)⟩⟩⟩⟩)⟩⟩⟩⟩, fun c44 => absurd c44 (by decide)⟩)⟩⟩⟩⟩) (fun c12 h13 => ⟨rfl, fh_rt h13 hQ⟩)⟩⟩⟩⟩)⟩⟩)
noncomputable def G_X12_pointSize (n : Nat) (r : Nat → Nat → Option Nat) (as : List Value) (m : fm_) : Option (Option Value × fm_) := match as with
  | [.ref x0] => gd_ (Nat.beq x0 106) ((f_X12_pointSize  m).map en_i)
  | _ => none
set_option maxRecDepth 100000 in
theorem gp_X12_pointSize {n : Nat} {r : Nat → Nat → Option Nat}   {m : fm_} {q : Int32 × fm_}  (e : f_X12_pointSize  m = some q) : G_X12_pointSize n r [.ref 106] m = some (en_i q) := by
  show (gd_ (Nat.beq 106 106) ((f_X12_pointSize  m).map en_i)) = _
  exact fn_gd rfl (fn_mp e)
set_option maxRecDepth 100000 in
theorem ok_X12_pointSize : am_mok 12 191 m_X12_pointSize = true := by decide +kernel
set_option maxRecDepth 100000 in
theorem c_X12_pointSize (l : Launch) {g : am_G} (hg : fx_ l g) : am_Met l g 1 191 (fn_s fn_F G_X12_pointSize) := by
  refine am_sound (own := 12) (M := m_X12_pointSize) (SP := sp_X12_pointSize) hg.1 (by decide +kernel) ok_X12_pointSize (by decide +kernel) ?_ (fun q hq hk => absurd hk (am_no61 (M := m_X12_pointSize) (by decide +kernel) q hq)) (fn_ext l _ rfl g 12) (Or.inl (by decide +kernel)) ?_ ?_
  · intro q hq hk
    have hm : q.2.2.2.1 ∈ am_cs m_X12_pointSize := am_cs_in hq hk
    rw [show am_cs m_X12_pointSize = [187, 187, 189, 187, 189, 187, 187, 187, 187, 189, 187, 188] by decide +kernel] at hm
    have hm : q.2.2.2.1 ∈ [187, 188, 189] := (List.all_eq_true.mp (show ([187, 187, 189, 187, 189, 187, 187, 187, 187, 189, 187, 188] : List Nat).all (fun a => decide (a ∈ ([187, 188, 189] : List Nat))) = true by decide +kernel) _ hm |> of_decide_eq_true)
    simp only [List.mem_cons, List.not_mem_nil, or_false] at hm
    rcases hm with hm | hm | hm
    · rw [hm]; exact ⟨0, by omega, c_X12_here l hg⟩
    · rw [hm]; exact ⟨0, by omega, c_X12_isLetter l hg⟩
    · rw [hm]; exact ⟨0, by omega, c_X12_isDigit l hg⟩
  · intro as w K h
    obtain ⟨hf, y, m1, hG, hK⟩ := h
    unfold G_X12_pointSize at hG
    split at hG
    · exact Nat.le_of_ble_eq_true rfl
    · cases hG
  · intro as w K h
    obtain ⟨n, i0, l0, r⟩ := w
    obtain ⟨hf, y, m1, hG, hK⟩ := h
    unfold G_X12_pointSize at hG
    split at hG
    · next x0 =>
      obtain ⟨hx1, hG1⟩ := gd_u hG
      obtain rfl := Nat.eq_of_beq_eq_true hx1
      obtain ⟨q, hq, he⟩ := fn_mu hG1
      obtain ⟨rfl, rfl⟩ := Prod.mk.inj he
      exact t_X12_pointSize  hf   (m := (i0, l0)) hq hK
    · cases hG

