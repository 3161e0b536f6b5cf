/-! == X9_offerHop == -/
noncomputable def f_X9_offerHop (p1 : Int32) (p2 : Int32) (p3 : Int32) (m : fm_) : Option (Int32 × fm_) :=
  (gd_ (ix_ ((p1 * 12) + p2) 144)
(if (gi_ m 13 (Int32.toNatClampNeg ((p1 * 12) + p2))) = (-1) then
(gd_ (ix_ ((p1 * 12) + p2) 144)
((some (0, (si_ m 13 (Int32.toNatClampNeg ((p1 * 12) + p2)) p3)))))
else
(gd_ (ix_ p3 24)
(gd_ (ix_ (gi_ m 13 (Int32.toNatClampNeg ((p1 * 12) + p2))) 24)
(if (gi_ m 9 (Int32.toNatClampNeg (gi_ m 13 (Int32.toNatClampNeg ((p1 * 12) + p2))))) ≤ (gi_ m 9 (Int32.toNatClampNeg p3)) then
((some (0, m)))
else
(gd_ (ix_ ((p1 * 12) + p2) 144)
((some (0, (si_ m 13 (Int32.toNatClampNeg ((p1 * 12) + p2)) p3))))))))))
def sp_X9_offerHop : am_S := fn_sp []
theorem sm_X9_offerHop : am_Smono (sp_X9_offerHop) := fn_sp_mono _
set_option maxRecDepth 100000 in
theorem t_X9_offerHop {n : Nat} {r : Nat → Nat → Option Nat} (hf : fn_T n r) {q : Int32 × fm_} (p1 : Int32) (p2 : Int32) (p3 : Int32) {m : fm_}
  (h : f_X9_offerHop p1 p2 p3 m = some q) {Q : Option Value → am_W → Prop} (hQ : Q (en_v q).1 (mk_ n r q.2)) : am_T m_X9_offerHop sp_X9_offerHop n Q 0 [some (.ref 6), some (.int p1), some (.int p2), some (.int p3), none, none] [] (mk_ n r m) :=
  am_T.wp sm_X9_offerHop (K := am_T m_X9_offerHop sp_X9_offerHop n Q) (cuts := []) (fun _ _ _ _ h => h) 30
    (⟨fn_aT hf rfl rfl rfl, Or.inl ⟨_, hf.2 10 13 rfl, fh_gd h fun g2 h1 => ⟨144, fn_aT hf rfl rfl rfl, ix_t g2, fh_if h1 (fun c3 h4 => ⟨fn_aT hf rfl rfl rfl, Or.inl ⟨_, hf.2 10 13 rfl, fh_gd h4 fun g6 h5 => ⟨144, fn_aT hf rfl rfl rfl, ix_t g6, ⟨rfl, fh_rt h5 hQ⟩⟩⟩⟩) (fun c3 h4 => ⟨fn_aT hf rfl rfl rfl, Or.inl ⟨_, hf.2 2 9 rfl, fh_gd h4 fun g8 h7 => ⟨24, fn_aT hf rfl rfl rfl, ix_t g8, ⟨fn_aT hf rfl rfl rfl, Or.inl ⟨_, hf.2 2 9 rfl, fh_gd h7 fun g10 h9 => ⟨24, fn_aT hf rfl rfl rfl, ix_t g10, fh_if h9 (fun c11 h12 => ⟨rfl, fh_rt h12 hQ⟩) (fun c11 h12 => ⟨fn_aT hf rfl rfl rfl, Or.inl ⟨_, hf.2 10 13 rfl, fh_gd h12 fun g14 h13 => ⟨144, fn_aT hf rfl rfl rfl, ix_t g14, ⟨rfl, fh_rt h13 hQ⟩⟩⟩⟩)⟩⟩⟩⟩⟩⟩)⟩⟩⟩)
noncomputable def G_X9_offerHop (n : Nat) (r : Nat → Nat → Option Nat) (as : List Value) (m : fm_) : Option (Option Value × fm_) := match as with
  | [.ref x0, .int p1, .int p2, .int p3] => gd_ (Nat.beq x0 6) ((f_X9_offerHop p1 p2 p3 m).map en_v)
  | _ => none
set_option maxRecDepth 100000 in
theorem gp_X9_offerHop {n : Nat} {r : Nat → Nat → Option Nat}  {p1 : Int32} {p2 : Int32} {p3 : Int32} {m : fm_} {q : Int32 × fm_}  (e : f_X9_offerHop p1 p2 p3 m = some q) : G_X9_offerHop n r [.ref 6, .int p1, .int p2, .int p3] m = some (en_v q) := by
  show (gd_ (Nat.beq 6 6) ((f_X9_offerHop p1 p2 p3 m).map en_v)) = _
  exact fn_gd rfl (fn_mp e)
set_option maxRecDepth 100000 in
theorem ok_X9_offerHop : am_mok 9 131 m_X9_offerHop = true := by decide +kernel
set_option maxRecDepth 100000 in
theorem c_X9_offerHop (l : Launch) {g : am_G} (hg : fx_ l g) : am_Met l g 0 131 (fn_s fn_T G_X9_offerHop) := by
  refine am_sound (own := 9) (M := m_X9_offerHop) (SP := sp_X9_offerHop) hg.1 (by decide +kernel) ok_X9_offerHop (by decide +kernel) ?_ (fun q hq hk => absurd hk (am_no61 (M := m_X9_offerHop) (by decide +kernel) q hq)) (fn_ext l _ rfl g 9) (Or.inl (by decide +kernel)) ?_ ?_
  · intro q hq hk
    have hm : q.2.2.2.1 ∈ am_cs m_X9_offerHop := am_cs_in hq hk
    rw [show am_cs m_X9_offerHop = [] by decide +kernel] at hm
    cases hm
  · intro as w K h
    obtain ⟨hf, y, m1, hG, hK⟩ := h
    unfold G_X9_offerHop at hG
    split at hG
    · exact Nat.le_of_ble_eq_true rfl
    · cases hG
  · intro as w K h
    obtain ⟨n, i0, l0, r⟩ := w
    obtain ⟨hf, y, m1, hG, hK⟩ := h
    unfold G_X9_offerHop at hG
    split at hG
    · next x0 p1 p2 p3 =>
      obtain ⟨hx1, hG1⟩ := gd_u hG
      obtain rfl := Nat.eq_of_beq_eq_true hx1
      obtain ⟨q, hq, he⟩ := fn_mu hG1
      obtain ⟨rfl, rfl⟩ := Prod.mk.inj he
      exact t_X9_offerHop  hf  p1 p2 p3 (m := (i0, l0)) hq hK
    · cases hG

/-! == X11_isUnder == -/
noncomputable def f_X11_isUnder (p1 : Int32) (p2 : Int32) (m : fm_) : Option (Int32 × fm_) :=
  (if p1 < 0 then
((some (0, m)))
else
(if p2 ≤ p1 then
((some (0, m)))
else
((some (1, m)))))
def sp_X11_isUnder : am_S := fn_sp []
theorem sm_X11_isUnder : am_Smono (sp_X11_isUnder) := fn_sp_mono _
set_option maxRecDepth 100000 in
theorem t_X11_isUnder {n : Nat} {r : Nat → Nat → Option Nat} (hf : fn_0 n r) {q : Int32 × fm_} (p1 : Int32) (p2 : Int32) {m : fm_}
  (h : f_X11_isUnder p1 p2 m = some q) {Q : Option Value → am_W → Prop} (hQ : Q (en_i q).1 (mk_ n r q.2)) : am_T m_X11_isUnder sp_X11_isUnder n Q 0 [some (.int p1), some (.int p2)] [] (mk_ n r m) :=
  am_T.wp sm_X11_isUnder (K := am_T m_X11_isUnder sp_X11_isUnder n Q) (cuts := []) (fun _ _ _ _ h => h) 9
    (fh_if h (fun c1 h2 => ⟨rfl, Or.inl rfl, fh_rt h2 hQ⟩) (fun c1 h2 => fh_if h2 (fun c3 h4 => ⟨rfl, Or.inl rfl, fh_rt h4 hQ⟩) (fun c3 h4 => ⟨rfl, Or.inr rfl, fh_rt h4 hQ⟩)))
noncomputable def G_X11_isUnder (n : Nat) (r : Nat → Nat → Option Nat) (as : List Value) (m : fm_) : Option (Option Value × fm_) := match as with
  | [.int p1, .int p2] => (f_X11_isUnder p1 p2 m).map en_i
  | _ => none
set_option maxRecDepth 100000 in
theorem gp_X11_isUnder {n : Nat} {r : Nat → Nat → Option Nat}  {p1 : Int32} {p2 : Int32} {m : fm_} {q : Int32 × fm_}  (e : f_X11_isUnder p1 p2 m = some q) : G_X11_isUnder n r [.int p1, .int p2] m = some (en_i q) := by
  show ((f_X11_isUnder p1 p2 m).map en_i) = _
  exact fn_mp e
set_option maxRecDepth 100000 in
theorem ok_X11_isUnder : am_mok 11 182 m_X11_isUnder = true := by decide +kernel
set_option maxRecDepth 100000 in
theorem c_X11_isUnder (l : Launch) {g : am_G} (hg : fx_ l g) : am_Met l g 0 182 (fn_s fn_0 G_X11_isUnder) := by
  refine am_sound (own := 11) (M := m_X11_isUnder) (SP := sp_X11_isUnder) hg.1 (by decide +kernel) ok_X11_isUnder (by decide +kernel) ?_ (fun q hq hk => absurd hk (am_no61 (M := m_X11_isUnder) (by decide +kernel) q hq)) (fn_ext l _ rfl g 11) (Or.inl (by decide +kernel)) ?_ ?_
  · intro q hq hk
    have hm : q.2.2.2.1 ∈ am_cs m_X11_isUnder := am_cs_in hq hk
    rw [show am_cs m_X11_isUnder = [] by decide +kernel] at hm
    cases hm
  · intro as w K h
    obtain ⟨hf, y, m1, hG, hK⟩ := h
    unfold G_X11_isUnder at hG
    split at hG
    · exact Nat.le_of_ble_eq_true rfl
    · cases hG
  · intro as w K h
    obtain ⟨n, i0, l0, r⟩ := w
    obtain ⟨hf, y, m1, hG, hK⟩ := h
    unfold G_X11_isUnder at hG
    split at hG
    · next p1 p2 =>
      obtain ⟨q, hq, he⟩ := fn_mu hG
      obtain ⟨rfl, rfl⟩ := Prod.mk.inj he
      exact t_X11_isUnder  hf  p1 p2 (m := (i0, l0)) hq hK
    · cases hG

/-! == X9_hop == -/
noncomputable def f_X9_hop (p1 : Int32) (p2 : Int32) (m : fm_) : Option (Int32 × fm_) :=
  (Option.bind (f_X11_isUnder p1 12 m) fun q1 =>
(if q1.1 = 0 then
((some ((-1), q1.2)))
else
(Option.bind (f_X11_isUnder p2 12 q1.2) fun q6 =>
(if q6.1 = 0 then
((some ((-1), q6.2)))
else
(gd_ (ix_ ((p1 * 12) + p2) 144)
((some ((gi_ q6.2 13 (Int32.toNatClampNeg ((p1 * 12) + p2))), q6.2))))))))
def sp_X9_hop : am_S := fn_sp [(182, fn_0, G_X11_isUnder)]
theorem sm_X9_hop : am_Smono (sp_X9_hop) := fn_sp_mono _
set_option maxRecDepth 100000 in
theorem t_X9_hop {n : Nat} {r : Nat → Nat → Option Nat} (hf : fn_T n r) {q : Int32 × fm_} (p1 : Int32) (p2 : Int32) {m : fm_}
  (h : f_X9_hop p1 p2 m = some q) {Q : Option Value → am_W → Prop} (hQ : Q (en_i q).1 (mk_ n r q.2)) : am_T m_X9_hop sp_X9_hop n Q 0 [some (.ref 6), some (.int p1), some (.int p2)] [] (mk_ n r m) :=
  am_T.wp sm_X9_hop (K := am_T m_X9_hop sp_X9_hop n Q) (cuts := []) (fun _ _ _ _ h => h) 19
    (fh_bd h fun q1 e2 h3 => ⟨Nat.le_of_ble_eq_true rfl, trivial, ⟨trivial, some (.int q1.1), q1.2, gp_X11_isUnder (n := n) (r := r)  e2, fun _ => fh_if h3 (fun c4 h5 => ⟨rfl, fh_rt h5 hQ⟩) (fun c4 h5 => fh_bd h5 fun q6 e7 h8 => ⟨Nat.le_of_ble_eq_true rfl, trivial, ⟨trivial, some (.int q6.1), q6.2, gp_X11_isUnder (n := n) (r := r)  e7, fun _ => fh_if h8 (fun c9 h10 => ⟨rfl, fh_rt h10 hQ⟩) (fun c9 h10 => ⟨fn_aT hf rfl rfl rfl, Or.inl ⟨_, hf.2 10 13 rfl, fh_gd h10 fun g12 h11 => ⟨144, fn_aT hf rfl rfl rfl, ix_t g12, ⟨rfl, fh_rt h11 hQ⟩⟩⟩⟩)⟩⟩)⟩⟩)
noncomputable def G_X9_hop (n : Nat) (r : Nat → Nat → Option Nat) (as : List Value) (m : fm_) : Option (Option Value × fm_) := match as with
  | [.ref x0, .int p1, .int p2] => gd_ (Nat.beq x0 6) ((f_X9_hop p1 p2 m).map en_i)
  | _ => none
set_option maxRecDepth 100000 in
theorem gp_X9_hop {n : Nat} {r : Nat → Nat → Option Nat}  {p1 : Int32} {p2 : Int32} {m : fm_} {q : Int32 × fm_}  (e : f_X9_hop p1 p2 m = some q) : G_X9_hop n r [.ref 6, .int p1, .int p2] m = some (en_i q) := by
  show (gd_ (Nat.beq 6 6) ((f_X9_hop p1 p2 m).map en_i)) = _
  exact fn_gd rfl (fn_mp e)
set_option maxRecDepth 100000 in
theorem ok_X9_hop : am_mok 9 122 m_X9_hop = true := by decide +kernel
set_option maxRecDepth 100000 in
theorem c_X9_hop (l : Launch) {g : am_G} (hg : fx_ l g) : am_Met l g 1 122 (fn_s fn_T G_X9_hop) := by
  refine am_sound (own := 9) (M := m_X9_hop) (SP := sp_X9_hop) hg.1 (by decide +kernel) ok_X9_hop (by decide +kernel) ?_ (fun q hq hk => absurd hk (am_no61 (M := m_X9_hop) (by decide +kernel) q hq)) (fn_ext l _ rfl g 9) (Or.inl (by decide +kernel)) ?_ ?_
  · intro q hq hk
    have hm : q.2.2.2.1 ∈ am_cs m_X9_hop := am_cs_in hq hk
    rw [show am_cs m_X9_hop = [182, 182] by decide +kernel] at hm
    have hm : q.2.2.2.1 ∈ [182] := (List.all_eq_true.mp (show ([182, 182] : List Nat).all (fun a => decide (a ∈ ([182] : List Nat))) = true by decide +kernel) _ hm |> of_decide_eq_true)
    simp only [List.mem_cons, List.not_mem_nil, or_false] at hm
    rcases hm with hm
    · rw [hm]; exact ⟨0, by omega, c_X11_isUnder l hg⟩
  · intro as w K h
    obtain ⟨hf, y, m1, hG, hK⟩ := h
    unfold G_X9_hop at hG
    split at hG
    · exact Nat.le_of_ble_eq_true rfl
    · cases hG
  · intro as w K h
    obtain ⟨n, i0, l0, r⟩ := w
    obtain ⟨hf, y, m1, hG, hK⟩ := h
    unfold G_X9_hop at hG
    split at hG
    · next x0 p1 p2 =>
      obtain ⟨hx1, hG1⟩ := gd_u hG
      obtain rfl := Nat.eq_of_beq_eq_true hx1
      obtain ⟨q, hq, he⟩ := fn_mu hG1
      obtain ⟨rfl, rfl⟩ := Prod.mk.inj he
      exact t_X9_hop  hf  p1 p2 (m := (i0, l0)) hq hK
    · cases hG

/-! == X9_hopMinutes == -/
noncomputable def f_X9_hopMinutes (p1 : Int32) (p2 : Int32) (m : fm_) : Option (Int32 × fm_) :=
  (Option.bind (f_X9_hop p1 p2 m) fun q1 =>
(Option.bind (f_X11_isUnder q1.1 (gi_ q1.2 6 3) q1.2) fun q4 =>
(if q4.1 = 0 then
((some (1000000, q4.2)))
else
(gd_ (ix_ q1.1 24)
((some ((gi_ q4.2 9 (Int32.toNatClampNeg q1.1)), q4.2)))))))
def sp_X9_hopMinutes : am_S := fn_sp [(122, fn_T, G_X9_hop), (182, fn_0, G_X11_isUnder)]
theorem sm_X9_hopMinutes : am_Smono (sp_X9_hopMinutes) := fn_sp_mono _
set_option maxRecDepth 100000 in
theorem t_X9_hopMinutes {n : Nat} {r : Nat → Nat → Option Nat} (hf : fn_T n r) {q : Int32 × fm_} (p1 : Int32) (p2 : Int32) {m : fm_}
  (h : f_X9_hopMinutes p1 p2 m = some q) {Q : Option Value → am_W → Prop} (hQ : Q (en_i q).1 (mk_ n r q.2)) : am_T m_X9_hopMinutes sp_X9_hopMinutes n Q 0 [some (.ref 6), some (.int p1), some (.int p2), none] [] (mk_ n r m) :=
  am_T.wp sm_X9_hopMinutes (K := am_T m_X9_hopMinutes sp_X9_hopMinutes n Q) (cuts := []) (fun _ _ _ _ h => h) 17
    (fh_bd h fun q1 e2 h3 => ⟨Nat.le_of_ble_eq_true rfl, fn_aT hf rfl rfl rfl, ⟨hf, some (.int q1.1), q1.2, gp_X9_hop (n := n) (r := r)  e2, fun _ => ⟨fn_aT hf rfl rfl rfl, fh_bd h3 fun q4 e5 h6 => ⟨Nat.le_of_ble_eq_true rfl, trivial, ⟨trivial, some (.int q4.1), q4.2, gp_X11_isUnder (n := n) (r := r)  e5, fun _ => fh_if h6 (fun c7 h8 => ⟨rfl, fh_rt h8 hQ⟩) (fun c7 h8 => ⟨fn_aT hf rfl rfl rfl, Or.inl ⟨_, hf.2 2 9 rfl, fh_gd h8 fun g10 h9 => ⟨24, fn_aT hf rfl rfl rfl, ix_t g10, ⟨rfl, fh_rt h9 hQ⟩⟩⟩⟩)⟩⟩⟩⟩⟩)
noncomputable def G_X9_hopMinutes (n : Nat) (r : Nat → Nat → Option Nat) (as : List Value) (m : fm_) : Option (Option Value × fm_) := match as with
  | [.ref x0, .int p1, .int p2] => gd_ (Nat.beq x0 6) ((f_X9_hopMinutes p1 p2 m).map en_i)
  | _ => none
set_option maxRecDepth 100000 in
theorem gp_X9_hopMinutes {n : Nat} {r : Nat → Nat → Option Nat}  {p1 : Int32} {p2 : Int32} {m : fm_} {q : Int32 × fm_}  (e : f_X9_hopMinutes p1 p2 m = some q) : G_X9_hopMinutes n r [.ref 6, .int p1, .int p2] m = some (en_i q) := by
  show (gd_ (Nat.beq 6 6) ((f_X9_hopMinutes p1 p2 m).map en_i)) = _
  exact fn_gd rfl (fn_mp e)
set_option maxRecDepth 100000 in
theorem ok_X9_hopMinutes : am_mok 9 123 m_X9_hopMinutes = true := by decide +kernel
set_option maxRecDepth 100000 in
theorem c_X9_hopMinutes (l : Launch) {g : am_G} (hg : fx_ l g) : am_Met l g 2 123 (fn_s fn_T G_X9_hopMinutes) := by
  refine am_sound (own := 9) (M := m_X9_hopMinutes) (SP := sp_X9_hopMinutes) hg.1 (by decide +kernel) ok_X9_hopMinutes (by decide +kernel) ?_ (fun q hq hk => absurd hk (am_no61 (M := m_X9_hopMinutes) (by decide +kernel) q hq)) (fn_ext l _ rfl g 9) (Or.inl (by decide +kernel)) ?_ ?_
  · intro q hq hk
    have hm : q.2.2.2.1 ∈ am_cs m_X9_hopMinutes := am_cs_in hq hk
    rw [show am_cs m_X9_hopMinutes = [122, 182] by decide +kernel] at hm
    have hm : q.2.2.2.1 ∈ [122, 182] := (List.all_eq_true.mp (show ([122, 182] : List Nat).all (fun a => decide (a ∈ ([122, 182] : List Nat))) = true by decide +kernel) _ hm |> of_decide_eq_true)
    simp only [List.mem_cons, List.not_mem_nil, or_false] at hm
    rcases hm with hm | hm
    · rw [hm]; exact ⟨1, by omega, c_X9_hop l hg⟩
    · rw [hm]; exact ⟨0, by omega, c_X11_isUnder l hg⟩
  · intro as w K h
    obtain ⟨hf, y, m1, hG, hK⟩ := h
    unfold G_X9_hopMinutes at hG
    split at hG
    · exact Nat.le_of_ble_eq_true rfl
    · cases hG
  · intro as w K h
    obtain ⟨n, i0, l0, r⟩ := w
    obtain ⟨hf, y, m1, hG, hK⟩ := h
    unfold G_X9_hopMinutes at hG
    split at hG
    · next x0 p1 p2 =>
      obtain ⟨hx1, hG1⟩ := gd_u hG
      obtain rfl := Nat.eq_of_beq_eq_true hx1
      obtain ⟨q, hq, he⟩ := fn_mu hG1
      obtain ⟨rfl, rfl⟩ := Prod.mk.inj he
      exact t_X9_hopMinutes  hf  p1 p2 (m := (i0, l0)) hq hK
    · cases hG

/-! == X9_spread == -/
abbrev S_X9_spread : Type := (Int32 × Int32 × fm_) ⊕ (Int32 × Int32 × Int32 × fm_) ⊕ (Int32 × Int32 × fm_) ⊕ (Int32 × Int32 × Int32 × fm_) ⊕ (Int32 × Int32 × Int32 × Int32 × Int32 × fm_)
noncomputable def st_X9_spread (c : Nat) (s : S_X9_spread) : Option (S_X9_spread ⊕ (Int32 × fm_)) := match s with
  | Sum.inl ((x2, x3, m)) =>
    (if 12 ≤ x3 then
((some (Sum.inl (Sum.inr (Sum.inr (Sum.inl ((x2, 0, m))))))))
else
((some (Sum.inl (Sum.inr (Sum.inl ((x2, x3, 0, m))))))))
  | Sum.inr (Sum.inl ((x2, x3, x4, m))) =>
    (if 12 ≤ x4 then
((some (Sum.inl (Sum.inl ((x2, (x3 + 1), m))))))
else
(if (((x2 >>> (x3 &&& 31)) &&& (x2 >>> (x4 &&& 31))) &&& 1) = 1 then
(if x3 = x4 then
(gd_ (ix_ ((x3 * 12) + x4) 144)
((some (Sum.inl (Sum.inr (Sum.inl ((x2, x3, (x4 + 1), (si_ m c (Int32.toNatClampNeg ((x3 * 12) + x4)) 0)))))))))
else
(Option.bind (f_X9_hopMinutes x3 x4 m) fun q18 =>
(gd_ (ix_ ((x3 * 12) + x4) 144)
((some (Sum.inl (Sum.inr (Sum.inl ((x2, x3, (x4 + 1), (si_ q18.2 c (Int32.toNatClampNeg ((x3 * 12) + x4)) q18.1)))))))))))
else
(if x3 = x4 then
(gd_ (ix_ ((x3 * 12) + x4) 144)
((some (Sum.inl (Sum.inr (Sum.inl ((x2, x3, (x4 + 1), (si_ m c (Int32.toNatClampNeg ((x3 * 12) + x4)) 1000000)))))))))
else
(Option.bind (f_X9_hopMinutes x3 x4 m) fun q7 =>
(gd_ (ix_ ((x3 * 12) + x4) 144)
((some (Sum.inl (Sum.inr (Sum.inl ((x2, x3, (x4 + 1), (si_ q7.2 c (Int32.toNatClampNeg ((x3 * 12) + x4)) 1000000)))))))))))))
  | Sum.inr (Sum.inr (Sum.inl ((x2, x3, m)))) =>
    (if 12 ≤ x3 then
((some (Sum.inr (0, m))))
else
((some (Sum.inl (Sum.inr (Sum.inr (Sum.inr (Sum.inl ((x2, x3, 0, m))))))))))
  | Sum.inr (Sum.inr (Sum.inr (Sum.inl ((x2, x3, x4, m))))) =>
    (if 12 ≤ x4 then
((some (Sum.inl (Sum.inr (Sum.inr (Sum.inl ((x2, (x3 + 1), m))))))))
else
(gd_ (ix_ ((x4 * 12) + x3) 144)
((some (Sum.inl (Sum.inr (Sum.inr (Sum.inr (Sum.inr ((x2, x3, x4, (gi_ m c (Int32.toNatClampNeg ((x4 * 12) + x3))), 0, m)))))))))))
  | Sum.inr (Sum.inr (Sum.inr (Sum.inr ((x2, x3, x4, x5, x6, m))))) =>
    (if 1000000 ≤ x5 then
((some (Sum.inl (Sum.inr (Sum.inr (Sum.inr (Sum.inl ((x2, x3, (x4 + 1), m)))))))))
else
(if 12 ≤ x6 then
((some (Sum.inl (Sum.inr (Sum.inr (Sum.inr (Sum.inl ((x2, x3, (x4 + 1), m)))))))))
else
(gd_ (ix_ ((x3 * 12) + x6) 144)
(gd_ (ix_ ((x4 * 12) + x6) 144)
(gd_ (ix_ ((x4 * 12) + x6) 144)
((some (Sum.inl (Sum.inr (Sum.inr (Sum.inr (Sum.inr ((x2, x3, x4, x5, (x6 + 1), (si_ m c (Int32.toNatClampNeg ((x4 * 12) + x6)) (mn_ (gi_ m c (Int32.toNatClampNeg ((x4 * 12) + x6))) (x5 + (gi_ m c (Int32.toNatClampNeg ((x3 * 12) + x6))))))))))))))))))))
noncomputable def f_X9_spread_2 (c : Nat) (x2 : Int32) (x3 : Int32) (m : fm_) : Option (Int32 × fm_) := am_lp (st_X9_spread c) (Sum.inl ((x2, x3, m)))
noncomputable def f_X9_spread_11 (c : Nat) (x2 : Int32) (x3 : Int32) (x4 : Int32) (m : fm_) : Option (Int32 × fm_) := am_lp (st_X9_spread c) (Sum.inr (Sum.inl ((x2, x3, x4, m))))
noncomputable def f_X9_spread_93 (c : Nat) (x2 : Int32) (x3 : Int32) (m : fm_) : Option (Int32 × fm_) := am_lp (st_X9_spread c) (Sum.inr (Sum.inr (Sum.inl ((x2, x3, m)))))
noncomputable def f_X9_spread_102 (c : Nat) (x2 : Int32) (x3 : Int32) (x4 : Int32) (m : fm_) : Option (Int32 × fm_) := am_lp (st_X9_spread c) (Sum.inr (Sum.inr (Sum.inr (Sum.inl ((x2, x3, x4, m))))))
noncomputable def f_X9_spread_123 (c : Nat) (x2 : Int32) (x3 : Int32) (x4 : Int32) (x5 : Int32) (x6 : Int32) (m : fm_) : Option (Int32 × fm_) := am_lp (st_X9_spread c) (Sum.inr (Sum.inr (Sum.inr (Sum.inr ((x2, x3, x4, x5, x6, m))))))
theorem e_X9_spread_2 (c : Nat) (x2 : Int32) (x3 : Int32) (m : fm_) : f_X9_spread_2 c x2 x3 m =
(if 12 ≤ x3 then
((f_X9_spread_93 c x2 0 m))
else
((f_X9_spread_11 c x2 x3 0 m))) :=
  (am_lp_eq _ _).trans (fe_if (rfl) (rfl))
theorem e_X9_spread_11 (c : Nat) (x2 : Int32) (x3 : Int32) (x4 : Int32) (m : fm_) : f_X9_spread_11 c x2 x3 x4 m =
(if 12 ≤ x4 then
((f_X9_spread_2 c x2 (x3 + 1) m))
else
(if (((x2 >>> (x3 &&& 31)) &&& (x2 >>> (x4 &&& 31))) &&& 1) = 1 then
(if x3 = x4 then
(gd_ (ix_ ((x3 * 12) + x4) 144)
((f_X9_spread_11 c x2 x3 (x4 + 1) (si_ m c (Int32.toNatClampNeg ((x3 * 12) + x4)) 0))))
else
(Option.bind (f_X9_hopMinutes x3 x4 m) fun q18 =>
(gd_ (ix_ ((x3 * 12) + x4) 144)
((f_X9_spread_11 c x2 x3 (x4 + 1) (si_ q18.2 c (Int32.toNatClampNeg ((x3 * 12) + x4)) q18.1))))))
else
(if x3 = x4 then
(gd_ (ix_ ((x3 * 12) + x4) 144)
((f_X9_spread_11 c x2 x3 (x4 + 1) (si_ m c (Int32.toNatClampNeg ((x3 * 12) + x4)) 1000000))))
else
(Option.bind (f_X9_hopMinutes x3 x4 m) fun q7 =>
(gd_ (ix_ ((x3 * 12) + x4) 144)
((f_X9_spread_11 c x2 x3 (x4 + 1) (si_ q7.2 c (Int32.toNatClampNeg ((x3 * 12) + x4)) 1000000)))))))) :=
  (am_lp_eq _ _).trans (fe_if (rfl) (fe_if (fe_if (fe_gd (rfl)) (fe_bd fun q18 => (fe_gd (rfl)))) (fe_if (fe_gd (rfl)) (fe_bd fun q7 => (fe_gd (rfl))))))
theorem e_X9_spread_93 (c : Nat) (x2 : Int32) (x3 : Int32) (m : fm_) : f_X9_spread_93 c x2 x3 m =
(if 12 ≤ x3 then
((some (0, m)))
else
((f_X9_spread_102 c x2 x3 0 m))) :=
  (am_lp_eq _ _).trans (fe_if (rfl) (rfl))
theorem e_X9_spread_102 (c : Nat) (x2 : Int32) (x3 : Int32) (x4 : Int32) (m : fm_) : f_X9_spread_102 c x2 x3 x4 m =
(if 12 ≤ x4 then
((f_X9_spread_93 c x2 (x3 + 1) m))
else
(gd_ (ix_ ((x4 * 12) + x3) 144)
((f_X9_spread_123 c x2 x3 x4 (gi_ m c (Int32.toNatClampNeg ((x4 * 12) + x3))) 0 m)))) :=
  (am_lp_eq _ _).trans (fe_if (rfl) (fe_gd (rfl)))
theorem e_X9_spread_123 (c : Nat) (x2 : Int32) (x3 : Int32) (x4 : Int32) (x5 : Int32) (x6 : Int32) (m : fm_) : f_X9_spread_123 c x2 x3 x4 x5 x6 m =
(if 1000000 ≤ x5 then
((f_X9_spread_102 c x2 x3 (x4 + 1) m))
else
(if 12 ≤ x6 then
((f_X9_spread_102 c x2 x3 (x4 + 1) m))
else
(gd_ (ix_ ((x3 * 12) + x6) 144)
(gd_ (ix_ ((x4 * 12) + x6) 144)
(gd_ (ix_ ((x4 * 12) + x6) 144)
((f_X9_spread_123 c x2 x3 x4 x5 (x6 + 1) (si_ m c (Int32.toNatClampNeg ((x4 * 12) + x6)) (mn_ (gi_ m c (Int32.toNatClampNeg ((x4 * 12) + x6))) (x5 + (gi_ m c (Int32.toNatClampNeg ((x3 * 12) + x6))))))))))))) :=
  (am_lp_eq _ _).trans (fe_if (rfl) (fe_if (rfl) (fe_gd (fe_gd (fe_gd (rfl))))))
noncomputable def f_X9_spread (c : Nat) (p2 : Int32) (m : fm_) : Option (Int32 × fm_) :=
  ((f_X9_spread_2 c p2 0 m))
def sp_X9_spread : am_S := fn_sp [(123, fn_T, G_X9_hopMinutes)]
theorem sm_X9_spread : am_Smono (sp_X9_spread) := fn_sp_mono _
def P_X9_spread (c : Nat) (n : Nat) (r : Nat → Nat → Option Nat) (s : S_X9_spread) (q : Int32 × fm_) : Prop := match s with
  | Sum.inl ((x2, x3, m)) => ∀ (Q : Option Value → am_W → Prop) (y4 : Option Value) (y5 : Option Value) (y6 : Option Value), Q (en_v q).1 (mk_ n r q.2) → am_T m_X9_spread sp_X9_spread n Q 2 [some (.ref 6), some (.ref c), some (.int x2), some (.int x3), y4, y5, y6, none] [] (mk_ n r m)
  | Sum.inr (Sum.inl ((x2, x3, x4, m))) => ∀ (Q : Option Value → am_W → Prop) (y5 : Option Value) (y6 : Option Value), Q (en_v q).1 (mk_ n r q.2) → am_T m_X9_spread sp_X9_spread n Q 11 [some (.ref 6), some (.ref c), some (.int x2), some (.int x3), some (.int x4), y5, y6, none] [] (mk_ n r m)
  | Sum.inr (Sum.inr (Sum.inl ((x2, x3, m)))) => ∀ (Q : Option Value → am_W → Prop) (y4 : Option Value) (y5 : Option Value) (y6 : Option Value) (y7 : Option Value), Q (en_v q).1 (mk_ n r q.2) → am_T m_X9_spread sp_X9_spread n Q 93 [some (.ref 6), some (.ref c), some (.int x2), some (.int x3), y4, y5, y6, y7] [] (mk_ n r m)
  | Sum.inr (Sum.inr (Sum.inr (Sum.inl ((x2, x3, x4, m))))) => ∀ (Q : Option Value → am_W → Prop) (y5 : Option Value) (y6 : Option Value) (y7 : Option Value), Q (en_v q).1 (mk_ n r q.2) → am_T m_X9_spread sp_X9_spread n Q 102 [some (.ref 6), some (.ref c), some (.int x2), some (.int x3), some (.int x4), y5, y6, y7] [] (mk_ n r m)
  | Sum.inr (Sum.inr (Sum.inr (Sum.inr ((x2, x3, x4, x5, x6, m))))) => ∀ (Q : Option Value → am_W → Prop) (y7 : Option Value), Q (en_v q).1 (mk_ n r q.2) → am_T m_X9_spread sp_X9_spread n Q 123 [some (.ref 6), some (.ref c), some (.int x2), some (.int x3), some (.int x4), some (.int x5), some (.int x6), y7] [] (mk_ n r m)
set_option maxRecDepth 100000 in
theorem t_X9_spread_2 (c : Nat) {n : Nat} {r : Nat → Nat → Option Nat} (hf : fn_T n r) (hc : is_C c = true) {K : S_X9_spread → Option (Int32 × fm_)} {q : Int32 × fm_} (hK : ∀ s, K s = some q → P_X9_spread c n r s q) (x2 : Int32) (x3 : Int32) (m : fm_)
  (h : am_k K (st_X9_spread c (Sum.inl ((x2, x3, m)))) = some q) : P_X9_spread c n r (Sum.inl ((x2, x3, m))) q := fun Q y4 y5 y6 hQ =>
  am_T.wp sm_X9_spread (K := am_T m_X9_spread sp_X9_spread n Q) (cuts := [2, 11, 93, 102, 123]) (fun _ _ _ _ h => h) 7
    (fj_if h (fun c1 h2 => hK _ h2 _ _ _ _ _ hQ) (fun c1 h2 => hK _ h2 _ _ _ hQ))
set_option maxRecDepth 100000 in
theorem t_X9_spread_11 (c : Nat) {n : Nat} {r : Nat → Nat → Option Nat} (hf : fn_T n r) (hc : is_C c = true) {K : S_X9_spread → Option (Int32 × fm_)} {q : Int32 × fm_} (hK : ∀ s, K s = some q → P_X9_spread c n r s q) (x2 : Int32) (x3 : Int32) (x4 : Int32) (m : fm_)
  (h : am_k K (st_X9_spread c (Sum.inr (Sum.inl ((x2, x3, x4, m))))) = some q) : P_X9_spread c n r (Sum.inr (Sum.inl ((x2, x3, x4, m)))) q := fun Q y5 y6 hQ =>
  am_T.wp sm_X9_spread (K := am_T m_X9_spread sp_X9_spread n Q) (cuts := [2, 11, 93, 102, 123]) (fun _ _ _ _ h => h) 40
    (fj_if h (fun c1 h2 => hK _ h2 _ _ _ _ hQ) (fun c1 h2 => fj_in h2 (fun c3 h4 => fj_in h4 (fun c5 h6 => fj_bd h6 fun q7 e8 h9 => ⟨Nat.le_of_ble_eq_true rfl, fn_aT hf rfl rfl rfl, ⟨hf, some (.int q7.1), q7.2, gp_X9_hopMinutes (n := n) (r := r)  e8, fun _ => ⟨fun c10 => fj_gd h9 fun g12 h11 => ⟨144, fn_aC hf hc rfl, ix_t g12, hK _ h11 _ _ _ hQ⟩, fun c10 => absurd c10 (by decide)⟩⟩⟩) (fun c5 h6 => ⟨fun c13 => fj_gd h6 fun g15 h14 => ⟨144, fn_aC hf hc rfl, ix_t g15, hK _ h14 _ _ _ hQ⟩, fun c13 => absurd c13 (by decide)⟩)) (fun c3 h4 => fj_in h4 (fun c16 h17 => fj_bd h17 fun q18 e19 h20 => ⟨Nat.le_of_ble_eq_true rfl, fn_aT hf rfl rfl rfl, ⟨hf, some (.int q18.1), q18.2, gp_X9_hopMinutes (n := n) (r := r)  e19, fun _ => ⟨fun c21 => absurd c21 (by decide), fun c21 => fj_gd h20 fun g23 h22 => ⟨144, fn_aC hf hc rfl, ix_t g23, hK _ h22 _ _ _ hQ⟩⟩⟩⟩) (fun c16 h17 => ⟨fun c24 => absurd c24 (by decide), fun c24 => fj_gd h17 fun g26 h25 => ⟨144, fn_aC hf hc rfl, ix_t g26, hK _ h25 _ _ _ hQ⟩⟩))))
set_option maxRecDepth 100000 in
theorem t_X9_spread_93 (c : Nat) {n : Nat} {r : Nat → Nat → Option Nat} (hf : fn_T n r) (hc : is_C c = true) {K : S_X9_spread → Option (Int32 × fm_)} {q : Int32 × fm_} (hK : ∀ s, K s = some q → P_X9_spread c n r s q) (x2 : Int32) (x3 : Int32) (m : fm_)
  (h : am_k K (st_X9_spread c (Sum.inr (Sum.inr (Sum.inl ((x2, x3, m)))))) = some q) : P_X9_spread c n r (Sum.inr (Sum.inr (Sum.inl ((x2, x3, m))))) q := fun Q y4 y5 y6 y7 hQ =>
  am_T.wp sm_X9_spread (K := am_T m_X9_spread sp_X9_spread n Q) (cuts := [2, 11, 93, 102, 123]) (fun _ _ _ _ h => h) 7
    (fj_if h (fun c1 h2 => ⟨rfl, fj_rt h2 hQ⟩) (fun c1 h2 => hK _ h2 _ _ _ _ hQ))
set_option maxRecDepth 100000 in
theorem t_X9_spread_102 (c : Nat) {n : Nat} {r : Nat → Nat → Option Nat} (hf : fn_T n r) (hc : is_C c = true) {K : S_X9_spread → Option (Int32 × fm_)} {q : Int32 × fm_} (hK : ∀ s, K s = some q → P_X9_spread c n r s q) (x2 : Int32) (x3 : Int32) (x4 : Int32) (m : fm_)
  (h : am_k K (st_X9_spread c (Sum.inr (Sum.inr (Sum.inr (Sum.inl ((x2, x3, x4, m))))))) = some q) : P_X9_spread c n r (Sum.inr (Sum.inr (Sum.inr (Sum.inl ((x2, x3, x4, m)))))) q := fun Q y5 y6 y7 hQ =>
  am_T.wp sm_X9_spread (K := am_T m_X9_spread sp_X9_spread n Q) (cuts := [2, 11, 93, 102, 123]) (fun _ _ _ _ h => h) 15
    (fj_if h (fun c1 h2 => hK _ h2 _ _ _ _ _ hQ) (fun c1 h2 => fj_gd h2 fun g4 h3 => ⟨144, fn_aC hf hc rfl, ix_t g4, hK _ h3 _ _ hQ⟩))
set_option maxRecDepth 100000 in
theorem t_X9_spread_123 (c : Nat) {n : Nat} {r : Nat → Nat → Option Nat} (hf : fn_T n r) (hc : is_C c = true) {K : S_X9_spread → Option (Int32 × fm_)} {q : Int32 × fm_} (hK : ∀ s, K s = some q → P_X9_spread c n r s q) (x2 : Int32) (x3 : Int32) (x4 : Int32) (x5 : Int32) (x6 : Int32) (m : fm_)
  (h : am_k K (st_X9_spread c (Sum.inr (Sum.inr (Sum.inr (Sum.inr ((x2, x3, x4, x5, x6, m))))))) = some q) : P_X9_spread c n r (Sum.inr (Sum.inr (Sum.inr (Sum.inr ((x2, x3, x4, x5, x6, m)))))) q := fun Q y7 hQ =>
  am_T.wp sm_X9_spread (K := am_T m_X9_spread sp_X9_spread n Q) (cuts := [2, 11, 93, 102, 123]) (fun _ _ _ _ h => h) 36
    (fj_if h (fun c1 h2 => hK _ h2 _ _ _ _ hQ) (fun c1 h2 => fj_if h2 (fun c3 h4 => hK _ h4 _ _ _ _ hQ) (fun c3 h4 => fj_gd h4 fun g6 h5 => ⟨144, fn_aC hf hc rfl, ix_t g6, fj_gd h5 fun g8 h7 => ⟨144, fn_aC hf hc rfl, ix_t g8, ⟨Nat.le_of_ble_eq_true rfl, fj_gd h7 fun g10 h9 => ⟨144, fn_aC hf hc rfl, ix_t g10, hK _ h9 _ _ hQ⟩⟩⟩⟩)))
theorem l_X9_spread (c : Nat) {n : Nat} {r : Nat → Nat → Option Nat} (hf : fn_T n r) (hc : is_C c = true) (s : S_X9_spread) (q : Int32 × fm_) (h : am_lp (st_X9_spread c) s = some q) : P_X9_spread c n r s q :=
  am_lp_snd (P := P_X9_spread c n r) (fun K hK s q h => match s, h with
    | Sum.inl ((x2, x3, m)), h => t_X9_spread_2 c hf hc (fun s => hK s q) x2 x3 m h
    | Sum.inr (Sum.inl ((x2, x3, x4, m))), h => t_X9_spread_11 c hf hc (fun s => hK s q) x2 x3 x4 m h
    | Sum.inr (Sum.inr (Sum.inl ((x2, x3, m)))), h => t_X9_spread_93 c hf hc (fun s => hK s q) x2 x3 m h
    | Sum.inr (Sum.inr (Sum.inr (Sum.inl ((x2, x3, x4, m))))), h => t_X9_spread_102 c hf hc (fun s => hK s q) x2 x3 x4 m h
    | Sum.inr (Sum.inr (Sum.inr (Sum.inr ((x2, x3, x4, x5, x6, m))))), h => t_X9_spread_123 c hf hc (fun s => hK s q) x2 x3 x4 x5 x6 m h) s q h
set_option maxRecDepth 100000 in
theorem t_X9_spread (c : Nat) {n : Nat} {r : Nat → Nat → Option Nat} (hf : fn_T n r) (hc : is_C c = true) {q : Int32 × fm_} (p2 : Int32) {m : fm_}
  (h : f_X9_spread c p2 m = some q) {Q : Option Value → am_W → Prop} (hQ : Q (en_v q).1 (mk_ n r q.2)) : am_T m_X9_spread sp_X9_spread n Q 0 [some (.ref 6), some (.ref c), some (.int p2), none, none, none, none, none] [] (mk_ n r m) :=
  am_T.wp sm_X9_spread (K := am_T m_X9_spread sp_X9_spread n Q) (cuts := [2, 11, 93, 102, 123]) (fun _ _ _ _ h => h) 4
    (l_X9_spread c hf hc _ _ h _ _ _ _ hQ)
noncomputable def G_X9_spread (n : Nat) (r : Nat → Nat → Option Nat) (as : List Value) (m : fm_) : Option (Option Value × fm_) := match as with
  | [.ref x0, .ref c, .int p2] => gd_ (Nat.beq x0 6) (gd_ (is_C c) ((f_X9_spread c p2 m).map en_v))
  | _ => none
set_option maxRecDepth 100000 in
theorem gp_X9_spread {n : Nat} {r : Nat → Nat → Option Nat} {c : Nat} {p2 : Int32} {m : fm_} {q : Int32 × fm_} (hc : is_C c = true) (e : f_X9_spread c p2 m = some q) : G_X9_spread n r [.ref 6, .ref c, .int p2] m = some (en_v q) := by
  show (gd_ (Nat.beq 6 6) (gd_ (is_C c) ((f_X9_spread c p2 m).map en_v))) = _
  exact fn_gd rfl (fn_gd hc (fn_mp e))
set_option maxRecDepth 100000 in
theorem ok_X9_spread : am_mok 9 132 m_X9_spread = true := by decide +kernel
set_option maxRecDepth 100000 in
theorem c_X9_spread (l : Launch) {g : am_G} (hg : fx_ l g) : am_Met l g 3 132 (fn_s fn_T G_X9_spread) := by
  refine am_sound (own := 9) (M := m_X9_spread) (SP := sp_X9_spread) hg.1 (by decide +kernel) ok_X9_spread (by decide +kernel) ?_ (fun q hq hk => absurd hk (am_no61 (M := m_X9_spread) (by decide +kernel) q hq)) (fn_ext l _ rfl g 9) (Or.inl (by decide +kernel)) ?_ ?_
  · intro q hq hk
    have hm : q.2.2.2.1 ∈ am_cs m_X9_spread := am_cs_in hq hk
    rw [show am_cs m_X9_spread = [123] by decide +kernel] at hm
    have hm : q.2.2.2.1 ∈ [123] := (List.all_eq_true.mp (show ([123] : List Nat).all (fun a => decide (a ∈ ([123] : List Nat))) = true by decide +kernel) _ hm |> of_decide_eq_true)
    simp only [List.mem_cons, List.not_mem_nil, or_false] at hm
    rcases hm with hm
    · rw [hm]; exact ⟨2, by omega, c_X9_hopMinutes l hg⟩
  · intro as w K h
    obtain ⟨hf, y, m1, hG, hK⟩ := h
    unfold G_X9_spread at hG
    split at hG
    · exact Nat.le_of_ble_eq_true rfl
    · cases hG
  · intro as w K h
    obtain ⟨n, i0, l0, r⟩ := w
    obtain ⟨hf, y, m1, hG, hK⟩ := h
    unfold G_X9_spread at hG
    split at hG
    · next x0 c p2 =>
      obtain ⟨hx1, hG1⟩ := gd_u hG
      obtain ⟨hc, hG2⟩ := gd_u hG1
      obtain rfl := Nat.eq_of_beq_eq_true hx1
      obtain ⟨q, hq, he⟩ := fn_mu hG2
      obtain ⟨rfl, rfl⟩ := Prod.mk.inj he
      exact t_X9_spread c hf hc p2 (m := (i0, l0)) hq hK
    · cases hG

/-! == X9_at == -/
noncomputable def f_X9_at (c : Nat) (p2 : Int32) (p3 : Int32) (m : fm_) : Option (Int32 × fm_) :=
  (if p2 < 0 then
((some (1000000, m)))
else
(if 12 ≤ p2 then
((some (1000000, m)))
else
(if p3 < 0 then
((some (1000000, m)))
else
(if 12 ≤ p3 then
((some (1000000, m)))
else
(gd_ (ix_ ((p2 * 12) + p3) 144)
((some ((gi_ m c (Int32.toNatClampNeg ((p2 * 12) + p3))), m))))))))
def sp_X9_at : am_S := fn_sp []
theorem sm_X9_at : am_Smono (sp_X9_at) := fn_sp_mono _
set_option maxRecDepth 100000 in
theorem t_X9_at (c : Nat) {n : Nat} {r : Nat → Nat → Option Nat} (hf : fn_T n r) (hc : is_C c = true) {q : Int32 × fm_} (p2 : Int32) (p3 : Int32) {m : fm_}
  (h : f_X9_at c p2 p3 m = some q) {Q : Option Value → am_W → Prop} (hQ : Q (en_i q).1 (mk_ n r q.2)) : am_T m_X9_at sp_X9_at n Q 0 [some (.ref c), some (.int p2), some (.int p3), none] [] (mk_ n r m) :=
  am_T.wp sm_X9_at (K := am_T m_X9_at sp_X9_at n Q) (cuts := []) (fun _ _ _ _ h => h) 25
    (fh_if h (fun c1 h2 => ⟨fun c3 => ⟨rfl, fh_rt h2 hQ⟩, fun c3 => absurd c3 (by decide)⟩) (fun c1 h2 => fh_if h2 (fun c4 h5 => ⟨fun c6 => ⟨rfl, fh_rt h5 hQ⟩, fun c6 => absurd c6 (by decide)⟩) (fun c4 h5 => fh_if h5 (fun c7 h8 => ⟨fun c9 => ⟨rfl, fh_rt h8 hQ⟩, fun c9 => absurd c9 (by decide)⟩) (fun c7 h8 => fh_if h8 (fun c10 h11 => ⟨fun c12 => ⟨rfl, fh_rt h11 hQ⟩, fun c12 => absurd c12 (by decide)⟩) (fun c10 h11 => ⟨fun c13 => absurd c13 (by decide), fun c13 => fh_gd h11 fun g15 h14 => ⟨144, fn_aC hf hc rfl, ix_t g15, ⟨rfl, fh_rt h14 hQ⟩⟩⟩)))))
noncomputable def G_X9_at (n : Nat) (r : Nat → Nat → Option Nat) (as : List Value) (m : fm_) : Option (Option Value × fm_) := match as with
  | [.ref c, .int p2, .int p3] => gd_ (is_C c) ((f_X9_at c p2 p3 m).map en_i)
  | _ => none
set_option maxRecDepth 100000 in
theorem gp_X9_at {n : Nat} {r : Nat → Nat → Option Nat} {c : Nat} {p2 : Int32} {p3 : Int32} {m : fm_} {q : Int32 × fm_} (hc : is_C c = true) (e : f_X9_at c p2 p3 m = some q) : G_X9_at n r [.ref c, .int p2, .int p3] m = some (en_i q) := by
  show (gd_ (is_C c) ((f_X9_at c p2 p3 m).map en_i)) = _
  exact fn_gd hc (fn_mp e)
set_option maxRecDepth 100000 in
theorem ok_X9_at : am_mok 9 134 m_X9_at = true := by decide +kernel
set_option maxRecDepth 100000 in
theorem c_X9_at (l : Launch) {g : am_G} (hg : fx_ l g) : am_Met l g 0 134 (fn_s fn_T G_X9_at) := by
  refine am_sound (own := 9) (M := m_X9_at) (SP := sp_X9_at) hg.1 (by decide +kernel) ok_X9_at (by decide +kernel) ?_ (fun q hq hk => absurd hk (am_no61 (M := m_X9_at) (by decide +kernel) q hq)) (fn_ext l _ rfl g 9) (Or.inl (by decide +kernel)) ?_ ?_
  · intro q hq hk
    have hm : q.2.2.2.1 ∈ am_cs m_X9_at := am_cs_in hq hk
    rw [show am_cs m_X9_at = [] by decide +kernel] at hm
    cases hm
  · intro as w K h
    obtain ⟨hf, y, m1, hG, hK⟩ := h
    unfold G_X9_at at hG
    split at hG
    · exact Nat.le_of_ble_eq_true rfl
    · cases hG
  · intro as w K h
    obtain ⟨n, i0, l0, r⟩ := w
    obtain ⟨hf, y, m1, hG, hK⟩ := h
    unfold G_X9_at at hG
    split at hG
    · next c p2 p3 =>
      obtain ⟨hc, hG1⟩ := gd_u hG
      obtain ⟨q, hq, he⟩ := fn_mu hG1
      obtain ⟨rfl, rfl⟩ := Prod.mk.inj he
      exact t_X9_at c hf hc p2 p3 (m := (i0, l0)) hq hK
    · cases hG

/-! == X9_near == -/
noncomputable def f_X9_near (p1 : Int32) (p2 : Int32) (m : fm_) : Option (Int32 × fm_) :=
  (Option.bind (f_X9_at 14 p1 p2 m) fun q1 =>
((some (q1.1, q1.2))))
def sp_X9_near : am_S := fn_sp [(134, fn_T, G_X9_at)]
theorem sm_X9_near : am_Smono (sp_X9_near) := fn_sp_mono _
set_option maxRecDepth 100000 in
theorem t_X9_near {n : Nat} {r : Nat → Nat → Option Nat} (hf : fn_T n r) {q : Int32 × fm_} (p1 : Int32) (p2 : Int32) {m : fm_}
  (h : f_X9_near p1 p2 m = some q) {Q : Option Value → am_W → Prop} (hQ : Q (en_i q).1 (mk_ n r q.2)) : am_T m_X9_near sp_X9_near n Q 0 [some (.ref 6), some (.int p1), some (.int p2)] [] (mk_ n r m) :=
  am_T.wp sm_X9_near (K := am_T m_X9_near sp_X9_near n Q) (cuts := []) (fun _ _ _ _ h => h) 7
    (⟨fn_aT hf rfl rfl rfl, Or.inl ⟨_, hf.2 11 14 rfl, fh_bd h fun q1 e2 h3 => ⟨Nat.le_of_ble_eq_true rfl, trivial, ⟨hf, some (.int q1.1), q1.2, gp_X9_at (n := n) (r := r) rfl e2, fun _ => ⟨rfl, fh_rt h3 hQ⟩⟩⟩⟩⟩)
noncomputable def G_X9_near (n : Nat) (r : Nat → Nat → Option Nat) (as : List Value) (m : fm_) : Option (Option Value × fm_) := match as with
  | [.ref x0, .int p1, .int p2] => gd_ (Nat.beq x0 6) ((f_X9_near p1 p2 m).map en_i)
  | _ => none
set_option maxRecDepth 100000 in
theorem gp_X9_near {n : Nat} {r : Nat → Nat → Option Nat}  {p1 : Int32} {p2 : Int32} {m : fm_} {q : Int32 × fm_}  (e : f_X9_near p1 p2 m = some q) : G_X9_near n r [.ref 6, .int p1, .int p2] m = some (en_i q) := by
  show (gd_ (Nat.beq 6 6) ((f_X9_near p1 p2 m).map en_i)) = _
  exact fn_gd rfl (fn_mp e)
set_option maxRecDepth 100000 in
theorem ok_X9_near : am_mok 9 118 m_X9_near = true := by decide +kernel
set_option maxRecDepth 100000 in
theorem c_X9_near (l : Launch) {g : am_G} (hg : fx_ l g) : am_Met l g 1 118 (fn_s fn_T G_X9_near) := by
  refine am_sound (own := 9) (M := m_X9_near) (SP := sp_X9_near) hg.1 (by decide +kernel) ok_X9_near (by decide +kernel) ?_ (fun q hq hk => absurd hk (am_no61 (M := m_X9_near) (by decide +kernel) q hq)) (fn_ext l _ rfl g 9) (Or.inl (by decide +kernel)) ?_ ?_
  · intro q hq hk
    have hm : q.2.2.2.1 ∈ am_cs m_X9_near := am_cs_in hq hk
    rw [show am_cs m_X9_near = [134] by decide +kernel] at hm
    have hm : q.2.2.2.1 ∈ [134] := (List.all_eq_true.mp (show ([134] : List Nat).all (fun a => decide (a ∈ ([134] : List Nat))) = true by decide +kernel) _ hm |> of_decide_eq_true)
    simp only [List.mem_cons, List.not_mem_nil, or_false] at hm
    rcases hm with hm
    · rw [hm]; exact ⟨0, by omega, c_X9_at l hg⟩
  · intro as w K h
    obtain ⟨hf, y, m1, hG, hK⟩ := h
    unfold G_X9_near at hG
    split at hG
    · exact Nat.le_of_ble_eq_true rfl
    · cases hG
  · intro as w K h
    obtain ⟨n, i0, l0, r⟩ := w
    obtain ⟨hf, y, m1, hG, hK⟩ := h
    unfold G_X9_near at hG
    split at hG
    · next x0 p1 p2 =>
      obtain ⟨hx1, hG1⟩ := gd_u hG
      obtain rfl := Nat.eq_of_beq_eq_true hx1
      obtain ⟨q, hq, he⟩ := fn_mu hG1
      obtain ⟨rfl, rfl⟩ := Prod.mk.inj he
      exact t_X9_near  hf  p1 p2 (m := (i0, l0)) hq hK
    · cases hG

