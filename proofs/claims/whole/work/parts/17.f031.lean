/-! == X12_fact == -/
noncomputable def f_X12_fact (p1 : Int32) (p2 : Int32) (p3 : Int32) (m : fm_) : Option (Int32 × fm_) :=
  (gd_ (ix_ (gi_ m 106 58) 200)
(gd_ (ix_ (gi_ m 106 58) 200)
(gd_ (ix_ (gi_ m 106 58) 200)
(gd_ (ix_ (gi_ m 106 58) 200)
(gd_ (ix_ (gi_ m 106 58) 200)
((some ((((gi_ m 106 58) + 1) - 1), (si_ (si_ (si_ (si_ (si_ (si_ m 141 (Int32.toNatClampNeg (gi_ m 106 58)) p1) 142 (Int32.toNatClampNeg (gi_ m 106 58)) p2) 143 (Int32.toNatClampNeg (gi_ m 106 58)) p3) 149 (Int32.toNatClampNeg (gi_ m 106 58)) (gi_ m 106 59)) 150 (Int32.toNatClampNeg (gi_ m 106 58)) (-1)) 106 58 ((gi_ m 106 58) + 1))))))))))
def sp_X12_fact : am_S := fn_sp []
theorem sm_X12_fact : am_Smono (sp_X12_fact) := fn_sp_mono _
set_option maxRecDepth 100000 in
theorem t_X12_fact {n : Nat} {r : Nat → Nat → Option Nat} (hf : fn_F n r) {q : Int32 × fm_} (p1 : Int32) (p2 : Int32) (p3 : Int32) {m : fm_}
  (h : f_X12_fact p1 p2 p3 m = some q) {Q : Option Value → am_W → Prop} (hQ : Q (en_i q).1 (mk_ n r q.2)) : am_T m_X12_fact sp_X12_fact n Q 0 [some (.ref 106), some (.int p1), some (.int p2), some (.int p3)] [] (mk_ n r m) :=
  am_T.wp sm_X12_fact (K := am_T m_X12_fact sp_X12_fact n Q) (cuts := []) (fun _ _ _ _ h => h) 43
    (⟨fn_aF hf rfl rfl, Or.inl ⟨_, hf.2 106 63 141 rfl, ⟨fn_aF hf rfl rfl, fh_gd h fun g2 h1 => ⟨200, fn_aF hf rfl rfl, ix_t g2, ⟨fn_aF hf rfl rfl, Or.inl ⟨_, hf.2 106 64 142 rfl, ⟨fn_aF hf rfl rfl, fh_gd h1 fun g4 h3 => ⟨200, fn_aF hf rfl rfl, ix_t g4, ⟨fn_aF hf rfl rfl, Or.inl ⟨_, hf.2 106 65 143 rfl, ⟨fn_aF hf rfl rfl, fh_gd h3 fun g6 h5 => ⟨200, fn_aF hf rfl rfl, ix_t g6, ⟨fn_aF hf rfl rfl, Or.inl ⟨_, hf.2 106 71 149 rfl, ⟨fn_aF hf rfl rfl, ⟨fn_aF hf rfl rfl, fh_gd h5 fun g8 h7 => ⟨200, fn_aF hf rfl rfl, ix_t g8, ⟨fn_aF hf rfl rfl, Or.inl ⟨_, hf.2 106 72 150 rfl, ⟨fn_aF hf rfl rfl, fh_gd h7 fun g10 h9 => ⟨200, fn_aF hf rfl rfl, ix_t g10, ⟨fn_aF hf rfl rfl, ⟨fn_aF hf rfl rfl, ⟨fn_aF hf rfl rfl, ⟨rfl, fh_rt h9 hQ⟩⟩⟩⟩⟩⟩⟩⟩⟩⟩⟩⟩⟩⟩⟩⟩⟩⟩⟩⟩⟩⟩⟩⟩⟩)
noncomputable def G_X12_fact (n : Nat) (r : Nat → Nat → Option Nat) (as : List Value) (m : fm_) : Option (Option Value × fm_) := match as with
  | [.ref x0, .int p1, .int p2, .int p3] => gd_ (Nat.beq x0 106) ((f_X12_fact p1 p2 p3 m).map en_i)
  | _ => none
set_option maxRecDepth 100000 in
theorem gp_X12_fact {n : Nat} {r : Nat → Nat → Option Nat}  {p1 : Int32} {p2 : Int32} {p3 : Int32} {m : fm_} {q : Int32 × fm_}  (e : f_X12_fact p1 p2 p3 m = some q) : G_X12_fact n r [.ref 106, .int p1, .int p2, .int p3] m = some (en_i q) := by
  show (gd_ (Nat.beq 106 106) ((f_X12_fact p1 p2 p3 m).map en_i)) = _
  exact fn_gd rfl (fn_mp e)
set_option maxRecDepth 100000 in
theorem ok_X12_fact : am_mok 12 228 m_X12_fact = true := by decide +kernel
set_option maxRecDepth 100000 in
theorem c_X12_fact (l : Launch) {g : am_G} (hg : fx_ l g) : am_Met l g 0 228 (fn_s fn_F G_X12_fact) := by
  refine am_sound (own := 12) (M := m_X12_fact) (SP := sp_X12_fact) hg.1 (by decide +kernel) ok_X12_fact (by decide +kernel) ?_ (fun q hq hk => absurd hk (am_no61 (M := m_X12_fact) (by decide +kernel) q hq)) (fn_ext l _ rfl g 12) (Or.inl (by decide +kernel)) ?_ ?_
  · intro q hq hk
    have hm : q.2.2.2.1 ∈ am_cs m_X12_fact := am_cs_in hq hk
    rw [show am_cs m_X12_fact = [] by decide +kernel] at hm
    cases hm
  · intro as w K h
    obtain ⟨hf, y, m1, hG, hK⟩ := h
    unfold G_X12_fact at hG
    split at hG
    · exact Nat.le_of_ble_eq_true rfl
    · cases hG
  · intro as w K h
    obtain ⟨n, i0, l0, r⟩ := w
    obtain ⟨hf, y, m1, hG, hK⟩ := h
    unfold G_X12_fact at hG
    split at hG
    · next x0 p1 p2 p3 =>
      obtain ⟨hx1, hG1⟩ := gd_u hG
      obtain rfl := Nat.eq_of_beq_eq_true hx1
      obtain ⟨q, hq, he⟩ := fn_mu hG1
      obtain ⟨rfl, rfl⟩ := Prod.mk.inj he
      exact t_X12_fact  hf  p1 p2 p3 (m := (i0, l0)) hq hK
    · cases hG

/-! == X12_isSmall == -/
noncomputable def f_X12_isSmall (p1 : Int32) (m : fm_) : Option (Int32 × fm_) :=
  (if p1 < 0 then
((some (0, m)))
else
(if 9 < p1 then
((some (0, m)))
else
((some (1, m)))))
def sp_X12_isSmall : am_S := fn_sp []
theorem sm_X12_isSmall : am_Smono (sp_X12_isSmall) := fn_sp_mono _
set_option maxRecDepth 100000 in
theorem t_X12_isSmall {n : Nat} {r : Nat → Nat → Option Nat} (hf : fn_0 n r) {q : Int32 × fm_} (p1 : Int32) {m : fm_}
  (h : f_X12_isSmall p1 m = some q) {Q : Option Value → am_W → Prop} (hQ : Q (en_i q).1 (mk_ n r q.2)) : am_T m_X12_isSmall sp_X12_isSmall n Q 0 [some (.int p1)] [] (mk_ n r m) :=
  am_T.wp sm_X12_isSmall (K := am_T m_X12_isSmall sp_X12_isSmall n Q) (cuts := []) (fun _ _ _ _ h => h) 9
    (fh_if h (fun c1 h2 => ⟨rfl, Or.inl rfl, fh_rt h2 hQ⟩) (fun c1 h2 => fh_if h2 (fun c3 h4 => ⟨rfl, Or.inl rfl, fh_rt h4 hQ⟩) (fun c3 h4 => ⟨rfl, Or.inr rfl, fh_rt h4 hQ⟩)))
noncomputable def G_X12_isSmall (n : Nat) (r : Nat → Nat → Option Nat) (as : List Value) (m : fm_) : Option (Option Value × fm_) := match as with
  | [.int p1] => (f_X12_isSmall p1 m).map en_i
  | _ => none
set_option maxRecDepth 100000 in
theorem gp_X12_isSmall {n : Nat} {r : Nat → Nat → Option Nat}  {p1 : Int32} {m : fm_} {q : Int32 × fm_}  (e : f_X12_isSmall p1 m = some q) : G_X12_isSmall n r [.int p1] m = some (en_i q) := by
  show ((f_X12_isSmall p1 m).map en_i) = _
  exact fn_mp e
set_option maxRecDepth 100000 in
theorem ok_X12_isSmall : am_mok 12 229 m_X12_isSmall = true := by decide +kernel
set_option maxRecDepth 100000 in
theorem c_X12_isSmall (l : Launch) {g : am_G} (hg : fx_ l g) : am_Met l g 0 229 (fn_s fn_0 G_X12_isSmall) := by
  refine am_sound (own := 12) (M := m_X12_isSmall) (SP := sp_X12_isSmall) hg.1 (by decide +kernel) ok_X12_isSmall (by decide +kernel) ?_ (fun q hq hk => absurd hk (am_no61 (M := m_X12_isSmall) (by decide +kernel) q hq)) (fn_ext l _ rfl g 12) (Or.inl (by decide +kernel)) ?_ ?_
  · intro q hq hk
    have hm : q.2.2.2.1 ∈ am_cs m_X12_isSmall := am_cs_in hq hk
    rw [show am_cs m_X12_isSmall = [] by decide +kernel] at hm
    cases hm
  · intro as w K h
    obtain ⟨hf, y, m1, hG, hK⟩ := h
    unfold G_X12_isSmall at hG
    split at hG
    · exact Nat.le_of_ble_eq_true rfl
    · cases hG
  · intro as w K h
    obtain ⟨n, i0, l0, r⟩ := w
    obtain ⟨hf, y, m1, hG, hK⟩ := h
    unfold G_X12_isSmall at hG
    split at hG
    · next p1 =>
      obtain ⟨q, hq, he⟩ := fn_mu hG
      obtain ⟨rfl, rfl⟩ := Prod.mk.inj he
      exact t_X12_isSmall  hf  p1 (m := (i0, l0)) hq hK
    · cases hG

/-! == X12_papers == -/
noncomputable def f_X12_papers (p1 : Int32) (p2 : Int32) (p3 : Int32) (p4 : Int32) (p5 : Int32) (p6 : Int32) (m : fm_) : Option (Int32 × fm_) :=
  (if (gi_ m 106 58) = 200 then
((some ((-1), m)))
else
(Option.bind (f_X12_isPlate p1 m) fun q3 =>
(if q3.1 = 0 then
((some ((-1), q3.2)))
else
(Option.bind (f_X12_isDay p2 q3.2) fun q8 =>
(if q8.1 = 0 then
((some ((-1), q8.2)))
else
(Option.bind (f_X12_isSmall p3 q8.2) fun q13 =>
(if q13.1 = 0 then
((some ((-1), q13.2)))
else
(Option.bind (f_X12_isSmall p4 q13.2) fun q18 =>
(if q18.1 = 0 then
((some ((-1), q18.2)))
else
(Option.bind (f_X12_isSmall p5 q18.2) fun q23 =>
(if q23.1 = 0 then
((some ((-1), q23.2)))
else
(if p6 < 0 then
((some ((-1), q23.2)))
else
(if p6 ≤ 1 then
(gd_ (ix_ (gi_ q23.2 106 58) 200)
(gd_ (ix_ (gi_ q23.2 106 58) 200)
(gd_ (ix_ (gi_ q23.2 106 58) 200)
(gd_ (ix_ (gi_ q23.2 106 58) 200)
(Option.bind (f_X12_fact 0 p1 p2 (si_ (si_ (si_ (si_ q23.2 145 (Int32.toNatClampNeg (gi_ q23.2 106 58)) p3) 146 (Int32.toNatClampNeg (gi_ q23.2 106 58)) p4) 147 (Int32.toNatClampNeg (gi_ q23.2 106 58)) p5) 148 (Int32.toNatClampNeg (gi_ q23.2 106 58)) p6)) fun q40 =>
((some (q40.1, q40.2))))))))
else
((some ((-1), q23.2))))))))))))))))
def sp_X12_papers : am_S := fn_sp [(227, fn_F, G_X12_isPlate), (219, fn_0, G_X12_isDay), (229, fn_0, G_X12_isSmall), (228, fn_F, G_X12_fact)]
theorem sm_X12_papers : am_Smono (sp_X12_papers) := fn_sp_mono _
set_option maxRecDepth 100000 in
theorem t_X12_papers {n : Nat} {r : Nat → Nat → Option Nat} (hf : fn_F n r) {q : Int32 × fm_} (p1 : Int32) (p2 : Int32) (p3 : Int32) (p4 : Int32) (p5 : Int32) (p6 : Int32) {m : fm_}
  (h : f_X12_papers p1 p2 p3 p4 p5 p6 m = some q) {Q : Option Value → am_W → Prop} (hQ : Q (en_i q).1 (mk_ n r q.2)) : am_T m_X12_papers sp_X12_papers n Q 0 [some (.ref 106), some (.int p1), some (.int p2), some (.int p3), some (.int p4), some (.int p5), some (.int p6)] [] (mk_ n r m) :=
  am_T.wp sm_X12_papers (K := am_T m_X12_papers sp_X12_papers n Q) (cuts := []) (fun _ _ _ _ h => h) 56
    (⟨fn_aF hf rfl rfl, fh_if h (fun c1 h2 => ⟨rfl, fh_rt h2 hQ⟩) (fun c1 h2 => fh_bd h2 fun q3 e4 h5 => ⟨Nat.le_of_ble_eq_true rfl, fn_aF hf rfl rfl, ⟨hf, some (.int q3.1), q3.2, gp_X12_isPlate (n := n) (r := r)  e4, fun _ => fh_if h5 (fun c6 h7 => ⟨rfl, fh_rt h7 hQ⟩) (fun c6 h7 => fh_bd h7 fun q8 e9 h10 => ⟨Nat.le_of_ble_eq_true rfl, trivial, ⟨trivial, some (.int q8.1), q8.2, gp_X12_isDay (n := n) (r := r)  e9, fun _ => fh_if h10 (fun c11 h12 => ⟨rfl, fh_rt h12 hQ⟩) (fun c11 h12 => fh_bd h12 fun q13 e14 h15 => ⟨Nat.le_of_ble_eq_true rfl, trivial, ⟨trivial, some (.int q13.1), q13.2, gp_X12_isSmall (n := n) (r := r)  e14, fun _ => fh_if h15 (fun c16 h17 => ⟨rfl, fh_rt h17 hQ⟩) (fun c16 h17 => fh_bd h17 fun q18 e19 h20 => ⟨Nat.le_of_ble_eq_true rfl, trivial, ⟨trivial, some (.int q18.1), q18.2, gp_X12_isSmall (n := n) (r := r)  e19, fun _ => fh_if h20 (fun c21 h22 => ⟨rfl, fh_rt h22 hQ⟩) (fun c21 h22 => fh_bd h22 fun q23 e24 h25 => ⟨Nat.le_of_ble_eq_true rfl, trivial, ⟨trivial, some (.int q23.1), q23.2, gp_X12_isSmall (n := n) (r := r)  e24, fun _ => fh_if h25 (fun c26 h27 => ⟨rfl, fh_rt h27 hQ⟩) (fun c26 h27 => fh_if h27 (fun c28 h29 => ⟨rfl, fh_rt h29 hQ⟩) (fun c28 h29 => fh_if h29 (fun c30 h31 => ⟨fn_aF hf rfl rfl, Or.inl ⟨_, hf.2 106 67 145 rfl, ⟨fn_aF hf rfl rfl, fh_gd h31 fun g33 h32 => ⟨200, fn_aF hf rfl rfl, ix_t g33, ⟨fn_aF hf rfl rfl, Or.inl ⟨_, hf.2 106 68 146 rfl, ⟨fn_aF hf rfl rfl, fh_gd h32 fun g35 h34 => ⟨200, fn_aF hf rfl rfl, ix_t g35, ⟨fn_aF hf rfl rfl, Or.inl ⟨_, hf.2 106 69 147 rfl, ⟨fn_aF hf rfl rfl, fh_gd h34 fun g37 h36 => ⟨200, fn_aF hf rfl rfl, ix_t g37, ⟨fn_aF hf rfl rfl, Or.inl ⟨_, hf.2 106 70 148 rfl, ⟨fn_aF hf rfl rfl, fh_gd h36 fun g39 h38 => ⟨200, fn_aF hf rfl rfl, ix_t g39, fh_bd h38 fun q40 e41 h42 => ⟨Nat.le_of_ble_eq_true rfl, fn_aF hf rfl rfl, ⟨hf, some (.int q40.1), q40.2, gp_X12_fact (n := n) (r := r)  e41, fun _ => ⟨rfl, fh_rt h42 hQ⟩⟩⟩⟩⟩⟩⟩⟩⟩⟩⟩⟩⟩⟩⟩⟩⟩⟩⟩) (fun c30 h31 => ⟨rfl, fh_rt h31 hQ⟩)))⟩⟩)⟩⟩)⟩⟩)⟩⟩)⟩⟩)⟩)
noncomputable def G_X12_papers (n : Nat) (r : Nat → Nat → Option Nat) (as : List Value) (m : fm_) : Option (Option Value × fm_) := match as with
  | [.ref x0, .int p1, .int p2, .int p3, .int p4, .int p5, .int p6] => gd_ (Nat.beq x0 106) ((f_X12_papers p1 p2 p3 p4 p5 p6 m).map en_i)
  | _ => none
set_option maxRecDepth 100000 in
theorem gp_X12_papers {n : Nat} {r : Nat → Nat → Option Nat}  {p1 : Int32} {p2 : Int32} {p3 : Int32} {p4 : Int32} {p5 : Int32} {p6 : Int32} {m : fm_} {q : Int32 × fm_}  (e : f_X12_papers p1 p2 p3 p4 p5 p6 m = some q) : G_X12_papers n r [.ref 106, .int p1, .int p2, .int p3, .int p4, .int p5, .int p6] m = some (en_i q) := by
  show (gd_ (Nat.beq 106 106) ((f_X12_papers p1 p2 p3 p4 p5 p6 m).map en_i)) = _
  exact fn_gd rfl (fn_mp e)
set_option maxRecDepth 100000 in
theorem ok_X12_papers : am_mok 12 230 m_X12_papers = true := by decide +kernel
set_option maxRecDepth 100000 in
theorem c_X12_papers (l : Launch) {g : am_G} (hg : fx_ l g) : am_Met l g 1 230 (fn_s fn_F G_X12_papers) := by
  refine am_sound (own := 12) (M := m_X12_papers) (SP := sp_X12_papers) hg.1 (by decide +kernel) ok_X12_papers (by decide +kernel) ?_ (fun q hq hk => absurd hk (am_no61 (M := m_X12_papers) (by decide +kernel) q hq)) (fn_ext l _ rfl g 12) (Or.inl (by decide +kernel)) ?_ ?_
  · intro q hq hk
    have hm : q.2.2.2.1 ∈ am_cs m_X12_papers := am_cs_in hq hk
    rw [show am_cs m_X12_papers = [227, 219, 229, 229, 229, 228] by decide +kernel] at hm
    have hm : q.2.2.2.1 ∈ [219, 227, 228, 229] := (List.all_eq_true.mp (show ([227, 219, 229, 229, 229, 228] : List Nat).all (fun a => decide (a ∈ ([219, 227, 228, 229] : List Nat))) = true by decide +kernel) _ hm |> of_decide_eq_true)
    simp only [List.mem_cons, List.not_mem_nil, or_false] at hm
    rcases hm with hm | hm | hm | hm
    · rw [hm]; exact ⟨0, by omega, c_X12_isDay l hg⟩
    · rw [hm]; exact ⟨0, by omega, c_X12_isPlate l hg⟩
    · rw [hm]; exact ⟨0, by omega, c_X12_fact l hg⟩
    · rw [hm]; exact ⟨0, by omega, c_X12_isSmall l hg⟩
  · intro as w K h
    obtain ⟨hf, y, m1, hG, hK⟩ := h
    unfold G_X12_papers at hG
    split at hG
    · exact Nat.le_of_ble_eq_true rfl
    · cases hG
  · intro as w K h
    obtain ⟨n, i0, l0, r⟩ := w
    obtain ⟨hf, y, m1, hG, hK⟩ := h
    unfold G_X12_papers at hG
    split at hG
    · next x0 p1 p2 p3 p4 p5 p6 =>
      obtain ⟨hx1, hG1⟩ := gd_u hG
      obtain rfl := Nat.eq_of_beq_eq_true hx1
      obtain ⟨q, hq, he⟩ := fn_mu hG1
      obtain ⟨rfl, rfl⟩ := Prod.mk.inj he
      exact t_X12_papers  hf  p1 p2 p3 p4 p5 p6 (m := (i0, l0)) hq hK
    · cases hG

/-! == X12_read == -/
abbrev S_X12_read : Type := (Int32 × Int32 × Int32 × Int64 × Int32 × Int32 × fm_)
noncomputable def st_X12_read (s : S_X12_read) : Option (S_X12_read ⊕ (Int32 × fm_)) := match s with
  | (x1, x2, x3, x4, x6, x7, m) =>
    (if (gi_ m 106 58) ≤ x7 then
(if x6 = 7 then
((some (Sum.inr ((-1), m))))
else
(gd_ (ix_ (gi_ m 106 58) 200)
(gd_ (ix_ (gi_ m 106 58) 200)
(Option.bind (f_X12_fact 1 x1 x2 (sl_ (si_ m 144 (Int32.toNatClampNeg (gi_ m 106 58)) x3) 139 (Int32.toNatClampNeg (gi_ m 106 58)) (x4 &&& 281474976710655))) fun q9 =>
((some (Sum.inr (q9.1, q9.2))))))))
else
(gd_ (ix_ x7 200)
(if (gi_ m 141 (Int32.toNatClampNeg x7)) = 1 then
(gd_ (ix_ x7 200)
(if (gi_ m 143 (Int32.toNatClampNeg x7)) = x2 then
((some (Sum.inl ((x1, x2, x3, x4, (x6 + 1), (x7 + 1), m)))))
else
((some (Sum.inl ((x1, x2, x3, x4, (x6 + 0), (x7 + 1), m)))))))
else
((some (Sum.inl ((x1, x2, x3, x4, (x6 + 0), (x7 + 1), m))))))))
noncomputable def f_X12_read_66 (x1 : Int32) (x2 : Int32) (x3 : Int32) (x4 : Int64) (x6 : Int32) (x7 : Int32) (m : fm_) : Option (Int32 × fm_) := am_lp (st_X12_read) ((x1, x2, x3, x4, x6, x7, m))
theorem e_X12_read_66 (x1 : Int32) (x2 : Int32) (x3 : Int32) (x4 : Int64) (x6 : Int32) (x7 : Int32) (m : fm_) : f_X12_read_66 x1 x2 x3 x4 x6 x7 m =
(if (gi_ m 106 58) ≤ x7 then
(if x6 = 7 then
((some ((-1), m)))
else
(gd_ (ix_ (gi_ m 106 58) 200)
(gd_ (ix_ (gi_ m 106 58) 200)
(Option.bind (f_X12_fact 1 x1 x2 (sl_ (si_ m 144 (Int32.toNatClampNeg (gi_ m 106 58)) x3) 139 (Int32.toNatClampNeg (gi_ m 106 58)) (x4 &&& 281474976710655))) fun q9 =>
((some (q9.1, q9.2)))))))
else
(gd_ (ix_ x7 200)
(if (gi_ m 141 (Int32.toNatClampNeg x7)) = 1 then
(gd_ (ix_ x7 200)
(if (gi_ m 143 (Int32.toNatClampNeg x7)) = x2 then
((f_X12_read_66 x1 x2 x3 x4 (x6 + 1) (x7 + 1) m))
else
((f_X12_read_66 x1 x2 x3 x4 (x6 + 0) (x7 + 1) m))))
else
((f_X12_read_66 x1 x2 x3 x4 (x6 + 0) (x7 + 1) m))))) :=
  (am_lp_eq _ _).trans (fe_if (fe_if (rfl) (fe_gd (fe_gd (fe_bd fun q9 => (rfl))))) (fe_gd (fe_if (fe_gd (fe_if (rfl) (rfl))) (rfl))))
noncomputable def f_X12_read (p1 : Int32) (p2 : Int32) (p3 : Int32) (p4 : Int64) (m : fm_) : Option (Int32 × fm_) :=
  (if (gi_ m 106 58) = 200 then
((some ((-1), m)))
else
(if p1 < 0 then
((some ((-1), m)))
else
(if (gi_ m 106 30) ≤ p1 then
((some ((-1), m)))
else
(Option.bind (f_X12_isDay p2 m) fun q7 =>
(if q7.1 = 0 then
((some ((-1), q7.2)))
else
(gd_ (ix_ p1 8)
(if p3 < (gi_ q7.2 118 (Int32.toNatClampNeg p1)) then
((some ((-1), q7.2)))
else
(gd_ (ix_ p1 8)
(if (gi_ q7.2 119 (Int32.toNatClampNeg p1)) ≤ p3 then
((some ((-1), q7.2)))
else
(Option.bind (f_X12_areSigns p4 1 q7.2) fun q20 =>
(if q20.1 = 0 then
((some ((-1), q20.2)))
else
((f_X12_read_66 p1 p2 p3 p4 0 0 q20.2)))))))))))))
def sp_X12_read : am_S := fn_sp [(219, fn_0, G_X12_isDay), (225, fn_0, G_X12_areSigns), (228, fn_F, G_X12_fact)]
theorem sm_X12_read : am_Smono (sp_X12_read) := fn_sp_mono _
def P_X12_read (n : Nat) (r : Nat → Nat → Option Nat) (s : S_X12_read) (q : Int32 × fm_) : Prop := match s with
  | (x1, x2, x3, x4, x6, x7, m) => ∀ (Q : Option Value → am_W → Prop), Q (en_i q).1 (mk_ n r q.2) → am_T m_X12_read sp_X12_read n Q 66 [some (.ref 106), some (.int x1), some (.int x2), some (.int x3), some (.long x4), none, some (.int x6), some (.int x7)] [] (mk_ n r m)
set_option maxRecDepth 100000 in
theorem t_X12_read_66 {n : Nat} {r : Nat → Nat → Option Nat} (hf : fn_F n r) {K : S_X12_read → Option (Int32 × fm_)} {q : Int32 × fm_} (hK : ∀ s, K s = some q → P_X12_read n r s q) (x1 : Int32) (x2 : Int32) (x3 : Int32) (x4 : Int64) (x6 : Int32) (x7 : Int32) (m : fm_)
  (h : am_k K (st_X12_read ((x1, x2, x3, x4, x6, x7, m))) = some q) : P_X12_read n r ((x1, x2, x3, x4, x6, x7, m)) q := fun Q hQ =>
  am_T.wp sm_X12_read (K := am_T m_X12_read sp_X12_read n Q) (cuts := [66]) (fun _ _ _ _ h => h) 28
    (⟨fn_aF hf rfl rfl, fj_if h (fun c1 h2 => fj_in h2 (fun c3 h4 => ⟨fn_aF hf rfl rfl, Or.inl ⟨_, hf.2 106 66 144 rfl, ⟨fn_aF hf rfl rfl, fj_gd h4 fun g6 h5 => ⟨200, fn_aF hf rfl rfl, ix_t g6, ⟨fn_aF hf rfl rfl, Or.inl ⟨_, hf.2 106 61 139 rfl, ⟨fn_aF hf rfl rfl, fj_gd h5 fun g8 h7 => ⟨200, fn_aF hf rfl rfl, ix_t g8, fj_bd h7 fun q9 e10 h11 => ⟨Nat.le_of_ble_eq_true rfl, fn_aF hf rfl rfl, ⟨hf, some (.int q9.1), q9.2, gp_X12_fact (n := n) (r := r)  e10, fun _ => ⟨rfl, fj_rt h11 hQ⟩⟩⟩⟩⟩⟩⟩⟩⟩⟩⟩) (fun c3 h4 => ⟨rfl, fj_rt h4 hQ⟩)) (fun c1 h2 => ⟨fn_aF hf rfl rfl, Or.inl ⟨_, hf.2 106 63 141 rfl, fj_gd h2 fun g13 h12 => ⟨200, fn_aF hf rfl rfl, ix_t g13, fj_in h12 (fun c14 h15 => hK _ h15 _ hQ) (fun c14 h15 => ⟨fn_aF hf rfl rfl, Or.inl ⟨_, hf.2 106 65 143 rfl, fj_gd h15 fun g17 h16 => ⟨200, fn_aF hf rfl rfl, ix_t g17, fj_in h16 (fun c18 h19 => hK _ h19 _ hQ) (fun c18 h19 => hK _ h19 _ hQ)⟩⟩⟩)⟩⟩⟩)⟩)
theorem l_X12_read {n : Nat} {r : Nat → Nat → Option Nat} (hf : fn_F n r) (s : S_X12_read) (q : Int32 × fm_) (h : am_lp (st_X12_read) s = some q) : P_X12_read n r s q :=
  am_lp_snd (P := P_X12_read n r) (fun K hK s q h => match s, h with
    | (x1, x2, x3, x4, x6, x7, m), h => t_X12_read_66 hf (fun s => hK s q) x1 x2 x3 x4 x6 x7 m h) s q h
set_option maxRecDepth 100000 in
theorem t_X12_read {n : Nat} {r : Nat → Nat → Option Nat} (hf : fn_F n r) {q : Int32 × fm_} (p1 : Int32) (p2 : Int32) (p3 : Int32) (p4 : Int64) {m : fm_}
  (h : f_X12_read p1 p2 p3 p4 m = some q) {Q : Option Value → am_W → Prop} (hQ : Q (en_i q).1 (mk_ n r q.2)) : am_T m_X12_read sp_X12_read n Q 0 [some (.ref 106), some (.int p1), some (.int p2), some (.int p3), some (.long p4), none, none, none] [] (mk_ n r m) :=
  am_T.wp sm_X12_read (K := am_T m_X12_read sp_X12_read n Q) (cuts := [66]) (fun _ _ _ _ h => h) 35
    (⟨fn_aF hf rfl rfl, fh_if h (fun c1 h2 => ⟨rfl, fh_rt h2 hQ⟩) (fun c1 h2 => fh_if h2 (fun c3 h4 => ⟨rfl, fh_rt h4 hQ⟩) (fun c3 h4 => ⟨fn_aF hf rfl rfl, fh_if h4 (fun c5 h6 => ⟨rfl, fh_rt h6 hQ⟩) (fun c5 h6 => fh_bd h6 fun q7 e8 h9 => ⟨Nat.le_of_ble_eq_true rfl, trivial, ⟨trivial, some (.int q7.1), q7.2, gp_X12_isDay (n := n) (r := r)  e8, fun _ => fh_if h9 (fun c10 h11 => ⟨rfl, fh_rt h11 hQ⟩) (fun c10 h11 => ⟨fn_aF hf rfl rfl, Or.inl ⟨_, hf.2 106 25 118 rfl, fh_gd h11 fun g13 h12 => ⟨8, fn_aF hf rfl rfl, ix_t g13, fh_if h12 (fun c14 h15 => ⟨rfl, fh_rt h15 hQ⟩) (fun c14 h15 => ⟨fn_aF hf rfl rfl, Or.inl ⟨_, hf.2 106 26 119 rfl, fh_gd h15 fun g17 h16 => ⟨8, fn_aF hf rfl rfl, ix_t g17, fh_if h16 (fun c18 h19 => ⟨rfl, fh_rt h19 hQ⟩) (fun c18 h19 => fh_bd h19 fun q20 e21 h22 => ⟨Nat.le_of_ble_eq_true rfl, trivial, ⟨trivial, some (.int q20.1), q20.2, gp_X12_areSigns (n := n) (r := r)  e21, fun _ => fh_in h22 (fun c23 h24 => l_X12_read hf _ _ h24 _ hQ) (fun c23 h24 => ⟨rfl, fh_rt h24 hQ⟩)⟩⟩)⟩⟩⟩)⟩⟩⟩)⟩⟩)⟩))⟩)
noncomputable def G_X12_read (n : Nat) (r : Nat → Nat → Option Nat) (as : List Value) (m : fm_) : Option (Option Value × fm_) := match as with
  | [.ref x0, .int p1, .int p2, .int p3, .long p4] => gd_ (Nat.beq x0 106) ((f_X12_read p1 p2 p3 p4 m).map en_i)
  | _ => none
set_option maxRecDepth 100000 in
theorem gp_X12_read {n : Nat} {r : Nat → Nat → Option Nat}  {p1 : Int32} {p2 : Int32} {p3 : Int32} {p4 : Int64} {m : fm_} {q : Int32 × fm_}  (e : f_X12_read p1 p2 p3 p4 m = some q) : G_X12_read n r [.ref 106, .int p1, .int p2, .int p3, .long p4] m = some (en_i q) := by
  show (gd_ (Nat.beq 106 106) ((f_X12_read p1 p2 p3 p4 m).map en_i)) = _
  exact fn_gd rfl (fn_mp e)
set_option maxRecDepth 100000 in
theorem ok_X12_read : am_mok 12 231 m_X12_read = true := by decide +kernel
set_option maxRecDepth 100000 in
theorem c_X12_read (l : Launch) {g : am_G} (hg : fx_ l g) : am_Met l g 2 231 (fn_s fn_F G_X12_read) := by
  refine am_sound (own := 12) (M := m_X12_read) (SP := sp_X12_read) hg.1 (by decide +kernel) ok_X12_read (by decide +kernel) ?_ (fun q hq hk => absurd hk (am_no61 (M := m_X12_read) (by decide +kernel) q hq)) (fn_ext l _ rfl g 12) (Or.inl (by decide +kernel)) ?_ ?_
  · intro q hq hk
    have hm : q.2.2.2.1 ∈ am_cs m_X12_read := am_cs_in hq hk
    rw [show am_cs m_X12_read = [219, 225, 228] by decide +kernel] at hm
    have hm : q.2.2.2.1 ∈ [219, 225, 228] := (List.all_eq_true.mp (show ([219, 225, 228] : List Nat).all (fun a => decide (a ∈ ([219, 225, 228] : List Nat))) = true by decide +kernel) _ hm |> of_decide_eq_true)
    simp only [List.mem_cons, List.not_mem_nil, or_false] at hm
    rcases hm with hm | hm | hm
    · rw [hm]; exact ⟨0, by omega, c_X12_isDay l hg⟩
    · rw [hm]; exact ⟨1, by omega, c_X12_areSigns l hg⟩
    · rw [hm]; exact ⟨0, by omega, c_X12_fact l hg⟩
  · intro as w K h
    obtain ⟨hf, y, m1, hG, hK⟩ := h
    unfold G_X12_read at hG
    split at hG
    · exact Nat.le_of_ble_eq_true rfl
    · cases hG
  · intro as w K h
    obtain ⟨n, i0, l0, r⟩ := w
    obtain ⟨hf, y, m1, hG, hK⟩ := h
    unfold G_X12_read at hG
    split at hG
    · next x0 p1 p2 p3 p4 =>
      obtain ⟨hx1, hG1⟩ := gd_u hG
      obtain rfl := Nat.eq_of_beq_eq_true hx1
      obtain ⟨q, hq, he⟩ := fn_mu hG1
      obtain ⟨rfl, rfl⟩ := Prod.mk.inj he
      exact t_X12_read  hf  p1 p2 p3 p4 (m := (i0, l0)) hq hK
    · cases hG

/-! == X12_appeal == -/
noncomputable def f_X12_appeal (p1 : Int32) (p2 : Int32) (m : fm_) : Option (Int32 × fm_) :=
  (if (gi_ m 106 58) = 200 then
((some ((-1), m)))
else
(Option.bind (f_X12_isPlate p1 m) fun q3 =>
(if q3.1 = 0 then
((some ((-1), q3.2)))
else
(Option.bind (f_X12_isDay p2 q3.2) fun q8 =>
(if q8.1 = 0 then
((some ((-1), q8.2)))
else
(Option.bind (f_X12_fact 2 p1 p2 q8.2) fun q13 =>
((some (q13.1, q13.2)))))))))
def sp_X12_appeal : am_S := fn_sp [(227, fn_F, G_X12_isPlate), (219, fn_0, G_X12_isDay), (228, fn_F, G_X12_fact)]
theorem sm_X12_appeal : am_Smono (sp_X12_appeal) := fn_sp_mono _
set_option maxRecDepth 100000 in
theorem t_X12_appeal {n : Nat} {r : Nat → Nat → Option Nat} (hf : fn_F n r) {q : Int32 × fm_} (p1 : Int32) (p2 : Int32) {m : fm_}
  (h : f_X12_appeal p1 p2 m = some q) {Q : Option Value → am_W → Prop} (hQ : Q (en_i q).1 (mk_ n r q.2)) : am_T m_X12_appeal sp_X12_appeal n Q 0 [some (.ref 106), some (.int p1), some (.int p2)] [] (mk_ n r m) :=
  am_T.wp sm_X12_appeal (K := am_T m_X12_appeal sp_X12_appeal n Q) (cuts := []) (fun _ _ _ _ h => h) 18
    (⟨fn_aF hf rfl rfl, fh_if h (fun c1 h2 => ⟨rfl, fh_rt h2 hQ⟩) (fun c1 h2 => fh_bd h2 fun q3 e4 h5 => ⟨Nat.le_of_ble_eq_true rfl, fn_aF hf rfl rfl, ⟨hf, some (.int q3.1), q3.2, gp_X12_isPlate (n := n) (r := r)  e4, fun _ => fh_if h5 (fun c6 h7 => ⟨rfl, fh_rt h7 hQ⟩) (fun c6 h7 => fh_bd h7 fun q8 e9 h10 => ⟨Nat.le_of_ble_eq_true rfl, trivial, ⟨trivial, some (.int q8.1), q8.2, gp_X12_isDay (n := n) (r := r)  e9, fun _ => fh_in h10 (fun c11 h12 => fh_bd h12 fun q13 e14 h15 => ⟨Nat.le_of_ble_eq_true rfl, fn_aF hf rfl rfl, ⟨hf, some (.int q13.1), q13.2, gp_X12_fact (n := n) (r := r)  e14, fun _ => ⟨rfl, fh_rt h15 hQ⟩⟩⟩) (fun c11 h12 => ⟨rfl, fh_rt h12 hQ⟩)⟩⟩)⟩⟩)⟩)
noncomputable def G_X12_appeal (n : Nat) (r : Nat → Nat → Option Nat) (as : List Value) (m : fm_) : Option (Option Value × fm_) := match as with
  | [.ref x0, .int p1, .int p2] => gd_ (Nat.beq x0 106) ((f_X12_appeal p1 p2 m).map en_i)
  | _ => none
set_option maxRecDepth 100000 in
theorem gp_X12_appeal {n : Nat} {r : Nat → Nat → Option Nat}  {p1 : Int32} {p2 : Int32} {m : fm_} {q : Int32 × fm_}  (e : f_X12_appeal p1 p2 m = some q) : G_X12_appeal n r [.ref 106, .int p1, .int p2] m = some (en_i q) := by
  show (gd_ (Nat.beq 106 106) ((f_X12_appeal p1 p2 m).map en_i)) = _
  exact fn_gd rfl (fn_mp e)
set_option maxRecDepth 100000 in
theorem ok_X12_appeal : am_mok 12 232 m_X12_appeal = true := by decide +kernel
set_option maxRecDepth 100000 in
theorem c_X12_appeal (l : Launch) {g : am_G} (hg : fx_ l g) : am_Met l g 1 232 (fn_s fn_F G_X12_appeal) := by
  refine am_sound (own := 12) (M := m_X12_appeal) (SP := sp_X12_appeal) hg.1 (by decide +kernel) ok_X12_appeal (by decide +kernel) ?_ (fun q hq hk => absurd hk (am_no61 (M := m_X12_appeal) (by decide +kernel) q hq)) (fn_ext l _ rfl g 12) (Or.inl (by decide +kernel)) ?_ ?_
  · intro q hq hk
    have hm : q.2.2.2.1 ∈ am_cs m_X12_appeal := am_cs_in hq hk
    rw [show am_cs m_X12_appeal = [227, 219, 228] by decide +kernel] at hm
    have hm : q.2.2.2.1 ∈ [219, 227, 228] := (List.all_eq_true.mp (show ([227, 219, 228] : List Nat).all (fun a => decide (a ∈ ([219, 227, 228] : List Nat))) = true by decide +kernel) _ hm |> of_decide_eq_true)
    simp only [List.mem_cons, List.not_mem_nil, or_false] at hm
    rcases hm with hm | hm | hm
    · rw [hm]; exact ⟨0, by omega, c_X12_isDay l hg⟩
    · rw [hm]; exact ⟨0, by omega, c_X12_isPlate l hg⟩
    · rw [hm]; exact ⟨0, by omega, c_X12_fact l hg⟩
  · intro as w K h
    obtain ⟨hf, y, m1, hG, hK⟩ := h
    unfold G_X12_appeal at hG
    split at hG
    · exact Nat.le_of_ble_eq_true rfl
    · cases hG
  · intro as w K h
    obtain ⟨n, i0, l0, r⟩ := w
    obtain ⟨hf, y, m1, hG, hK⟩ := h
    unfold G_X12_appeal at hG
    split at hG
    · next x0 p1 p2 =>
      obtain ⟨hx1, hG1⟩ := gd_u hG
      obtain rfl := Nat.eq_of_beq_eq_true hx1
      obtain ⟨q, hq, he⟩ := fn_mu hG1
      obtain ⟨rfl, rfl⟩ := Prod.mk.inj he
      exact t_X12_appeal  hf  p1 p2 (m := (i0, l0)) hq hK
    · cases hG

/-! == X12_untell == -/
noncomputable def f_X12_untell (p1 : Int32) (m : fm_) : Option (Int32 × fm_) :=
  (if p1 < 0 then
((some (0, m)))
else
(if (gi_ m 106 58) ≤ p1 then
((some (0, m)))
else
(gd_ (ix_ p1 200)
(if (gi_ m 141 (Int32.toNatClampNeg p1)) = 3 then
((some (0, m)))
else
(gd_ (ix_ p1 200)
(if (gi_ m 150 (Int32.toNatClampNeg p1)) < 0 then
(gd_ (ix_ p1 200)
((some (1, (si_ m 150 (Int32.toNatClampNeg p1) (gi_ m 106 59))))))
else
((some (0, m)))))))))
def sp_X12_untell : am_S := fn_sp []
theorem sm_X12_untell : am_Smono (sp_X12_untell) := fn_sp_mono _
set_option maxRecDepth 100000 in
theorem t_X12_untell {n : Nat} {r : Nat → Nat → Option Nat} (hf : fn_F n r) {q : Int32 × fm_} (p1 : Int32) {m : fm_}
  (h : f_X12_untell p1 m = some q) {Q : Option Value → am_W → Prop} (hQ : Q (en_i q).1 (mk_ n r q.2)) : am_T m_X12_untell sp_X12_untell n Q 0 [some (.ref 106), some (.int p1)] [] (mk_ n r m) :=
  am_T.wp sm_X12_untell (K := am_T m_X12_untell sp_X12_untell n Q) (cuts := []) (fun _ _ _ _ h => h) 26
    (fh_if h (fun c1 h2 => ⟨rfl, Or.inl rfl, fh_rt h2 hQ⟩) (fun c1 h2 => ⟨fn_aF hf rfl rfl, fh_if h2 (fun c3 h4 => ⟨rfl, Or.inl rfl, fh_rt h4 hQ⟩) (fun c3 h4 => ⟨fn_aF hf rfl rfl, Or.inl ⟨_, hf.2 106 63 141 rfl, fh_gd h4 fun g6 h5 => ⟨200, fn_aF hf rfl rfl, ix_t g6, fh_if h5 (fun c7 h8 => ⟨rfl, Or.inl rfl, fh_rt h8 hQ⟩) (fun c7 h8 => ⟨fn_aF hf rfl rfl, Or.inl ⟨_, hf.2 106 72 150 rfl, fh_gd h8 fun g10 h9 => ⟨200, fn_aF hf rfl rfl, ix_t g10, fh_if h9 (fun c11 h12 => ⟨fn_aF hf rfl rfl, Or.inl ⟨_, hf.2 106 72 150 rfl, ⟨fn_aF hf rfl rfl, fh_gd h12 fun g14 h13 => ⟨200, fn_aF hf rfl rfl, ix_t g14, ⟨rfl, Or.inr rfl, fh_rt h13 hQ⟩⟩⟩⟩⟩) (fun c11 h12 => ⟨rfl, Or.inl rfl, fh_rt h12 hQ⟩)⟩⟩⟩)⟩⟩⟩)⟩))
noncomputable def G_X12_untell (n : Nat) (r : Nat → Nat → Option Nat) (as : List Value) (m : fm_) : Option (Option Value × fm_) := match as with
  | [.ref x0, .int p1] => gd_ (Nat.beq x0 106) ((f_X12_untell p1 m).map en_i)
  | _ => none
set_option maxRecDepth 100000 in
theorem gp_X12_untell {n : Nat} {r : Nat → Nat → Option Nat}  {p1 : Int32} {m : fm_} {q : Int32 × fm_}  (e : f_X12_untell p1 m = some q) : G_X12_untell n r [.ref 106, .int p1] m = some (en_i q) := by
  show (gd_ (Nat.beq 106 106) ((f_X12_untell p1 m).map en_i)) = _
  exact fn_gd rfl (fn_mp e)
set_option maxRecDepth 100000 in
theorem ok_X12_untell : am_mok 12 233 m_X12_untell = true := by decide +kernel
set_option maxRecDepth 100000 in
theorem c_X12_untell (l : Launch) {g : am_G} (hg : fx_ l g) : am_Met l g 0 233 (fn_s fn_F G_X12_untell) := by
  refine am_sound (own := 12) (M := m_X12_untell) (SP := sp_X12_untell) hg.1 (by decide +kernel) ok_X12_untell (by decide +kernel) ?_ (fun q hq hk => absurd hk (am_no61 (M := m_X12_untell) (by decide +kernel) q hq)) (fn_ext l _ rfl g 12) (Or.inl (by decide +kernel)) ?_ ?_
  · intro q hq hk
    have hm : q.2.2.2.1 ∈ am_cs m_X12_untell := am_cs_in hq hk
    rw [show am_cs m_X12_untell = [] by decide +kernel] at hm
    cases hm
  · intro as w K h
    obtain ⟨hf, y, m1, hG, hK⟩ := h
    unfold G_X12_untell at hG
    split at hG
    · exact Nat.le_of_ble_eq_true rfl
    · cases hG
  · intro as w K h
    obtain ⟨n, i0, l0, r⟩ := w
    obtain ⟨hf, y, m1, hG, hK⟩ := h
    unfold G_X12_untell at hG
    split at hG
    · next x0 p1 =>
      obtain ⟨hx1, hG1⟩ := gd_u hG
      obtain rfl := Nat.eq_of_beq_eq_true hx1
      obtain ⟨q, hq, he⟩ := fn_mu hG1
      obtain ⟨rfl, rfl⟩ := Prod.mk.inj he
      exact t_X12_untell  hf  p1 (m := (i0, l0)) hq hK
    · cases hG

/-! == X12_later == -/
noncomputable def f_X12_later (p1 : Int32) (m : fm_) : Option (Int32 × fm_) :=
  (if p1 < 0 then
((some ((-1), m)))
else
(if 1000 < p1 then
((some ((-1), m)))
else
(if ((gi_ m 106 59) + p1) ≤ 100000 then
((some (((gi_ m 106 59) + p1), (si_ m 106 59 ((gi_ m 106 59) + p1)))))
else
((some ((-1), m))))))
def sp_X12_later : am_S := fn_sp []
theorem sm_X12_later : am_Smono (sp_X12_later) := fn_sp_mono _
set_option maxRecDepth 100000 in
theorem t_X12_later {n : Nat} {r : Nat → Nat → Option Nat} (hf : fn_F n r) {q : Int32 × fm_} (p1 : Int32) {m : fm_}
  (h : f_X12_later p1 m = some q) {Q : Option Value → am_W → Prop} (hQ : Q (en_i q).1 (mk_ n r q.2)) : am_T m_X12_later sp_X12_later n Q 0 [some (.ref 106), some (.int p1)] [] (mk_ n r m) :=
  am_T.wp sm_X12_later (K := am_T m_X12_later sp_X12_later n Q) (cuts := []) (fun _ _ _ _ h => h) 21
    (fh_if h (fun c1 h2 => ⟨rfl, fh_rt h2 hQ⟩) (fun c1 h2 => fh_if h2 (fun c3 h4 => ⟨rfl, fh_rt h4 hQ⟩) (fun c3 h4 => ⟨fn_aF hf rfl rfl, fh_if h4 (fun c5 h6 => ⟨fn_aF hf rfl rfl, ⟨fn_aF hf rfl rfl, ⟨fn_aF hf rfl rfl, ⟨rfl, fh_rt h6 hQ⟩⟩⟩⟩) (fun c5 h6 => ⟨rfl, fh_rt h6 hQ⟩)⟩)))
noncomputable def G_X12_later (n : Nat) (r : Nat → Nat → Option Nat) (as : List Value) (m : fm_) : Option (Option Value × fm_) := match as with
  | [.ref x0, .int p1] => gd_ (Nat.beq x0 106) ((f_X12_later p1 m).map en_i)
  | _ => none
set_option maxRecDepth 100000 in
theorem gp_X12_later {n : Nat} {r : Nat → Nat → Option Nat}  {p1 : Int32} {m : fm_} {q : Int32 × fm_}  (e : f_X12_later p1 m = some q) : G_X12_later n r [.ref 106, .int p1] m = some (en_i q) := by
  show (gd_ (Nat.beq 106 106) ((f_X12_later p1 m).map en_i)) = _
  exact fn_gd rfl (fn_mp e)
set_option maxRecDepth 100000 in
theorem ok_X12_later : am_mok 12 234 m_X12_later = true := by decide +kernel
set_option maxRecDepth 100000 in
theorem c_X12_later (l : Launch) {g : am_G} (hg : fx_ l g) : am_Met l g 0 234 (fn_s fn_F G_X12_later) := by
  refine am_sound (own := 12) (M := m_X12_later) (SP := sp_X12_later) hg.1 (by decide +kernel) ok_X12_later (by decide +kernel) ?_ (fun q hq hk => absurd hk (am_no61 (M := m_X12_later) (by decide +kernel) q hq)) (fn_ext l _ rfl g 12) (Or.inl (by decide +kernel)) ?_ ?_
  · intro q hq hk
    have hm : q.2.2.2.1 ∈ am_cs m_X12_later := am_cs_in hq hk
    rw [show am_cs m_X12_later = [] by decide +kernel] at hm
    cases hm
  · intro as w K h
    obtain ⟨hf, y, m1, hG, hK⟩ := h
    unfold G_X12_later at hG
    split at hG
    · exact Nat.le_of_ble_eq_true rfl
    · cases hG
  · intro as w K h
    obtain ⟨n, i0, l0, r⟩ := w
    obtain ⟨hf, y, m1, hG, hK⟩ := h
    unfold G_X12_later at hG
    split at hG
    · next x0 p1 =>
      obtain ⟨hx1, hG1⟩ := gd_u hG
      obtain rfl := Nat.eq_of_beq_eq_true hx1
      obtain ⟨q, hq, he⟩ := fn_mu hG1
      obtain ⟨rfl, rfl⟩ := Prod.mk.inj he
      exact t_X12_later  hf  p1 (m := (i0, l0)) hq hK
    · cases hG

/-! == X12_counts == -/
noncomputable def f_X12_counts (p1 : Int32) (p2 : Int32) (m : fm_) : Option (Int32 × fm_) :=
  (gd_ (ix_ p1 200)
(if p2 < (gi_ m 149 (Int32.toNatClampNeg p1)) then
((some (0, m)))
else
(gd_ (ix_ p1 200)
(if (gi_ m 150 (Int32.toNatClampNeg p1)) < 0 then
((some (1, m)))
else
(gd_ (ix_ p1 200)
(if (gi_ m 150 (Int32.toNatClampNeg p1)) ≤ p2 then
((some (0, m)))
else
((some (1, m)))))))))
def sp_X12_counts : am_S := fn_sp []
theorem sm_X12_counts : am_Smono (sp_X12_counts) := fn_sp_mono _
set_option maxRecDepth 100000 in
theorem t_X12_counts {n : Nat} {r : Nat → Nat → Option Nat} (hf : fn_F n r) {q : Int32 × fm_} (p1 : Int32) (p2 : Int32) {m : fm_}
  (h : f_X12_counts p1 p2 m = some q) {Q : Option Value → am_W → Prop} (hQ : Q (en_i q).1 (mk_ n r q.2)) : am_T m_X12_counts sp_X12_counts n Q 0 [some (.ref 106), some (.int p1), some (.int p2)] [] (mk_ n r m) :=
  am_T.wp sm_X12_counts (K := am_T m_X12_counts sp_X12_counts n Q) (cuts := []) (fun _ _ _ _ h => h) 21
    (⟨fn_aF hf rfl rfl, Or.inl ⟨_, hf.2 106 71 149 rfl, fh_gd h fun g2 h1 => ⟨200, fn_aF hf rfl rfl, ix_t g2, fh_if h1 (fun c3 h4 => ⟨rfl, Or.inl rfl, fh_rt h4 hQ⟩) (fun c3 h4 => ⟨fn_aF hf rfl rfl, Or.inl ⟨_, hf.2 106 72 150 rfl, fh_gd h4 fun g6 h5 => ⟨200, fn_aF hf rfl rfl, ix_t g6, fh_if h5 (fun c7 h8 => ⟨rfl, Or.inr rfl, fh_rt h8 hQ⟩) (fun c7 h8 => ⟨fn_aF hf rfl rfl, Or.inl ⟨_, hf.2 106 72 150 rfl, fh_gd h8 fun g10 h9 => ⟨200, fn_aF hf rfl rfl, ix_t g10, fh_if h9 (fun c11 h12 => ⟨rfl, Or.inl rfl, fh_rt h12 hQ⟩) (fun c11 h12 => ⟨rfl, Or.inr rfl, fh_rt h12 hQ⟩)⟩⟩⟩)⟩⟩⟩)⟩⟩⟩)
noncomputable def G_X12_counts (n : Nat) (r : Nat → Nat → Option Nat) (as : List Value) (m : fm_) : Option (Option Value × fm_) := match as with
  | [.ref x0, .int p1, .int p2] => gd_ (Nat.beq x0 106) ((f_X12_counts p1 p2 m).map en_i)
  | _ => none
set_option maxRecDepth 100000 in
theorem gp_X12_counts {n : Nat} {r : Nat → Nat → Option Nat}  {p1 : Int32} {p2 : Int32} {m : fm_} {q : Int32 × fm_}  (e : f_X12_counts p1 p2 m = some q) : G_X12_counts n r [.ref 106, .int p1, .int p2] m = some (en_i q) := by
  show (gd_ (Nat.beq 106 106) ((f_X12_counts p1 p2 m).map en_i)) = _
  exact fn_gd rfl (fn_mp e)
set_option maxRecDepth 100000 in
theorem ok_X12_counts : am_mok 12 235 m_X12_counts = true := by decide +kernel
set_option maxRecDepth 100000 in
theorem c_X12_counts (l : Launch) {g : am_G} (hg : fx_ l g) : am_Met l g 0 235 (fn_s fn_F G_X12_counts) := by
  refine am_sound (own := 12) (M := m_X12_counts) (SP := sp_X12_counts) hg.1 (by decide +kernel) ok_X12_counts (by decide +kernel) ?_ (fun q hq hk => absurd hk (am_no61 (M := m_X12_counts) (by decide +kernel) q hq)) (fn_ext l _ rfl g 12) (Or.inl (by decide +kernel)) ?_ ?_
  · intro q hq hk
    have hm : q.2.2.2.1 ∈ am_cs m_X12_counts := am_cs_in hq hk
    rw [show am_cs m_X12_counts = [] by decide +kernel] at hm
    cases hm
  · intro as w K h
    obtain ⟨hf, y, m1, hG, hK⟩ := h
    unfold G_X12_counts at hG
    split at hG
    · exact Nat.le_of_ble_eq_true rfl
    · cases hG
  · intro as w K h
    obtain ⟨n, i0, l0, r⟩ := w
    obtain ⟨hf, y, m1, hG, hK⟩ := h
    unfold G_X12_counts at hG
    split at hG
    · next x0 p1 p2 =>
      obtain ⟨hx1, hG1⟩ := gd_u hG
      obtain rfl := Nat.eq_of_beq_eq_true hx1
      obtain ⟨q, hq, he⟩ := fn_mu hG1
      obtain ⟨rfl, rfl⟩ := Prod.mk.inj he
      exact t_X12_counts  hf  p1 p2 (m := (i0, l0)) hq hK
    · cases hG

/-! == X12_looks == -/
noncomputable def f_X12_looks (p1 : Int32) (m : fm_) : Option (Int32 × fm_) :=
  (if p1 = 111 then
((some (48, m)))
else
(if p1 = 105 then
((some (49, m)))
else
(if p1 = 108 then
((some (49, m)))
else
(if p1 = 98 then
((some (56, m)))
else
(if p1 = 115 then
((some (53, m)))
else
(if p1 = 122 then
((some (50, m)))
else
(if p1 = 118 then
((some (117, m)))
else
((some (p1, m))))))))))
def sp_X12_looks : am_S := fn_sp []
theorem sm_X12_looks : am_Smono (sp_X12_looks) := fn_sp_mono _
set_option maxRecDepth 100000 in
theorem t_X12_looks {n : Nat} {r : Nat → Nat → Option Nat} (hf : fn_0 n r) {q : Int32 × fm_} (p1 : Int32) {m : fm_}
  (h : f_X12_looks p1 m = some q) {Q : Option Value → am_W → Prop} (hQ : Q (en_i q).1 (mk_ n r q.2)) : am_T m_X12_looks sp_X12_looks n Q 0 [some (.int p1)] [] (mk_ n r m) :=
  am_T.wp sm_X12_looks (K := am_T m_X12_looks sp_X12_looks n Q) (cuts := []) (fun _ _ _ _ h => h) 25
    (fh_in h (fun c1 h2 => fh_if h2 (fun c3 h4 => ⟨rfl, fh_rt h4 hQ⟩) (fun c3 h4 => fh_in h4 (fun c5 h6 => fh_in h6 (fun c7 h8 => fh_in h8 (fun c9 h10 => fh_in h10 (fun c11 h12 => fh_in h12 (fun c13 h14 => ⟨rfl, fh_rt h14 hQ⟩) (fun c13 h14 => ⟨rfl, fh_rt h14 hQ⟩)) (fun c11 h12 => ⟨rfl, fh_rt h12 hQ⟩)) (fun c9 h10 => ⟨rfl, fh_rt h10 hQ⟩)) (fun c7 h8 => ⟨rfl, fh_rt h8 hQ⟩)) (fun c5 h6 => ⟨rfl, fh_rt h6 hQ⟩))) (fun c1 h2 => ⟨rfl, fh_rt h2 hQ⟩))
noncomputable def G_X12_looks (n : Nat) (r : Nat → Nat → Option Nat) (as : List Value) (m : fm_) : Option (Option Value × fm_) := match as with
  | [.int p1] => (f_X12_looks p1 m).map en_i
  | _ => none
set_option maxRecDepth 100000 in
theorem gp_X12_looks {n : Nat} {r : Nat → Nat → Option Nat}  {p1 : Int32} {m : fm_} {q : Int32 × fm_}  (e : f_X12_looks p1 m = some q) : G_X12_looks n r [.int p1] m = some (en_i q) := by
  show ((f_X12_looks p1 m).map en_i) = _
  exact fn_mp e
set_option maxRecDepth 100000 in
theorem ok_X12_looks : am_mok 12 236 m_X12_looks = true := by decide +kernel
set_option maxRecDepth 100000 in
theorem c_X12_looks (l : Launch) {g : am_G} (hg : fx_ l g) : am_Met l g 0 236 (fn_s fn_0 G_X12_looks) := by
  refine am_sound (own := 12) (M := m_X12_looks) (SP := sp_X12_looks) hg.1 (by decide +kernel) ok_X12_looks (by decide +kernel) ?_ (fun q hq hk => absurd hk (am_no61 (M := m_X12_looks) (by decide +kernel) q hq)) (fn_ext l _ rfl g 12) (Or.inl (by decide +kernel)) ?_ ?_
  · intro q hq hk
    have hm : q.2.2.2.1 ∈ am_cs m_X12_looks := am_cs_in hq hk
    rw [show am_cs m_X12_looks = [] by decide +kernel] at hm
    cases hm
  · intro as w K h
    obtain ⟨hf, y, m1, hG, hK⟩ := h
    unfold G_X12_looks at hG
    split at hG
    · exact Nat.le_of_ble_eq_true rfl
    · cases hG
  · intro as w K h
    obtain ⟨n, i0, l0, r⟩ := w
    obtain ⟨hf, y, m1, hG, hK⟩ := h
    unfold G_X12_looks at hG
    split at hG
    · next p1 =>
      obtain ⟨q, hq, he⟩ := fn_mu hG
      obtain ⟨rfl, rfl⟩ := Prod.mk.inj he
      exact t_X12_looks  hf  p1 (m := (i0, l0)) hq hK
    · cases hG

