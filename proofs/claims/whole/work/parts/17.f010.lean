/-! == X5_readLines == -/
abbrev S_X5_readLines : Type := (Int32 × fm_)
noncomputable def st_X5_readLines (o : Nat) (s : S_X5_readLines) : Option (S_X5_readLines ⊕ (Int32 × fm_)) := match s with
  | (x2, m) =>
    (if 900 ≤ x2 then
((some (Sum.inr (1, m))))
else
(Option.bind (f_X8_kind m) fun q3 =>
(if q3.1 = 0 then
((some (Sum.inr (1, q3.2))))
else
(Option.bind (f_X8_kind q3.2) fun q8 =>
(if q8.1 = 127 then
(Option.bind (f_X5_readHead o (si_ q8.2 68 2 q8.1)) fun q13 =>
(if q13.1 = 0 then
((some (Sum.inr (0, q13.2))))
else
(Option.bind (f_X5_readWhen o q13.2) fun q19 =>
(if q19.1 = 0 then
((some (Sum.inr (0, q19.2))))
else
(Option.bind (f_X8_take 59 q19.2) fun q24 =>
(if q24.1 = 0 then
((some (Sum.inr (0, q24.2))))
else
((some (Sum.inl (((x2 + 1), q24.2)))))))))))
else
(if q8.1 = 108 then
(Option.bind (f_X5_readHead o (si_ q8.2 68 2 q8.1)) fun q31 =>
(if q31.1 = 0 then
((some (Sum.inr (0, q31.2))))
else
(Option.bind (f_X5_readWhen o q31.2) fun q37 =>
(if q37.1 = 0 then
((some (Sum.inr (0, q37.2))))
else
(Option.bind (f_X8_take 59 q37.2) fun q42 =>
(if q42.1 = 0 then
((some (Sum.inr (0, q42.2))))
else
((some (Sum.inl (((x2 + 1), q42.2)))))))))))
else
(if q8.1 = 110 then
(Option.bind (f_X5_readHead o (si_ q8.2 68 2 q8.1)) fun q60 =>
(if q60.1 = 0 then
((some (Sum.inr (0, q60.2))))
else
(Option.bind (f_X5_readWhen o q60.2) fun q66 =>
(if q66.1 = 0 then
((some (Sum.inr (0, q66.2))))
else
(Option.bind (f_X8_take 59 q66.2) fun q71 =>
(if q71.1 = 0 then
((some (Sum.inr (0, q71.2))))
else
((some (Sum.inl (((x2 + 1), q71.2)))))))))))
else
(Option.bind (f_X5_readHead o (si_ q8.2 68 2 q8.1)) fun q49 =>
(if q49.1 = 0 then
((some (Sum.inr (0, q49.2))))
else
(Option.bind (f_X8_take 59 q49.2) fun q55 =>
(if q55.1 = 0 then
((some (Sum.inr (0, q55.2))))
else
((some (Sum.inl (((x2 + 1), q55.2))))))))))))))))
noncomputable def f_X5_readLines_12 (o : Nat) (x2 : Int32) (m : fm_) : Option (Int32 × fm_) := am_lp (st_X5_readLines o) ((x2, m))
theorem e_X5_readLines_12 (o : Nat) (x2 : Int32) (m : fm_) : f_X5_readLines_12 o x2 m =
(if 900 ≤ x2 then
((some (1, m)))
else
(Option.bind (f_X8_kind m) fun q3 =>
(if q3.1 = 0 then
((some (1, q3.2)))
else
(Option.bind (f_X8_kind q3.2) fun q8 =>
(if q8.1 = 127 then
(Option.bind (f_X5_readHead o (si_ q8.2 68 2 q8.1)) fun q13 =>
(if q13.1 = 0 then
((some (0, q13.2)))
else
(Option.bind (f_X5_readWhen o q13.2) fun q19 =>
(if q19.1 = 0 then
((some (0, q19.2)))
else
(Option.bind (f_X8_take 59 q19.2) fun q24 =>
(if q24.1 = 0 then
((some (0, q24.2)))
else
((f_X5_readLines_12 o (x2 + 1) q24.2))))))))
else
(if q8.1 = 108 then
(Option.bind (f_X5_readHead o (si_ q8.2 68 2 q8.1)) fun q31 =>
(if q31.1 = 0 then
((some (0, q31.2)))
else
(Option.bind (f_X5_readWhen o q31.2) fun q37 =>
(if q37.1 = 0 then
((some (0, q37.2)))
else
(Option.bind (f_X8_take 59 q37.2) fun q42 =>
(if q42.1 = 0 then
((some (0, q42.2)))
else
((f_X5_readLines_12 o (x2 + 1) q42.2))))))))
else
(if q8.1 = 110 then
(Option.bind (f_X5_readHead o (si_ q8.2 68 2 q8.1)) fun q60 =>
(if q60.1 = 0 then
((some (0, q60.2)))
else
(Option.bind (f_X5_readWhen o q60.2) fun q66 =>
(if q66.1 = 0 then
((some (0, q66.2)))
else
(Option.bind (f_X8_take 59 q66.2) fun q71 =>
(if q71.1 = 0 then
((some (0, q71.2)))
else
((f_X5_readLines_12 o (x2 + 1) q71.2))))))))
else
(Option.bind (f_X5_readHead o (si_ q8.2 68 2 q8.1)) fun q49 =>
(if q49.1 = 0 then
((some (0, q49.2)))
else
(Option.bind (f_X8_take 59 q49.2) fun q55 =>
(if q55.1 = 0 then
((some (0, q55.2)))
else
((f_X5_readLines_12 o (x2 + 1) q55.2))))))))))))) :=
  (am_lp_eq _ _).trans (fe_if (rfl) (fe_bd fun q3 => (fe_if (rfl) (fe_bd fun q8 => (fe_if (fe_bd fun q13 => (fe_if (rfl) (fe_bd fun q19 => (fe_if (rfl) (fe_bd fun q24 => (fe_if (rfl) (rfl))))))) (fe_if (fe_bd fun q31 => (fe_if (rfl) (fe_bd fun q37 => (fe_if (rfl) (fe_bd fun q42 => (fe_if (rfl) (rfl))))))) (fe_if (fe_bd fun q60 => (fe_if (rfl) (fe_bd fun q66 => (fe_if (rfl) (fe_bd fun q71 => (fe_if (rfl) (rfl))))))) (fe_bd fun q49 => (fe_if (rfl) (fe_bd fun q55 => (fe_if (rfl) (rfl))))))))))))
noncomputable def f_X5_readLines (o : Nat)  (m : fm_) : Option (Int32 × fm_) :=
  ((f_X5_readLines_12 o 0 (si_ m 68 3 0)))
def sp_X5_readLines : am_S := fn_sp [(93, fn_F, G_X8_kind), (48, fn_F, G_X5_readHead), (55, fn_F, G_X5_readWhen), (97, fn_F, G_X8_take)]
theorem sm_X5_readLines : am_Smono (sp_X5_readLines) := fn_sp_mono _
def P_X5_readLines (o : Nat) (n : Nat) (r : Nat → Nat → Option Nat) (s : S_X5_readLines) (q : Int32 × fm_) : Prop := match s with
  | (x2, m) => ∀ (Q : Option Value → am_W → Prop) (y3 : Option Value), Q (en_i q).1 (mk_ n r q.2) → am_T m_X5_readLines sp_X5_readLines n Q 12 [some (.ref 68), some (.ref o), some (.int x2), y3] [] (mk_ n r m)
set_option maxRecDepth 100000 in
theorem t_X5_readLines_12 (o : Nat) {n : Nat} {r : Nat → Nat → Option Nat} (hf : fn_F n r) (ho : is_O o = true) (hr : r 68 1 = some o) {K : S_X5_readLines → Option (Int32 × fm_)} {q : Int32 × fm_} (hK : ∀ s, K s = some q → P_X5_readLines o n r s q) (x2 : Int32) (m : fm_)
  (h : am_k K (st_X5_readLines o ((x2, m))) = some q) : P_X5_readLines o n r ((x2, m)) q := fun Q y3 hQ =>
  am_T.wp sm_X5_readLines (K := am_T m_X5_readLines sp_X5_readLines n Q) (cuts := [12]) (fun _ _ _ _ h => h) 44
    (fj_if h (fun c1 h2 => ⟨rfl, Or.inr rfl, fj_rt h2 hQ⟩) (fun c1 h2 => ⟨fn_aF hf rfl rfl, Or.inl ⟨_, hf.2 68 0 1 rfl, fj_bd h2 fun q3 e4 h5 => ⟨Nat.le_of_ble_eq_true rfl, fn_aF hf rfl rfl, ⟨hf, some (.int q3.1), q3.2, gp_X8_kind (n := n) (r := r)  e4, fun _ => fj_if h5 (fun c6 h7 => ⟨rfl, Or.inr rfl, fj_rt h7 hQ⟩) (fun c6 h7 => ⟨fn_aF hf rfl rfl, Or.inl ⟨_, hf.2 68 0 1 rfl, fj_bd h7 fun q8 e9 h10 => ⟨Nat.le_of_ble_eq_true rfl, fn_aF hf rfl rfl, ⟨hf, some (.int q8.1), q8.2, gp_X8_kind (n := n) (r := r)  e9, fun _ => ⟨fn_aF hf rfl rfl, ⟨fn_aF hf rfl rfl, fj_if h10 (fun c11 h12 => fj_bd h12 fun q13 e14 h15 => ⟨Nat.le_of_ble_eq_true rfl, fn_aF hf rfl rfl, ⟨hf, some (.int q13.1), q13.2, gp_X5_readHead (n := n) (r := r) hr ho e14, fun _ => fj_if h15 (fun c16 h17 => ⟨rfl, Or.inl rfl, fj_rt h17 hQ⟩) (fun c16 h17 => ⟨fun c18 => absurd c18 (by decide), fun c18 => fj_bd h17 fun q19 e20 h21 => ⟨Nat.le_of_ble_eq_true rfl, fn_aF hf rfl rfl, ⟨hf, some (.int q19.1), q19.2, gp_X5_readWhen (n := n) (r := r) hr ho e20, fun _ => fj_if h21 (fun c22 h23 => ⟨rfl, Or.inl rfl, fj_rt h23 hQ⟩) (fun c22 h23 => ⟨fn_aF hf rfl rfl, Or.inl ⟨_, hf.2 68 0 1 rfl, fj_bd h23 fun q24 e25 h26 => ⟨Nat.le_of_ble_eq_true rfl, fn_aF hf rfl rfl, ⟨hf, some (.int q24.1), q24.2, gp_X8_take (n := n) (r := r)  e25, fun _ => fj_in h26 (fun c27 h28 => hK _ h28 _ _ hQ) (fun c27 h28 => ⟨rfl, Or.inl rfl, fj_rt h28 hQ⟩)⟩⟩⟩⟩)⟩⟩⟩)⟩⟩) (fun c11 h12 => ⟨fn_aF hf rfl rfl, fj_if h12 (fun c29 h30 => fj_bd h30 fun q31 e32 h33 => ⟨Nat.le_of_ble_eq_true rfl, fn_aF hf rfl rfl, ⟨hf, some (.int q31.1), q31.2, gp_X5_readHead (n := n) (r := r) hr ho e32, fun _ => fj_if h33 (fun c34 h35 => ⟨rfl, Or.inl rfl, fj_rt h35 hQ⟩) (fun c34 h35 => ⟨fun c36 => absurd c36 (by decide), fun c36 => fj_bd h35 fun q37 e38 h39 => ⟨Nat.le_of_ble_eq_true rfl, fn_aF hf rfl rfl, ⟨hf, some (.int q37.1), q37.2, gp_X5_readWhen (n := n) (r := r) hr ho e38, fun _ => fj_if h39 (fun c40 h41 => ⟨rfl, Or.inl rfl, fj_rt h41 hQ⟩) (fun c40 h41 => ⟨fn_aF hf rfl rfl, Or.inl ⟨_, hf.2 68 0 1 rfl, fj_bd h41 fun q42 e43 h44 => ⟨Nat.le_of_ble_eq_true rfl, fn_aF hf rfl rfl, ⟨hf, some (.int q42.1), q42.2, gp_X8_take (n := n) (r := r)  e43, fun _ => fj_in h44 (fun c45 h46 => hK _ h46 _ _ hQ) (fun c45 h46 => ⟨rfl, Or.inl rfl, fj_rt h46 hQ⟩)⟩⟩⟩⟩)⟩⟩⟩)⟩⟩) (fun c29 h30 => ⟨fn_aF hf rfl rfl, fj_in h30 (fun c47 h48 => fj_bd h48 fun q49 e50 h51 => ⟨Nat.le_of_ble_eq_true rfl, fn_aF hf rfl rfl, ⟨hf, some (.int q49.1), q49.2, gp_X5_readHead (n := n) (r := r) hr ho e50, fun _ => fj_if h51 (fun c52 h53 => ⟨rfl, Or.inl rfl, fj_rt h53 hQ⟩) (fun c52 h53 => ⟨fun c54 => ⟨fn_aF hf rfl rfl, Or.inl ⟨_, hf.2 68 0 1 rfl, fj_bd h53 fun q55 e56 h57 => ⟨Nat.le_of_ble_eq_true rfl, fn_aF hf rfl rfl, ⟨hf, some (.int q55.1), q55.2, gp_X8_take (n := n) (r := r)  e56, fun _ => fj_in h57 (fun c58 h59 => hK _ h59 _ _ hQ) (fun c58 h59 => ⟨rfl, Or.inl rfl, fj_rt h59 hQ⟩)⟩⟩⟩⟩, fun c54 => absurd c54 (by decide)⟩)⟩⟩) (fun c47 h48 => fj_bd h48 fun q60 e61 h62 => ⟨Nat.le_of_ble_eq_true rfl, fn_aF hf rfl rfl, ⟨hf, some (.int q60.1), q60.2, gp_X5_readHead (n := n) (r := r) hr ho e61, fun _ => fj_if h62 (fun c63 h64 => ⟨rfl, Or.inl rfl, fj_rt h64 hQ⟩) (fun c63 h64 => ⟨fun c65 => absurd c65 (by decide), fun c65 => fj_bd h64 fun q66 e67 h68 => ⟨Nat.le_of_ble_eq_true rfl, fn_aF hf rfl rfl, ⟨hf, some (.int q66.1), q66.2, gp_X5_readWhen (n := n) (r := r) hr ho e67, fun _ => fj_if h68 (fun c69 h70 => ⟨rfl, Or.inl rfl, fj_rt h70 hQ⟩) (fun c69 h70 => ⟨fn_aF hf rfl rfl, Or.inl ⟨_, hf.2 68 0 1 rfl, fj_bd h70 fun q71 e72 h73 => ⟨Nat.le_of_ble_eq_true rfl, fn_aF hf rfl rfl, ⟨hf, some (.int q71.1), q71.2, gp_X8_take (n := n) (r := r)  e72, fun _ => fj_in h73 (fun c74 h75 => hK _ h75 _ _ hQ) (fun c74 h75 => ⟨rfl, Or.inl rfl, fj_rt h75 hQ⟩)⟩⟩⟩⟩)⟩⟩⟩)⟩⟩)⟩)⟩)⟩⟩⟩⟩⟩⟩)⟩⟩⟩⟩))
theorem l_X5_readLines (o : Nat) {n : Nat} {r : Nat → Nat → Option Nat} (hf : fn_F n r) (ho : is_O o = true) (hr : r 68 1 = some o) (s : S_X5_readLines) (q : Int32 × fm_) (h : am_lp (st_X5_readLines o) s = some q) : P_X5_readLines o n r s q :=
  am_lp_snd (P := P_X5_readLines o n r) (fun K hK s q h => match s, h with
    | (x2, m), h => t_X5_readLines_12 o hf ho hr (fun s => hK s q) x2 m h) s q h
set_option maxRecDepth 100000 in
theorem t_X5_readLines (o : Nat) {n : Nat} {r : Nat → Nat → Option Nat} (hf : fn_F n r) (ho : is_O o = true) {q : Int32 × fm_}  {m : fm_}
  (h : f_X5_readLines o  m = some q) {Q : Option Value → am_W → Prop} (hQ : Q (en_i q).1 (mk_ n (am_u r 68 1 (some o)) q.2)) : am_T m_X5_readLines sp_X5_readLines n Q 0 [some (.ref 68), some (.ref o), none, none] [] (mk_ n r m) :=
  have hf2 := fn_Fu hf o; have hr2 : am_u r 68 1 (some o) 68 1 = some o := fn_u681; am_T.wp sm_X5_readLines (K := am_T m_X5_readLines sp_X5_readLines n Q) (cuts := [12]) (fun _ _ _ _ h => h) 10
    (⟨fn_aF hf rfl rfl, ⟨fn_aF hf2 rfl rfl, l_X5_readLines o hf2 ho hr2 _ _ h _ _ hQ⟩⟩)
noncomputable def G_X5_readLines (n : Nat) (r : Nat → Nat → Option Nat) (as : List Value) (m : fm_) : Option (Option Value × fm_) := match as with
  | [.ref x0, .ref o] => gd_ (Nat.beq x0 68) (gd_ (is_O o) ((f_X5_readLines o m).map en_i))
  | _ => none
set_option maxRecDepth 100000 in
theorem gp_X5_readLines {n : Nat} {r : Nat → Nat → Option Nat} {o : Nat}  {m : fm_} {q : Int32 × fm_} (ho : is_O o = true) (e : f_X5_readLines o m = some q) : G_X5_readLines n r [.ref 68, .ref o] m = some (en_i q) := by
  show (gd_ (Nat.beq 68 68) (gd_ (is_O o) ((f_X5_readLines o m).map en_i))) = _
  exact fn_gd rfl (fn_gd ho (fn_mp e))
set_option maxRecDepth 100000 in
theorem ok_X5_readLines : am_mok 5 47 m_X5_readLines = true := by decide +kernel
set_option maxRecDepth 100000 in
theorem c_X5_readLines (l : Launch) {g : am_G} (hg : fx_ l g) : am_Met l g 23 47 (fn_s2 fn_F G_X5_readLines) := by
  refine am_sound (own := 5) (M := m_X5_readLines) (SP := sp_X5_readLines) hg.1 (by decide +kernel) ok_X5_readLines (by decide +kernel) ?_ (fun q hq hk => absurd hk (am_no61 (M := m_X5_readLines) (by decide +kernel) q hq)) (fn_ext l _ rfl g 5) (Or.inl (by decide +kernel)) ?_ ?_
  · intro q hq hk
    have hm : q.2.2.2.1 ∈ am_cs m_X5_readLines := am_cs_in hq hk
    rw [show am_cs m_X5_readLines = [93, 93, 48, 55, 97] by decide +kernel] at hm
    have hm : q.2.2.2.1 ∈ [48, 55, 93, 97] := (List.all_eq_true.mp (show ([93, 93, 48, 55, 97] : List Nat).all (fun a => decide (a ∈ ([48, 55, 93, 97] : List Nat))) = true by decide +kernel) _ hm |> of_decide_eq_true)
    simp only [List.mem_cons, List.not_mem_nil, or_false] at hm
    rcases hm with hm | hm | hm | hm
    · rw [hm]; exact ⟨3, by omega, c_X5_readHead l hg⟩
    · rw [hm]; exact ⟨22, by omega, c_X5_readWhen l hg⟩
    · rw [hm]; exact ⟨0, by omega, c_X8_kind l hg⟩
    · rw [hm]; exact ⟨1, by omega, c_X8_take l hg⟩
  · intro as w K h
    obtain ⟨hf, y, m1, hG, hK⟩ := h
    unfold G_X5_readLines at hG
    split at hG
    · exact Nat.le_of_ble_eq_true rfl
    · cases hG
  · intro as w K h
    obtain ⟨n, i0, l0, r⟩ := w
    obtain ⟨hf, y, m1, hG, hK⟩ := h
    unfold G_X5_readLines at hG
    split at hG
    · next x0 o =>
      obtain ⟨hx1, hG1⟩ := gd_u hG
      obtain ⟨ho, hG2⟩ := gd_u hG1
      obtain rfl := Nat.eq_of_beq_eq_true hx1
      obtain ⟨q, hq, he⟩ := fn_mu hG2
      obtain ⟨rfl, rfl⟩ := Prod.mk.inj he
      exact t_X5_readLines o hf ho  (m := (i0, l0)) hq (hK _ (fn_Fu hf o))
    · cases hG

/-! == X7_signAt == -/
noncomputable def f_X7_signAt (p1 : Int64) (p2 : Int32) (m : fm_) : Option (Int32 × fm_) :=
  ((some (((Int64.toInt32 (p1 >>> (Int32.toInt64 (8 * p2) &&& 63))) &&& 255), m)))
def sp_X7_signAt : am_S := fn_sp []
theorem sm_X7_signAt : am_Smono (sp_X7_signAt) := fn_sp_mono _
set_option maxRecDepth 100000 in
theorem t_X7_signAt {n : Nat} {r : Nat → Nat → Option Nat} (hf : fn_0 n r) {q : Int32 × fm_} (p1 : Int64) (p2 : Int32) {m : fm_}
  (h : f_X7_signAt p1 p2 m = some q) {Q : Option Value → am_W → Prop} (hQ : Q (en_i q).1 (mk_ n r q.2)) : am_T m_X7_signAt sp_X7_signAt n Q 0 [some (.long p1), none, some (.int p2)] [] (mk_ n r m) :=
  am_T.wp sm_X7_signAt (K := am_T m_X7_signAt sp_X7_signAt n Q) (cuts := []) (fun _ _ _ _ h => h) 10
    (⟨rfl, fh_rt h hQ⟩)
noncomputable def G_X7_signAt (n : Nat) (r : Nat → Nat → Option Nat) (as : List Value) (m : fm_) : Option (Option Value × fm_) := match as with
  | [.long p1, .int p2] => (f_X7_signAt p1 p2 m).map en_i
  | _ => none
set_option maxRecDepth 100000 in
theorem gp_X7_signAt {n : Nat} {r : Nat → Nat → Option Nat}  {p1 : Int64} {p2 : Int32} {m : fm_} {q : Int32 × fm_}  (e : f_X7_signAt p1 p2 m = some q) : G_X7_signAt n r [.long p1, .int p2] m = some (en_i q) := by
  show ((f_X7_signAt p1 p2 m).map en_i) = _
  exact fn_mp e
set_option maxRecDepth 100000 in
theorem ok_X7_signAt : am_mok 7 87 m_X7_signAt = true := by decide +kernel
set_option maxRecDepth 100000 in
theorem c_X7_signAt (l : Launch) {g : am_G} (hg : fx_ l g) : am_Met l g 0 87 (fn_s fn_0 G_X7_signAt) := by
  refine am_sound (own := 7) (M := m_X7_signAt) (SP := sp_X7_signAt) hg.1 (by decide +kernel) ok_X7_signAt (by decide +kernel) ?_ (fun q hq hk => absurd hk (am_no61 (M := m_X7_signAt) (by decide +kernel) q hq)) (fn_ext l _ rfl g 7) (Or.inl (by decide +kernel)) ?_ ?_
  · intro q hq hk
    have hm : q.2.2.2.1 ∈ am_cs m_X7_signAt := am_cs_in hq hk
    rw [show am_cs m_X7_signAt = [] by decide +kernel] at hm
    cases hm
  · intro as w K h
    obtain ⟨hf, y, m1, hG, hK⟩ := h
    unfold G_X7_signAt at hG
    split at hG
    · exact Nat.le_of_ble_eq_true rfl
    · cases hG
  · intro as w K h
    obtain ⟨n, i0, l0, r⟩ := w
    obtain ⟨hf, y, m1, hG, hK⟩ := h
    unfold G_X7_signAt at hG
    split at hG
    · next p1 p2 =>
      obtain ⟨q, hq, he⟩ := fn_mu hG
      obtain ⟨rfl, rfl⟩ := Prod.mk.inj he
      exact t_X7_signAt  hf  p1 p2 (m := (i0, l0)) hq hK
    · cases hG

/-! == X7_areSigns == -/
abbrev S_X7_areSigns : Type := (Int64 × Int32 × Int32 × fm_)
noncomputable def st_X7_areSigns (s : S_X7_areSigns) : Option (S_X7_areSigns ⊕ (Int32 × fm_)) := match s with
  | (x0, x2, x3, m) =>
    (if 6 ≤ x3 then
((some (Sum.inr (1, m))))
else
(Option.bind (f_X7_signAt x0 x3 m) fun q3 =>
(Option.bind (f_X8_isLetter q3.1 q3.2) fun q6 =>
(if q6.1 = 0 then
(Option.bind (f_X8_isDigit q3.1 q6.2) fun q12 =>
(if q12.1 = 0 then
(if x2 = 0 then
((some (Sum.inr (0, q12.2))))
else
(if q3.1 = 63 then
((some (Sum.inl ((x0, x2, (x3 + 1), q12.2)))))
else
((some (Sum.inr (0, q12.2))))))
else
((some (Sum.inl ((x0, x2, (x3 + 1), q12.2)))))))
else
((some (Sum.inl ((x0, x2, (x3 + 1), q6.2)))))))))
noncomputable def f_X7_areSigns_2 (x0 : Int64) (x2 : Int32) (x3 : Int32) (m : fm_) : Option (Int32 × fm_) := am_lp (st_X7_areSigns) ((x0, x2, x3, m))
theorem e_X7_areSigns_2 (x0 : Int64) (x2 : Int32) (x3 : Int32) (m : fm_) : f_X7_areSigns_2 x0 x2 x3 m =
(if 6 ≤ x3 then
((some (1, m)))
else
(Option.bind (f_X7_signAt x0 x3 m) fun q3 =>
(Option.bind (f_X8_isLetter q3.1 q3.2) fun q6 =>
(if q6.1 = 0 then
(Option.bind (f_X8_isDigit q3.1 q6.2) fun q12 =>
(if q12.1 = 0 then
(if x2 = 0 then
((some (0, q12.2)))
else
(if q3.1 = 63 then
((f_X7_areSigns_2 x0 x2 (x3 + 1) q12.2))
else
((some (0, q12.2)))))
else
((f_X7_areSigns_2 x0 x2 (x3 + 1) q12.2))))
else
((f_X7_areSigns_2 x0 x2 (x3 + 1) q6.2)))))) :=
  (am_lp_eq _ _).trans (fe_if (rfl) (fe_bd fun q3 => (fe_bd fun q6 => (fe_if (fe_bd fun q12 => (fe_if (fe_if (rfl) (fe_if (rfl) (rfl))) (rfl))) (rfl)))))
noncomputable def f_X7_areSigns (p1 : Int64) (p2 : Int32) (m : fm_) : Option (Int32 × fm_) :=
  ((f_X7_areSigns_2 p1 p2 0 m))
def sp_X7_areSigns : am_S := fn_sp [(87, fn_0, G_X7_signAt), (113, fn_0, G_X8_isLetter), (112, fn_0, G_X8_isDigit)]
theorem sm_X7_areSigns : am_Smono (sp_X7_areSigns) := fn_sp_mono _
def P_X7_areSigns (n : Nat) (r : Nat → Nat → Option Nat) (s : S_X7_areSigns) (q : Int32 × fm_) : Prop := match s with
  | (x0, x2, x3, m) => ∀ (Q : Option Value → am_W → Prop) (y4 : Option Value) (y5 : Option Value), Q (en_i q).1 (mk_ n r q.2) → am_T m_X7_areSigns sp_X7_areSigns n Q 2 [some (.long x0), none, some (.int x2), some (.int x3), y4, y5] [] (mk_ n r m)
set_option maxRecDepth 100000 in
theorem t_X7_areSigns_2 {n : Nat} {r : Nat → Nat → Option Nat} (hf : fn_0 n r) {K : S_X7_areSigns → Option (Int32 × fm_)} {q : Int32 × fm_} (hK : ∀ s, K s = some q → P_X7_areSigns n r s q) (x0 : Int64) (x2 : Int32) (x3 : Int32) (m : fm_)
  (h : am_k K (st_X7_areSigns ((x0, x2, x3, m))) = some q) : P_X7_areSigns n r ((x0, x2, x3, m)) q := fun Q y4 y5 hQ =>
  am_T.wp sm_X7_areSigns (K := am_T m_X7_areSigns sp_X7_areSigns n Q) (cuts := [2]) (fun _ _ _ _ h => h) 26
    (fj_if h (fun c1 h2 => ⟨rfl, Or.inr rfl, fj_rt h2 hQ⟩) (fun c1 h2 => fj_bd h2 fun q3 e4 h5 => ⟨Nat.le_of_ble_eq_true rfl, trivial, ⟨trivial, some (.int q3.1), q3.2, gp_X7_signAt (n := n) (r := r)  e4, fun _ => fj_bd h5 fun q6 e7 h8 => ⟨Nat.le_of_ble_eq_true rfl, trivial, ⟨trivial, some (.int q6.1), q6.2, gp_X8_isLetter (n := n) (r := r)  e7, fun _ => fj_in h8 (fun c9 h10 => ⟨fun c11 => hK _ h10 _ _ _ hQ, fun c11 => absurd c11 (by decide)⟩) (fun c9 h10 => fj_bd h10 fun q12 e13 h14 => ⟨Nat.le_of_ble_eq_true rfl, trivial, ⟨trivial, some (.int q12.1), q12.2, gp_X8_isDigit (n := n) (r := r)  e13, fun _ => fj_if h14 (fun c15 h16 => ⟨fun c17 => absurd c17 (by decide), fun c17 => fj_if h16 (fun c18 h19 => ⟨rfl, Or.inl rfl, fj_rt h19 hQ⟩) (fun c18 h19 => fj_if h19 (fun c20 h21 => hK _ h21 _ _ _ hQ) (fun c20 h21 => ⟨rfl, Or.inl rfl, fj_rt h21 hQ⟩))⟩) (fun c15 h16 => ⟨fun c22 => hK _ h16 _ _ _ hQ, fun c22 => absurd c22 (by decide)⟩)⟩⟩)⟩⟩⟩⟩))
theorem l_X7_areSigns {n : Nat} {r : Nat → Nat → Option Nat} (hf : fn_0 n r) (s : S_X7_areSigns) (q : Int32 × fm_) (h : am_lp (st_X7_areSigns) s = some q) : P_X7_areSigns n r s q :=
  am_lp_snd (P := P_X7_areSigns n r) (fun K hK s q h => match s, h with
    | (x0, x2, x3, m), h => t_X7_areSigns_2 hf (fun s => hK s q) x0 x2 x3 m h) s q h
set_option maxRecDepth 100000 in
theorem t_X7_areSigns {n : Nat} {r : Nat → Nat → Option Nat} (hf : fn_0 n r) {q : Int32 × fm_} (p1 : Int64) (p2 : Int32) {m : fm_}
  (h : f_X7_areSigns p1 p2 m = some q) {Q : Option Value → am_W → Prop} (hQ : Q (en_i q).1 (mk_ n r q.2)) : am_T m_X7_areSigns sp_X7_areSigns n Q 0 [some (.long p1), none, some (.int p2), none, none, none] [] (mk_ n r m) :=
  am_T.wp sm_X7_areSigns (K := am_T m_X7_areSigns sp_X7_areSigns n Q) (cuts := [2]) (fun _ _ _ _ h => h) 4
    (l_X7_areSigns hf _ _ h _ _ _ hQ)
noncomputable def G_X7_areSigns (n : Nat) (r : Nat → Nat → Option Nat) (as : List Value) (m : fm_) : Option (Option Value × fm_) := match as with
  | [.long p1, .int p2] => (f_X7_areSigns p1 p2 m).map en_i
  | _ => none
set_option maxRecDepth 100000 in
theorem gp_X7_areSigns {n : Nat} {r : Nat → Nat → Option Nat}  {p1 : Int64} {p2 : Int32} {m : fm_} {q : Int32 × fm_}  (e : f_X7_areSigns p1 p2 m = some q) : G_X7_areSigns n r [.long p1, .int p2] m = some (en_i q) := by
  show ((f_X7_areSigns p1 p2 m).map en_i) = _
  exact fn_mp e
set_option maxRecDepth 100000 in
theorem ok_X7_areSigns : am_mok 7 85 m_X7_areSigns = true := by decide +kernel
set_option maxRecDepth 100000 in
theorem c_X7_areSigns (l : Launch) {g : am_G} (hg : fx_ l g) : am_Met l g 1 85 (fn_s fn_0 G_X7_areSigns) := by
  refine am_sound (own := 7) (M := m_X7_areSigns) (SP := sp_X7_areSigns) hg.1 (by decide +kernel) ok_X7_areSigns (by decide +kernel) ?_ (fun q hq hk => absurd hk (am_no61 (M := m_X7_areSigns) (by decide +kernel) q hq)) (fn_ext l _ rfl g 7) (Or.inl (by decide +kernel)) ?_ ?_
  · intro q hq hk
    have hm : q.2.2.2.1 ∈ am_cs m_X7_areSigns := am_cs_in hq hk
    rw [show am_cs m_X7_areSigns = [87, 113, 112] by decide +kernel] at hm
    have hm : q.2.2.2.1 ∈ [87, 112, 113] := (List.all_eq_true.mp (show ([87, 113, 112] : List Nat).all (fun a => decide (a ∈ ([87, 112, 113] : List Nat))) = true by decide +kernel) _ hm |> of_decide_eq_true)
    simp only [List.mem_cons, List.not_mem_nil, or_false] at hm
    rcases hm with hm | hm | hm
    · rw [hm]; exact ⟨0, by omega, c_X7_signAt l hg⟩
    · rw [hm]; exact ⟨0, by omega, c_X8_isDigit l hg⟩
    · rw [hm]; exact ⟨0, by omega, c_X8_isLetter l hg⟩
  · intro as w K h
    obtain ⟨hf, y, m1, hG, hK⟩ := h
    unfold G_X7_areSigns at hG
    split at hG
    · exact Nat.le_of_ble_eq_true rfl
    · cases hG
  · intro as w K h
    obtain ⟨n, i0, l0, r⟩ := w
    obtain ⟨hf, y, m1, hG, hK⟩ := h
    unfold G_X7_areSigns at hG
    split at hG
    · next p1 p2 =>
      obtain ⟨q, hq, he⟩ := fn_mu hG
      obtain ⟨rfl, rfl⟩ := Prod.mk.inj he
      exact t_X7_areSigns  hf  p1 p2 (m := (i0, l0)) hq hK
    · cases hG

/-! == X7_add == -/
abbrev S_X7_add : Type := (Int64 × Int32 × Int32 × fm_)
noncomputable def st_X7_add (s : S_X7_add) : Option (S_X7_add ⊕ (Int32 × fm_)) := match s with
  | (x1, x3, x4, m) =>
    (if (gi_ m 69 2) ≤ x4 then
(gd_ (ix_ (gi_ m 69 2) 10)
(gd_ (ix_ (gi_ m 69 2) 10)
((some (Sum.inr ((((gi_ m 69 2) + 1) - 1), (si_ (si_ (sl_ m 70 (Int32.toNatClampNeg (gi_ m 69 2)) x1) 71 (Int32.toNatClampNeg (gi_ m 69 2)) x3) 69 2 ((gi_ m 69 2) + 1))))))))
else
(gd_ (ix_ x4 10)
(if (lg_cmp (gl_ m 70 (Int32.toNatClampNeg x4)) x1) = 0 then
((some (Sum.inr ((-1), m))))
else
((some (Sum.inl ((x1, x3, (x4 + 1), m))))))))
noncomputable def f_X7_add_31 (x1 : Int64) (x3 : Int32) (x4 : Int32) (m : fm_) : Option (Int32 × fm_) := am_lp (st_X7_add) ((x1, x3, x4, m))
theorem e_X7_add_31 (x1 : Int64) (x3 : Int32) (x4 : Int32) (m : fm_) : f_X7_add_31 x1 x3 x4 m =
(if (gi_ m 69 2) ≤ x4 then
(gd_ (ix_ (gi_ m 69 2) 10)
(gd_ (ix_ (gi_ m 69 2) 10)
((some ((((gi_ m 69 2) + 1) - 1), (si_ (si_ (sl_ m 70 (Int32.toNatClampNeg (gi_ m 69 2)) x1) 71 (Int32.toNatClampNeg (gi_ m 69 2)) x3) 69 2 ((gi_ m 69 2) + 1)))))))
else
(gd_ (ix_ x4 10)
(if (lg_cmp (gl_ m 70 (Int32.toNatClampNeg x4)) x1) = 0 then
((some ((-1), m)))
else
((f_X7_add_31 x1 x3 (x4 + 1) m))))) :=
  (am_lp_eq _ _).trans (fe_if (fe_gd (fe_gd (rfl))) (fe_gd (fe_if (rfl) (rfl))))
noncomputable def f_X7_add (p1 : Int64) (p2 : Int32) (m : fm_) : Option (Int32 × fm_) :=
  (if 10 ≤ (gi_ m 69 2) then
((some ((-1), m)))
else
(Option.bind (f_X11_isUnder p2 10 m) fun q3 =>
(if q3.1 = 0 then
((some ((-1), q3.2)))
else
(Option.bind (f_X7_areSigns p1 0 q3.2) fun q8 =>
(if q8.1 = 0 then
((some ((-1), q8.2)))
else
((f_X7_add_31 p1 p2 0 q8.2)))))))
def sp_X7_add : am_S := fn_sp [(182, fn_0, G_X11_isUnder), (85, fn_0, G_X7_areSigns)]
theorem sm_X7_add : am_Smono (sp_X7_add) := fn_sp_mono _
def P_X7_add (n : Nat) (r : Nat → Nat → Option Nat) (s : S_X7_add) (q : Int32 × fm_) : Prop := match s with
  | (x1, x3, x4, m) => ∀ (Q : Option Value → am_W → Prop), Q (en_i q).1 (mk_ n r q.2) → am_T m_X7_add sp_X7_add n Q 31 [some (.ref 69), some (.long x1), none, some (.int x3), some (.int x4)] [] (mk_ n r m)
set_option maxRecDepth 100000 in
theorem t_X7_add_31 {n : Nat} {r : Nat → Nat → Option Nat} (hf : fn_F n r) {K : S_X7_add → Option (Int32 × fm_)} {q : Int32 × fm_} (hK : ∀ s, K s = some q → P_X7_add n r s q) (x1 : Int64) (x3 : Int32) (x4 : Int32) (m : fm_)
  (h : am_k K (st_X7_add ((x1, x3, x4, m))) = some q) : P_X7_add n r ((x1, x3, x4, m)) q := fun Q hQ =>
  am_T.wp sm_X7_add (K := am_T m_X7_add sp_X7_add n Q) (cuts := [31]) (fun _ _ _ _ h => h) 28
    (⟨fn_aF hf rfl rfl, fj_if h (fun c1 h2 => ⟨fn_aF hf rfl rfl, Or.inl ⟨_, hf.2 69 0 70 rfl, ⟨fn_aF hf rfl rfl, fj_gd h2 fun g4 h3 => ⟨10, fn_aF hf rfl rfl, ix_t g4, ⟨fn_aF hf rfl rfl, Or.inl ⟨_, hf.2 69 1 71 rfl, ⟨fn_aF hf rfl rfl, fj_gd h3 fun g6 h5 => ⟨10, fn_aF hf rfl rfl, ix_t g6, ⟨fn_aF hf rfl rfl, ⟨fn_aF hf rfl rfl, ⟨fn_aF hf rfl rfl, ⟨rfl, fj_rt h5 hQ⟩⟩⟩⟩⟩⟩⟩⟩⟩⟩⟩⟩) (fun c1 h2 => ⟨fn_aF hf rfl rfl, Or.inl ⟨_, hf.2 69 0 70 rfl, fj_gd h2 fun g8 h7 => ⟨10, fn_aF hf rfl rfl, ix_t g8, fj_in h7 (fun c9 h10 => hK _ h10 _ hQ) (fun c9 h10 => ⟨rfl, fj_rt h10 hQ⟩)⟩⟩⟩)⟩)
theorem l_X7_add {n : Nat} {r : Nat → Nat → Option Nat} (hf : fn_F n r) (s : S_X7_add) (q : Int32 × fm_) (h : am_lp (st_X7_add) s = some q) : P_X7_add n r s q :=
  am_lp_snd (P := P_X7_add n r) (fun K hK s q h => match s, h with
    | (x1, x3, x4, m), h => t_X7_add_31 hf (fun s => hK s q) x1 x3 x4 m h) s q h
set_option maxRecDepth 100000 in
theorem t_X7_add {n : Nat} {r : Nat → Nat → Option Nat} (hf : fn_F n r) {q : Int32 × fm_} (p1 : Int64) (p2 : Int32) {m : fm_}
  (h : f_X7_add p1 p2 m = some q) {Q : Option Value → am_W → Prop} (hQ : Q (en_i q).1 (mk_ n r q.2)) : am_T m_X7_add sp_X7_add n Q 0 [some (.ref 69), some (.long p1), none, some (.int p2), none] [] (mk_ n r m) :=
  am_T.wp sm_X7_add (K := am_T m_X7_add sp_X7_add n Q) (cuts := [31]) (fun _ _ _ _ h => h) 16
    (⟨fn_aF hf rfl rfl, fh_if h (fun c1 h2 => ⟨rfl, fh_rt h2 hQ⟩) (fun c1 h2 => fh_bd h2 fun q3 e4 h5 => ⟨Nat.le_of_ble_eq_true rfl, trivial, ⟨trivial, some (.int q3.1), q3.2, gp_X11_isUnder (n := n) (r := r)  e4, fun _ => fh_if h5 (fun c6 h7 => ⟨rfl, fh_rt h7 hQ⟩) (fun c6 h7 => fh_bd h7 fun q8 e9 h10 => ⟨Nat.le_of_ble_eq_true rfl, trivial, ⟨trivial, some (.int q8.1), q8.2, gp_X7_areSigns (n := n) (r := r)  e9, fun _ => fh_in h10 (fun c11 h12 => l_X7_add hf _ _ h12 _ hQ) (fun c11 h12 => ⟨rfl, fh_rt h12 hQ⟩)⟩⟩)⟩⟩)⟩)
noncomputable def G_X7_add (n : Nat) (r : Nat → Nat → Option Nat) (as : List Value) (m : fm_) : Option (Option Value × fm_) := match as with
  | [.ref x0, .long p1, .int p2] => gd_ (Nat.beq x0 69) ((f_X7_add p1 p2 m).map en_i)
  | _ => none
set_option maxRecDepth 100000 in
theorem gp_X7_add {n : Nat} {r : Nat → Nat → Option Nat}  {p1 : Int64} {p2 : Int32} {m : fm_} {q : Int32 × fm_}  (e : f_X7_add p1 p2 m = some q) : G_X7_add n r [.ref 69, .long p1, .int p2] m = some (en_i q) := by
  show (gd_ (Nat.beq 69 69) ((f_X7_add p1 p2 m).map en_i)) = _
  exact fn_gd rfl (fn_mp e)
set_option maxRecDepth 100000 in
theorem ok_X7_add : am_mok 7 84 m_X7_add = true := by decide +kernel
set_option maxRecDepth 100000 in
theorem c_X7_add (l : Launch) {g : am_G} (hg : fx_ l g) : am_Met l g 2 84 (fn_s fn_F G_X7_add) := by
  refine am_sound (own := 7) (M := m_X7_add) (SP := sp_X7_add) hg.1 (by decide +kernel) ok_X7_add (by decide +kernel) ?_ (fun q hq hk => absurd hk (am_no61 (M := m_X7_add) (by decide +kernel) q hq)) (fn_ext l _ rfl g 7) (Or.inl (by decide +kernel)) ?_ ?_
  · intro q hq hk
    have hm : q.2.2.2.1 ∈ am_cs m_X7_add := am_cs_in hq hk
    rw [show am_cs m_X7_add = [182, 85] by decide +kernel] at hm
    have hm : q.2.2.2.1 ∈ [85, 182] := (List.all_eq_true.mp (show ([182, 85] : List Nat).all (fun a => decide (a ∈ ([85, 182] : List Nat))) = true by decide +kernel) _ hm |> of_decide_eq_true)
    simp only [List.mem_cons, List.not_mem_nil, or_false] at hm
    rcases hm with hm | hm
    · rw [hm]; exact ⟨1, by omega, c_X7_areSigns l hg⟩
    · rw [hm]; exact ⟨0, by omega, c_X11_isUnder l hg⟩
  · intro as w K h
    obtain ⟨hf, y, m1, hG, hK⟩ := h
    unfold G_X7_add at hG
    split at hG
    · exact Nat.le_of_ble_eq_true rfl
    · cases hG
  · intro as w K h
    obtain ⟨n, i0, l0, r⟩ := w
    obtain ⟨hf, y, m1, hG, hK⟩ := h
    unfold G_X7_add at hG
    split at hG
    · next x0 p1 p2 =>
      obtain ⟨hx1, hG1⟩ := gd_u hG
      obtain rfl := Nat.eq_of_beq_eq_true hx1
      obtain ⟨q, hq, he⟩ := fn_mu hG1
      obtain ⟨rfl, rfl⟩ := Prod.mk.inj he
      exact t_X7_add  hf  p1 p2 (m := (i0, l0)) hq hK
    · cases hG

/-! == X7_look == -/
noncomputable def f_X7_look (p1 : Int32) (m : fm_) : Option (Int32 × fm_) :=
  (if p1 = 98 then
((some (56, m)))
else
(if p1 = 99 then
((some (p1, m)))
else
(if p1 = 100 then
((some (p1, m)))
else
(if p1 = 101 then
((some (p1, m)))
else
(if p1 = 102 then
((some (p1, m)))
else
(if p1 = 103 then
((some (p1, m)))
else
(if p1 = 104 then
((some (p1, m)))
else
(if p1 = 105 then
((some (49, m)))
else
(if p1 = 106 then
((some (p1, m)))
else
(if p1 = 107 then
((some (p1, m)))
else
(if p1 = 108 then
((some (49, m)))
else
(if p1 = 109 then
((some (p1, m)))
else
(if p1 = 110 then
((some (p1, m)))
else
(if p1 = 111 then
((some (48, m)))
else
(if p1 = 112 then
((some (p1, m)))
else
(if p1 = 113 then
((some (p1, m)))
else
(if p1 = 114 then
((some (p1, m)))
else
(if p1 = 115 then
((some (53, m)))
else
(if p1 = 116 then
((some (p1, m)))
else
(if p1 = 117 then
((some (p1, m)))
else
(if p1 = 118 then
((some (117, m)))
else
(if p1 = 119 then
((some (p1, m)))
else
(if p1 = 120 then
((some (p1, m)))
else
(if p1 = 121 then
((some (p1, m)))
else
(if p1 = 122 then
((some (50, m)))
else
((some (p1, m))))))))))))))))))))))))))))
def sp_X7_look : am_S := fn_sp []
theorem sm_X7_look : am_Smono (sp_X7_look) := fn_sp_mono _
set_option maxRecDepth 100000 in
theorem t_X7_look {n : Nat} {r : Nat → Nat → Option Nat} (hf : fn_0 n r) {q : Int32 × fm_} (p1 : Int32) {m : fm_}
  (h : f_X7_look p1 m = some q) {Q : Option Value → am_W → Prop} (hQ : Q (en_i q).1 (mk_ n r q.2)) : am_T m_X7_look sp_X7_look n Q 0 [some (.int p1)] [] (mk_ n r m) :=
  am_T.wp sm_X7_look (K := am_T m_X7_look sp_X7_look n Q) (cuts := []) (fun _ _ _ _ h => h) 5
    (⟨fun c1 => have h2 := fh_t h c1; ⟨rfl, fh_rt h2 hQ⟩, fun c1 => have h2 := fh_f h c1; am_swc (fh_if h2 (fun c3 h4 => ⟨rfl, fh_rt h4 hQ⟩) (fun c3 h4 => am_swc (fh_if h4 (fun c5 h6 => ⟨rfl, fh_rt h6 hQ⟩) (fun c5 h6 => am_swc (fh_if h6 (fun c7 h8 => ⟨rfl, fh_rt h8 hQ⟩) (fun c7 h8 => am_swc (fh_if h8 (fun c9 h10 => ⟨rfl, fh_rt h10 hQ⟩) (fun c9 h10 => am_swc (fh_if h10 (fun c11 h12 => ⟨rfl, fh_rt h12 hQ⟩) (fun c11 h12 => am_swc (fh_if h12 (fun c13 h14 => ⟨rfl, fh_rt h14 hQ⟩) (fun c13 h14 => am_swc (fh_if h14 (fun c15 h16 => ⟨rfl, fh_rt h16 hQ⟩) (fun c15 h16 => am_swc (fh_if h16 (fun c17 h18 => ⟨rfl, fh_rt h18 hQ⟩) (fun c17 h18 => am_swc (fh_if h18 (fun c19 h20 => ⟨rfl, fh_rt h20 hQ⟩) (fun c19 h20 => am_swc (fh_if h20 (fun c21 h22 => ⟨rfl, fh_rt h22 hQ⟩) (fun c21 h22 => am_swc (fh_if h22 (fun c23 h24 => ⟨rfl, fh_rt h24 hQ⟩) (fun c23 h24 => am_swc (fh_if h24 (fun c25 h26 => ⟨rfl, fh_rt h26 hQ⟩) (fun c25 h26 => am_swc (fh_if h26 (fun c27 h28 => ⟨rfl, fh_rt h28 hQ⟩) (fun c27 h28 => am_swc (fh_if h28 (fun c29 h30 => ⟨rfl, fh_rt h30 hQ⟩) (fun c29 h30 => am_swc (fh_if h30 (fun c31 h32 => ⟨rfl, fh_rt h32 hQ⟩) (fun c31 h32 => am_swc (fh_if h32 (fun c33 h34 => ⟨rfl, fh_rt h34 hQ⟩) (fun c33 h34 => am_swc (fh_if h34 (fun c35 h36 => ⟨rfl, fh_rt h36 hQ⟩) (fun c35 h36 => am_swc (fh_if h36 (fun c37 h38 => ⟨rfl, fh_rt h38 hQ⟩) (fun c37 h38 => am_swc (fh_if h38 (fun c39 h40 => ⟨rfl, fh_rt h40 hQ⟩) (fun c39 h40 => am_swc (fh_if h40 (fun c41 h42 => ⟨rfl, fh_rt h42 hQ⟩) (fun c41 h42 => am_swc (fh_if h42 (fun c43 h44 => ⟨rfl, fh_rt h44 hQ⟩) (fun c43 h44 => am_swc (fh_if h44 (fun c45 h46 => ⟨rfl, fh_rt h46 hQ⟩) (fun c45 h46 => am_swc (fh_if h46 (fun c47 h48 => ⟨rfl, fh_rt h48 hQ⟩) (fun c47 h48 => am_swc (fh_if h48 (fun c49 h50 => ⟨rfl, fh_rt h50 hQ⟩) (fun c49 h50 => am_swn (⟨rfl, fh_rt h50 hQ⟩)))))))))))))))))))))))))))))))))))))))))))))))))⟩)
noncomputable def G_X7_look (n : Nat) (r : Nat → Nat → Option Nat) (as : List Value) (m : fm_) : Option (Option Value × fm_) := match as with
  | [.int p1] => (f_X7_look p1 m).map en_i
  | _ => none
set_option maxRecDepth 100000 in
theorem gp_X7_look {n : Nat} {r : Nat → Nat → Option Nat}  {p1 : Int32} {m : fm_} {q : Int32 × fm_}  (e : f_X7_look p1 m = some q) : G_X7_look n r [.int p1] m = some (en_i q) := by
  show ((f_X7_look p1 m).map en_i) = _
  exact fn_mp e
set_option maxRecDepth 100000 in
theorem ok_X7_look : am_mok 7 88 m_X7_look = true := by decide +kernel
set_option maxRecDepth 100000 in
theorem c_X7_look (l : Launch) {g : am_G} (hg : fx_ l g) : am_Met l g 0 88 (fn_s fn_0 G_X7_look) := by
  refine am_sound (own := 7) (M := m_X7_look) (SP := sp_X7_look) hg.1 (by decide +kernel) ok_X7_look (by decide +kernel) ?_ (fun q hq hk => absurd hk (am_no61 (M := m_X7_look) (by decide +kernel) q hq)) (fn_ext l _ rfl g 7) (Or.inl (by decide +kernel)) ?_ ?_
  · intro q hq hk
    have hm : q.2.2.2.1 ∈ am_cs m_X7_look := am_cs_in hq hk
    rw [show am_cs m_X7_look = [] by decide +kernel] at hm
    cases hm
  · intro as w K h
    obtain ⟨hf, y, m1, hG, hK⟩ := h
    unfold G_X7_look at hG
    split at hG
    · exact Nat.le_of_ble_eq_true rfl
    · cases hG
  · intro as w K h
    obtain ⟨n, i0, l0, r⟩ := w
    obtain ⟨hf, y, m1, hG, hK⟩ := h
    unfold G_X7_look at hG
    split at hG
    · next p1 =>
      obtain ⟨q, hq, he⟩ := fn_mu hG
      obtain ⟨rfl, rfl⟩ := Prod.mk.inj he
      exact t_X7_look  hf  p1 (m := (i0, l0)) hq hK
    · cases hG

/-! == X7_likeness == -/
abbrev S_X7_likeness : Type := (Int64 × Int64 × Int32 × Int32 × fm_)
noncomputable def st_X7_likeness (s : S_X7_likeness) : Option (S_X7_likeness ⊕ (Int32 × fm_)) := match s with
  | (x0, x2, x4, x5, m) =>
    (if 6 ≤ x5 then
(if 2 < x4 then
((some (Sum.inr (9, m))))
else
((some (Sum.inr (x4, m)))))
else
(Option.bind (f_X7_signAt x0 x5 m) fun q5 =>
(Option.bind (f_X7_signAt x2 x5 q5.2) fun q8 =>
(if q5.1 = q8.1 then
((some (Sum.inl ((x0, x2, x4, (x5 + 1), q8.2)))))
else
(if q5.1 = 63 then
((some (Sum.inl ((x0, x2, (x4 + 1), (x5 + 1), q8.2)))))
else
(Option.bind (f_X7_look q5.1 q8.2) fun q15 =>
(Option.bind (f_X7_look q8.1 q15.2) fun q18 =>
(if q15.1 = q18.1 then
((some (Sum.inl ((x0, x2, (x4 + 1), (x5 + 1), q18.2)))))
else
((some (Sum.inr (9, q18.2))))))))))))
noncomputable def f_X7_likeness_6 (x0 : Int64) (x2 : Int64) (x4 : Int32) (x5 : Int32) (m : fm_) : Option (Int32 × fm_) := am_lp (st_X7_likeness) ((x0, x2, x4, x5, m))
theorem e_X7_likeness_6 (x0 : Int64) (x2 : Int64) (x4 : Int32) (x5 : Int32) (m : fm_) : f_X7_likeness_6 x0 x2 x4 x5 m =
(if 6 ≤ x5 then
(if 2 < x4 then
((some (9, m)))
else
((some (x4, m))))
else
(Option.bind (f_X7_signAt x0 x5 m) fun q5 =>
(Option.bind (f_X7_signAt x2 x5 q5.2) fun q8 =>
(if q5.1 = q8.1 then
((f_X7_likeness_6 x0 x2 x4 (x5 + 1) q8.2))
else
(if q5.1 = 63 then
((f_X7_likeness_6 x0 x2 (x4 + 1) (x5 + 1) q8.2))
else
(Option.bind (f_X7_look q5.1 q8.2) fun q15 =>
(Option.bind (f_X7_look q8.1 q15.2) fun q18 =>
(if q15.1 = q18.1 then
((f_X7_likeness_6 x0 x2 (x4 + 1) (x5 + 1) q18.2))
else
((some (9, q18.2))))))))))) :=
  (am_lp_eq _ _).trans (fe_if (fe_if (rfl) (rfl)) (fe_bd fun q5 => (fe_bd fun q8 => (fe_if (rfl) (fe_if (rfl) (fe_bd fun q15 => (fe_bd fun q18 => (fe_if (rfl) (rfl)))))))))
noncomputable def f_X7_likeness (p1 : Int64) (p2 : Int64) (m : fm_) : Option (Int32 × fm_) :=
  ((f_X7_likeness_6 p1 p2 0 0 m))
def sp_X7_likeness : am_S := fn_sp [(87, fn_0, G_X7_signAt), (88, fn_0, G_X7_look)]
theorem sm_X7_likeness : am_Smono (sp_X7_likeness) := fn_sp_mono _
def P_X7_likeness (n : Nat) (r : Nat → Nat → Option Nat) (s : S_X7_likeness) (q : Int32 × fm_) : Prop := match s with
  | (x0, x2, x4, x5, m) => ∀ (Q : Option Value → am_W → Prop) (y6 : Option Value) (y7 : Option Value), Q (en_i q).1 (mk_ n r q.2) → am_T m_X7_likeness sp_X7_likeness n Q 6 [some (.long x0), none, some (.long x2), none, some (.int x4), some (.int x5), y6, y7] [] (mk_ n r m)
set_option maxRecDepth 100000 in
theorem t_X7_likeness_6 {n : Nat} {r : Nat → Nat → Option Nat} (hf : fn_0 n r) {K : S_X7_likeness → Option (Int32 × fm_)} {q : Int32 × fm_} (hK : ∀ s, K s = some q → P_X7_likeness n r s q) (x0 : Int64) (x2 : Int64) (x4 : Int32) (x5 : Int32) (m : fm_)
  (h : am_k K (st_X7_likeness ((x0, x2, x4, x5, m))) = some q) : P_X7_likeness n r ((x0, x2, x4, x5, m)) q := fun Q y6 y7 hQ =>
  am_T.wp sm_X7_likeness (K := am_T m_X7_likeness sp_X7_likeness n Q) (cuts := [6]) (fun _ _ _ _ h => h) 27
    (fj_if h (fun c1 h2 => fj_if h2 (fun c3 h4 => ⟨rfl, fj_rt h4 hQ⟩) (fun c3 h4 => ⟨rfl, fj_rt h4 hQ⟩)) (fun c1 h2 => fj_bd h2 fun q5 e6 h7 => ⟨Nat.le_of_ble_eq_true rfl, trivial, ⟨trivial, some (.int q5.1), q5.2, gp_X7_signAt (n := n) (r := r)  e6, fun _ => fj_bd h7 fun q8 e9 h10 => ⟨Nat.le_of_ble_eq_true rfl, trivial, ⟨trivial, some (.int q8.1), q8.2, gp_X7_signAt (n := n) (r := r)  e9, fun _ => fj_in h10 (fun c11 h12 => fj_if h12 (fun c13 h14 => hK _ h14 _ _ _ hQ) (fun c13 h14 => fj_bd h14 fun q15 e16 h17 => ⟨Nat.le_of_ble_eq_true rfl, trivial, ⟨trivial, some (.int q15.1), q15.2, gp_X7_look (n := n) (r := r)  e16, fun _ => fj_bd h17 fun q18 e19 h20 => ⟨Nat.le_of_ble_eq_true rfl, trivial, ⟨trivial, some (.int q18.1), q18.2, gp_X7_look (n := n) (r := r)  e19, fun _ => fj_if h20 (fun c21 h22 => hK _ h22 _ _ _ hQ) (fun c21 h22 => ⟨rfl, fj_rt h22 hQ⟩)⟩⟩⟩⟩)) (fun c11 h12 => hK _ h12 _ _ _ hQ)⟩⟩⟩⟩))
theorem l_X7_likeness {n : Nat} {r : Nat → Nat → Option Nat} (hf : fn_0 n r) (s : S_X7_likeness) (q : Int32 × fm_) (h : am_lp (st_X7_likeness) s = some q) : P_X7_likeness n r s q :=
  am_lp_snd (P := P_X7_likeness n r) (fun K hK s q h => match s, h with
    | (x0, x2, x4, x5, m), h => t_X7_likeness_6 hf (fun s => hK s q) x0 x2 x4 x5 m h) s q h
set_option maxRecDepth 100000 in
theorem t_X7_likeness {n : Nat} {r : Nat → Nat → Option Nat} (hf : fn_0 n r) {q : Int32 × fm_} (p1 : Int64) (p2 : Int64) {m : fm_}
  (h : f_X7_likeness p1 p2 m = some q) {Q : Option Value → am_W → Prop} (hQ : Q (en_i q).1 (mk_ n r q.2)) : am_T m_X7_likeness sp_X7_likeness n Q 0 [some (.long p1), none, some (.long p2), none, none, none, none, none] [] (mk_ n r m) :=
  am_T.wp sm_X7_likeness (K := am_T m_X7_likeness sp_X7_likeness n Q) (cuts := [6]) (fun _ _ _ _ h => h) 6
    (l_X7_likeness hf _ _ h _ _ _ hQ)
noncomputable def G_X7_likeness (n : Nat) (r : Nat → Nat → Option Nat) (as : List Value) (m : fm_) : Option (Option Value × fm_) := match as with
  | [.long p1, .long p2] => (f_X7_likeness p1 p2 m).map en_i
  | _ => none
set_option maxRecDepth 100000 in
theorem gp_X7_likeness {n : Nat} {r : Nat → Nat → Option Nat}  {p1 : Int64} {p2 : Int64} {m : fm_} {q : Int32 × fm_}  (e : f_X7_likeness p1 p2 m = some q) : G_X7_likeness n r [.long p1, .long p2] m = some (en_i q) := by
  show ((f_X7_likeness p1 p2 m).map en_i) = _
  exact fn_mp e
set_option maxRecDepth 100000 in
theorem ok_X7_likeness : am_mok 7 86 m_X7_likeness = true := by decide +kernel
set_option maxRecDepth 100000 in
theorem c_X7_likeness (l : Launch) {g : am_G} (hg : fx_ l g) : am_Met l g 1 86 (fn_s fn_0 G_X7_likeness) := by
  refine am_sound (own := 7) (M := m_X7_likeness) (SP := sp_X7_likeness) hg.1 (by decide +kernel) ok_X7_likeness (by decide +kernel) ?_ (fun q hq hk => absurd hk (am_no61 (M := m_X7_likeness) (by decide +kernel) q hq)) (fn_ext l _ rfl g 7) (Or.inl (by decide +kernel)) ?_ ?_
  · intro q hq hk
    have hm : q.2.2.2.1 ∈ am_cs m_X7_likeness := am_cs_in hq hk
    rw [show am_cs m_X7_likeness = [87, 87, 88, 88] by decide +kernel] at hm
    have hm : q.2.2.2.1 ∈ [87, 88] := (List.all_eq_true.mp (show ([87, 87, 88, 88] : List Nat).all (fun a => decide (a ∈ ([87, 88] : List Nat))) = true by decide +kernel) _ hm |> of_decide_eq_true)
    simp only [List.mem_cons, List.not_mem_nil, or_false] at hm
    rcases hm with hm | hm
    · rw [hm]; exact ⟨0, by omega, c_X7_signAt l hg⟩
    · rw [hm]; exact ⟨0, by omega, c_X7_look l hg⟩
  · intro as w K h
    obtain ⟨hf, y, m1, hG, hK⟩ := h
    unfold G_X7_likeness at hG
    split at hG
    · exact Nat.le_of_ble_eq_true rfl
    · cases hG
  · intro as w K h
    obtain ⟨n, i0, l0, r⟩ := w
    obtain ⟨hf, y, m1, hG, hK⟩ := h
    unfold G_X7_likeness at hG
    split at hG
    · next p1 p2 =>
      obtain ⟨q, hq, he⟩ := fn_mu hG
      obtain ⟨rfl, rfl⟩ := Prod.mk.inj he
      exact t_X7_likeness  hf  p1 p2 (m := (i0, l0)) hq hK
    · cases hG

/-! == X1_add == -/
noncomputable def f_X1_add (p1 : Int32) (p2 : Int32) (p3 : Int32) (p4 : Int32) (m : fm_) : Option (Int32 × fm_) :=
  (if (gi_ m 72 7) < 200 then
(gd_ (ix_ (gi_ m 72 7) 200)
(gd_ (ix_ (gi_ m 72 7) 200)
(gd_ (ix_ (gi_ m 72 7) 200)
(gd_ (ix_ (gi_ m 72 7) 200)
(gd_ (ix_ (gi_ m 72 7) 200)
(gd_ (ix_ (gi_ m 72 7) 200)
((some ((((gi_ m 72 7) + 1) - 1), (si_ (si_ (si_ (si_ (si_ (si_ (si_ m 73 (Int32.toNatClampNeg (gi_ m 72 7)) p1) 74 (Int32.toNatClampNeg (gi_ m 72 7)) (gi_ m 72 8)) 75 (Int32.toNatClampNeg (gi_ m 72 7)) (-1)) 76 (Int32.toNatClampNeg (gi_ m 72 7)) p2) 77 (Int32.toNatClampNeg (gi_ m 72 7)) p3) 78 (Int32.toNatClampNeg (gi_ m 72 7)) p4) 72 7 ((gi_ m 72 7) + 1)))))))))))
else
((some ((-1), m))))
def sp_X1_add : am_S := fn_sp []
theorem sm_X1_add : am_Smono (sp_X1_add) := fn_sp_mono _
set_option maxRecDepth 100000 in
theorem t_X1_add {n : Nat} {r : Nat → Nat → Option Nat} (hf : fn_F n r) {q : Int32 × fm_} (p1 : Int32) (p2 : Int32) (p3 : Int32) (p4 : Int32) {m : fm_}
  (h : f_X1_add p1 p2 p3 p4 m = some q) {Q : Option Value → am_W → Prop} (hQ : Q (en_i q).1 (mk_ n r q.2)) : am_T m_X1_add sp_X1_add n Q 0 [some (.ref 72), some (.int p1), some (.int p2), some (.int p3), some (.int p4)] [] (mk_ n r m) :=
  am_T.wp sm_X1_add (K := am_T m_X1_add sp_X1_add n Q) (cuts := []) (fun _ _ _ _ h => h) 53
    (⟨fn_aF hf rfl rfl, fh_if h (fun c1 h2 => ⟨fn_aF hf rfl rfl, Or.inl ⟨_, hf.2 72 0 73 rfl, ⟨fn_aF hf rfl rfl, fh_gd h2 fun g4 h3 => ⟨200, fn_aF hf rfl rfl, ix_t g4, ⟨fn_aF hf rfl rfl, Or.inl ⟨_, hf.2 72 1 74 rfl, ⟨fn_aF hf rfl rfl, ⟨fn_aF hf rfl rfl, fh_gd h3 fun g6 h5 => ⟨200, fn_aF hf rfl rfl, ix_t g6, ⟨fn_aF hf rfl rfl, Or.inl ⟨_, hf.2 72 2 75 rfl, ⟨fn_aF hf rfl rfl, fh_gd h5 fun g8 h7 => ⟨200, fn_aF hf rfl rfl, ix_t g8, ⟨fn_aF hf rfl rfl, Or.inl ⟨_, hf.2 72 3 76 rfl, ⟨fn_aF hf rfl rfl, fh_gd h7 fun g10 h9 => ⟨200, fn_aF hf rfl rfl, ix_t g10, ⟨fn_aF hf rfl rfl, Or.inl ⟨_, hf.2 72 4 77 rfl, ⟨fn_aF hf rfl rfl, fh_gd h9 fun g12 h11 => ⟨200, fn_aF hf rfl rfl, ix_t g12, ⟨fn_aF hf rfl rfl, Or.inl ⟨_, hf.2 72 5 78 rfl, ⟨fn_aF hf rfl rfl, fh_gd h11 fun g14 h13 => ⟨200, fn_aF hf rfl rfl, ix_t g14, ⟨fn_aF hf rfl rfl, ⟨fn_aF hf rfl rfl, ⟨fn_aF hf rfl rfl, ⟨rfl, fh_rt h13 hQ⟩⟩⟩⟩⟩⟩⟩⟩⟩⟩⟩⟩⟩⟩⟩⟩⟩⟩⟩⟩⟩⟩⟩⟩⟩⟩⟩⟩⟩) (fun c1 h2 => ⟨rfl, fh_rt h2 hQ⟩)⟩)
noncomputable def G_X1_add (n : Nat) (r : Nat → Nat → Option Nat) (as : List Value) (m : fm_) : Option (Option Value × fm_) := match as with
  | [.ref x0, .int p1, .int p2, .int p3, .int p4] => gd_ (Nat.beq x0 72) ((f_X1_add p1 p2 p3 p4 m).map en_i)
  | _ => none
set_option maxRecDepth 100000 in
theorem gp_X1_add {n : Nat} {r : Nat → Nat → Option Nat}  {p1 : Int32} {p2 : Int32} {p3 : Int32} {p4 : Int32} {m : fm_} {q : Int32 × fm_}  (e : f_X1_add p1 p2 p3 p4 m = some q) : G_X1_add n r [.ref 72, .int p1, .int p2, .int p3, .int p4] m = some (en_i q) := by
  show (gd_ (Nat.beq 72 72) ((f_X1_add p1 p2 p3 p4 m).map en_i)) = _
  exact fn_gd rfl (fn_mp e)
set_option maxRecDepth 100000 in
theorem ok_X1_add : am_mok 1 22 m_X1_add = true := by decide +kernel
set_option maxRecDepth 100000 in
theorem c_X1_add (l : Launch) {g : am_G} (hg : fx_ l g) : am_Met l g 0 22 (fn_s fn_F G_X1_add) := by
  refine am_sound (own := 1) (M := m_X1_add) (SP := sp_X1_add) hg.1 (by decide +kernel) ok_X1_add (by decide +kernel) ?_ (fun q hq hk => absurd hk (am_no61 (M := m_X1_add) (by decide +kernel) q hq)) (fn_ext l _ rfl g 1) (Or.inl (by decide +kernel)) ?_ ?_
  · intro q hq hk
    have hm : q.2.2.2.1 ∈ am_cs m_X1_add := am_cs_in hq hk
    rw [show am_cs m_X1_add = [] by decide +kernel] at hm
    cases hm
  · intro as w K h
    obtain ⟨hf, y, m1, hG, hK⟩ := h
    unfold G_X1_add at hG
    split at hG
    · exact Nat.le_of_ble_eq_true rfl
    · cases hG
  · intro as w K h
    obtain ⟨n, i0, l0, r⟩ := w
    obtain ⟨hf, y, m1, hG, hK⟩ := h
    unfold G_X1_add at hG
    split at hG
    · next x0 p1 p2 p3 p4 =>
      obtain ⟨hx1, hG1⟩ := gd_u hG
      obtain rfl := Nat.eq_of_beq_eq_true hx1
      obtain ⟨q, hq, he⟩ := fn_mu hG1
      obtain ⟨rfl, rfl⟩ := Prod.mk.inj he
      exact t_X1_add  hf  p1 p2 p3 p4 (m := (i0, l0)) hq hK
    · cases hG

