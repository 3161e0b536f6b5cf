/-! == J6_numberOfTrailingZeros_0f7a4 == -/
noncomputable def f_J6_numberOfTrailingZeros_0f7a4 (p1 : Int32) (m : fm_) : Option (Int32 × fm_) :=
  (if 0 < ((p1 ^^^ (-1)) &&& (p1 - 1)) then
(if ((p1 ^^^ (-1)) &&& (p1 - 1)) ≤ 65536 then
(if ((p1 ^^^ (-1)) &&& (p1 - 1)) ≤ 256 then
(if ((p1 ^^^ (-1)) &&& (p1 - 1)) ≤ 16 then
(if ((p1 ^^^ (-1)) &&& (p1 - 1)) ≤ 4 then
((some ((1 + (Int32.toUInt32 ((p1 ^^^ (-1)) &&& (p1 - 1)) >>> (Int32.toUInt32 1 &&& Int32.toUInt32 31)).toInt32), m)))
else
((some (((1 + 2) + (Int32.toUInt32 (Int32.toUInt32 ((p1 ^^^ (-1)) &&& (p1 - 1)) >>> (Int32.toUInt32 2 &&& Int32.toUInt32 31)).toInt32 >>> (Int32.toUInt32 1 &&& Int32.toUInt32 31)).toInt32), m))))
else
(if (Int32.toUInt32 ((p1 ^^^ (-1)) &&& (p1 - 1)) >>> (Int32.toUInt32 4 &&& Int32.toUInt32 31)).toInt32 ≤ 4 then
((some (((1 + 4) + (Int32.toUInt32 (Int32.toUInt32 ((p1 ^^^ (-1)) &&& (p1 - 1)) >>> (Int32.toUInt32 4 &&& Int32.toUInt32 31)).toInt32 >>> (Int32.toUInt32 1 &&& Int32.toUInt32 31)).toInt32), m)))
else
((some ((((1 + 4) + 2) + (Int32.toUInt32 (Int32.toUInt32 (Int32.toUInt32 ((p1 ^^^ (-1)) &&& (p1 - 1)) >>> (Int32.toUInt32 4 &&& Int32.toUInt32 31)).toInt32 >>> (Int32.toUInt32 2 &&& Int32.toUInt32 31)).toInt32 >>> (Int32.toUInt32 1 &&& Int32.toUInt32 31)).toInt32), m)))))
else
(if (Int32.toUInt32 ((p1 ^^^ (-1)) &&& (p1 - 1)) >>> (Int32.toUInt32 8 &&& Int32.toUInt32 31)).toInt32 ≤ 16 then
(if (Int32.toUInt32 ((p1 ^^^ (-1)) &&& (p1 - 1)) >>> (Int32.toUInt32 8 &&& Int32.toUInt32 31)).toInt32 ≤ 4 then
((some (((1 + 8) + (Int32.toUInt32 (Int32.toUInt32 ((p1 ^^^ (-1)) &&& (p1 - 1)) >>> (Int32.toUInt32 8 &&& Int32.toUInt32 31)).toInt32 >>> (Int32.toUInt32 1 &&& Int32.toUInt32 31)).toInt32), m)))
else
((some ((((1 + 8) + 2) + (Int32.toUInt32 (Int32.toUInt32 (Int32.toUInt32 ((p1 ^^^ (-1)) &&& (p1 - 1)) >>> (Int32.toUInt32 8 &&& Int32.toUInt32 31)).toInt32 >>> (Int32.toUInt32 2 &&& Int32.toUInt32 31)).toInt32 >>> (Int32.toUInt32 1 &&& Int32.toUInt32 31)).toInt32), m))))
else
(if (Int32.toUInt32 (Int32.toUInt32 ((p1 ^^^ (-1)) &&& (p1 - 1)) >>> (Int32.toUInt32 8 &&& Int32.toUInt32 31)).toInt32 >>> (Int32.toUInt32 4 &&& Int32.toUInt32 31)).toInt32 ≤ 4 then
((some ((((1 + 8) + 4) + (Int32.toUInt32 (Int32.toUInt32 (Int32.toUInt32 ((p1 ^^^ (-1)) &&& (p1 - 1)) >>> (Int32.toUInt32 8 &&& Int32.toUInt32 31)).toInt32 >>> (Int32.toUInt32 4 &&& Int32.toUInt32 31)).toInt32 >>> (Int32.toUInt32 1 &&& Int32.toUInt32 31)).toInt32), m)))
else
((some (((((1 + 8) + 4) + 2) + (Int32.toUInt32 (Int32.toUInt32 (Int32.toUInt32 (Int32.toUInt32 ((p1 ^^^ (-1)) &&& (p1 - 1)) >>> (Int32.toUInt32 8 &&& Int32.toUInt32 31)).toInt32 >>> (Int32.toUInt32 4 &&& Int32.toUInt32 31)).toInt32 >>> (Int32.toUInt32 2 &&& Int32.toUInt32 31)).toInt32 >>> (Int32.toUInt32 1 &&& Int32.toUInt32 31)).toInt32), m))))))
else
(if (Int32.toUInt32 ((p1 ^^^ (-1)) &&& (p1 - 1)) >>> (Int32.toUInt32 16 &&& Int32.toUInt32 31)).toInt32 ≤ 256 then
(if (Int32.toUInt32 ((p1 ^^^ (-1)) &&& (p1 - 1)) >>> (Int32.toUInt32 16 &&& Int32.toUInt32 31)).toInt32 ≤ 16 then
(if (Int32.toUInt32 ((p1 ^^^ (-1)) &&& (p1 - 1)) >>> (Int32.toUInt32 16 &&& Int32.toUInt32 31)).toInt32 ≤ 4 then
((some (((1 + 16) + (Int32.toUInt32 (Int32.toUInt32 ((p1 ^^^ (-1)) &&& (p1 - 1)) >>> (Int32.toUInt32 16 &&& Int32.toUInt32 31)).toInt32 >>> (Int32.toUInt32 1 &&& Int32.toUInt32 31)).toInt32), m)))
else
((some ((((1 + 16) + 2) + (Int32.toUInt32 (Int32.toUInt32 (Int32.toUInt32 ((p1 ^^^ (-1)) &&& (p1 - 1)) >>> (Int32.toUInt32 16 &&& Int32.toUInt32 31)).toInt32 >>> (Int32.toUInt32 2 &&& Int32.toUInt32 31)).toInt32 >>> (Int32.toUInt32 1 &&& Int32.toUInt32 31)).toInt32), m))))
else
(if (Int32.toUInt32 (Int32.toUInt32 ((p1 ^^^ (-1)) &&& (p1 - 1)) >>> (Int32.toUInt32 16 &&& Int32.toUInt32 31)).toInt32 >>> (Int32.toUInt32 4 &&& Int32.toUInt32 31)).toInt32 ≤ 4 then
((some ((((1 + 16) + 4) + (Int32.toUInt32 (Int32.toUInt32 (Int32.toUInt32 ((p1 ^^^ (-1)) &&& (p1 - 1)) >>> (Int32.toUInt32 16 &&& Int32.toUInt32 31)).toInt32 >>> (Int32.toUInt32 4 &&& Int32.toUInt32 31)).toInt32 >>> (Int32.toUInt32 1 &&& Int32.toUInt32 31)).toInt32), m)))
else
((some (((((1 + 16) + 4) + 2) + (Int32.toUInt32 (Int32.toUInt32 (Int32.toUInt32 (Int32.toUInt32 ((p1 ^^^ (-1)) &&& (p1 - 1)) >>> (Int32.toUInt32 16 &&& Int32.toUInt32 31)).toInt32 >>> (Int32.toUInt32 4 &&& Int32.toUInt32 31)).toInt32 >>> (Int32.toUInt32 2 &&& Int32.toUInt32 31)).toInt32 >>> (Int32.toUInt32 1 &&& Int32.toUInt32 31)).toInt32), m)))))
else
(if (Int32.toUInt32 (Int32.toUInt32 ((p1 ^^^ (-1)) &&& (p1 - 1)) >>> (Int32.toUInt32 16 &&& Int32.toUInt32 31)).toInt32 >>> (Int32.toUInt32 8 &&& Int32.toUInt32 31)).toInt32 ≤ 16 then
(if (Int32.toUInt32 (Int32.toUInt32 ((p1 ^^^ (-1)) &&& (p1 - 1)) >>> (Int32.toUInt32 16 &&& Int32.toUInt32 31)).toInt32 >>> (Int32.toUInt32 8 &&& Int32.toUInt32 31)).toInt32 ≤ 4 then
((some ((((1 + 16) + 8) + (Int32.toUInt32 (Int32.toUInt32 (Int32.toUInt32 ((p1 ^^^ (-1)) &&& (p1 - 1)) >>> (Int32.toUInt32 16 &&& Int32.toUInt32 31)).toInt32 >>> (Int32.toUInt32 8 &&& Int32.toUInt32 31)).toInt32 >>> (Int32.toUInt32 1 &&& Int32.toUInt32 31)).toInt32), m)))
else
((some (((((1 + 16) + 8) + 2) + (Int32.toUInt32 (Int32.toUInt32 (Int32.toUInt32 (Int32.toUInt32 ((p1 ^^^ (-1)) &&& (p1 - 1)) >>> (Int32.toUInt32 16 &&& Int32.toUInt32 31)).toInt32 >>> (Int32.toUInt32 8 &&& Int32.toUInt32 31)).toInt32 >>> (Int32.toUInt32 2 &&& Int32.toUInt32 31)).toInt32 >>> (Int32.toUInt32 1 &&& Int32.toUInt32 31)).toInt32), m))))
else
(if (Int32.toUInt32 (Int32.toUInt32 (Int32.toUInt32 ((p1 ^^^ (-1)) &&& (p1 - 1)) >>> (Int32.toUInt32 16 &&& Int32.toUInt32 31)).toInt32 >>> (Int32.toUInt32 8 &&& Int32.toUInt32 31)).toInt32 >>> (Int32.toUInt32 4 &&& Int32.toUInt32 31)).toInt32 ≤ 4 then
((some (((((1 + 16) + 8) + 4) + (Int32.toUInt32 (Int32.toUInt32 (Int32.toUInt32 (Int32.toUInt32 ((p1 ^^^ (-1)) &&& (p1 - 1)) >>> (Int32.toUInt32 16 &&& Int32.toUInt32 31)).toInt32 >>> (Int32.toUInt32 8 &&& Int32.toUInt32 31)).toInt32 >>> (Int32.toUInt32 4 &&& Int32.toUInt32 31)).toInt32 >>> (Int32.toUInt32 1 &&& Int32.toUInt32 31)).toInt32), m)))
else
((some ((((((1 + 16) + 8) + 4) + 2) + (Int32.toUInt32 (Int32.toUInt32 (Int32.toUInt32 (Int32.toUInt32 (Int32.toUInt32 ((p1 ^^^ (-1)) &&& (p1 - 1)) >>> (Int32.toUInt32 16 &&& Int32.toUInt32 31)).toInt32 >>> (Int32.toUInt32 8 &&& Int32.toUInt32 31)).toInt32 >>> (Int32.toUInt32 4 &&& Int32.toUInt32 31)).toInt32 >>> (Int32.toUInt32 2 &&& Int32.toUInt32 31)).toInt32 >>> (Int32.toUInt32 1 &&& Int32.toUInt32 31)).toInt32), m)))))))
else
((some ((((p1 ^^^ (-1)) &&& (p1 - 1)) &&& 32), m))))
def sp_J6_numberOfTrailingZeros_0f7a4 : am_S := fn_sp []
theorem sm_J6_numberOfTrailingZeros_0f7a4 : am_Smono (sp_J6_numberOfTrailingZeros_0f7a4) := fn_sp_mono _
set_option maxRecDepth 100000 in
theorem t_J6_numberOfTrailingZeros_0f7a4 {n : Nat} {r : Nat → Nat → Option Nat} (hf : fn_0 n r) {q : Int32 × fm_} (p1 : Int32) {m : fm_}
  (h : f_J6_numberOfTrailingZeros_0f7a4 p1 m = some q) {Q : Option Value → am_W → Prop} (hQ : Q (en_i q).1 (mk_ n r q.2)) : am_T m_J6_numberOfTrailingZeros_0f7a4 sp_J6_numberOfTrailingZeros_0f7a4 n Q 0 [some (.int p1), none] [] (mk_ n r m) :=
  am_T.wp sm_J6_numberOfTrailingZeros_0f7a4 (K := am_T m_J6_numberOfTrailingZeros_0f7a4 sp_J6_numberOfTrailingZeros_0f7a4 n Q) (cuts := []) (fun _ _ _ _ h => h) 51
    (fh_if h (fun c1 h2 => fh_if h2 (fun c3 h4 => fh_if h4 (fun c5 h6 => fh_if h6 (fun c7 h8 => fh_if h8 (fun c9 h10 => ⟨rfl, fh_rt h10 hQ⟩) (fun c9 h10 => ⟨rfl, fh_rt h10 hQ⟩)) (fun c7 h8 => fh_if h8 (fun c11 h12 => ⟨rfl, fh_rt h12 hQ⟩) (fun c11 h12 => ⟨rfl, fh_rt h12 hQ⟩))) (fun c5 h6 => fh_if h6 (fun c13 h14 => fh_if h14 (fun c15 h16 => ⟨rfl, fh_rt h16 hQ⟩) (fun c15 h16 => ⟨rfl, fh_rt h16 hQ⟩)) (fun c13 h14 => fh_if h14 (fun c17 h18 => ⟨rfl, fh_rt h18 hQ⟩) (fun c17 h18 => ⟨rfl, fh_rt h18 hQ⟩)))) (fun c3 h4 => fh_if h4 (fun c19 h20 => fh_if h20 (fun c21 h22 => fh_if h22 (fun c23 h24 => ⟨rfl, fh_rt h24 hQ⟩) (fun c23 h24 => ⟨rfl, fh_rt h24 hQ⟩)) (fun c21 h22 => fh_if h22 (fun c25 h26 => ⟨rfl, fh_rt h26 hQ⟩) (fun c25 h26 => ⟨rfl, fh_rt h26 hQ⟩))) (fun c19 h20 => fh_if h20 (fun c27 h28 => fh_if h28 (fun c29 h30 => ⟨rfl, fh_rt h30 hQ⟩) (fun c29 h30 => ⟨rfl, fh_rt h30 hQ⟩)) (fun c27 h28 => fh_if h28 (fun c31 h32 => ⟨rfl, fh_rt h32 hQ⟩) (fun c31 h32 => ⟨rfl, fh_rt h32 hQ⟩))))) (fun c1 h2 => ⟨rfl, fh_rt h2 hQ⟩))
noncomputable def G_J6_numberOfTrailingZeros_0f7a4 (n : Nat) (r : Nat → Nat → Option Nat) (as : List Value) (m : fm_) : Option (Option Value × fm_) := match as with
  | [.int p1] => (f_J6_numberOfTrailingZeros_0f7a4 p1 m).map en_i
  | _ => none
set_option maxRecDepth 100000 in
theorem gp_J6_numberOfTrailingZeros_0f7a4 {n : Nat} {r : Nat → Nat → Option Nat}  {p1 : Int32} {m : fm_} {q : Int32 × fm_}  (e : f_J6_numberOfTrailingZeros_0f7a4 p1 m = some q) : G_J6_numberOfTrailingZeros_0f7a4 n r [.int p1] m = some (en_i q) := by
  show ((f_J6_numberOfTrailingZeros_0f7a4 p1 m).map en_i) = _
  exact fn_mp e
set_option maxRecDepth 100000 in
theorem ok_J6_numberOfTrailingZeros_0f7a4 : am_mok 13 284 m_J6_numberOfTrailingZeros_0f7a4 = true := by decide +kernel
set_option maxRecDepth 100000 in
theorem c_J6_numberOfTrailingZeros_0f7a4 (l : Launch) {g : am_G} (hg : fx_ l g) : am_Met l g 0 284 (fn_s fn_0 G_J6_numberOfTrailingZeros_0f7a4) := by
  refine am_sound (own := 13) (M := m_J6_numberOfTrailingZeros_0f7a4) (SP := sp_J6_numberOfTrailingZeros_0f7a4) hg.1 (by decide +kernel) ok_J6_numberOfTrailingZeros_0f7a4 (by decide +kernel) ?_ (fun q hq hk => absurd hk (am_no61 (M := m_J6_numberOfTrailingZeros_0f7a4) (by decide +kernel) q hq)) (fn_ext l _ rfl g 13) (Or.inl (by decide +kernel)) ?_ ?_
  · intro q hq hk
    have hm : q.2.2.2.1 ∈ am_cs m_J6_numberOfTrailingZeros_0f7a4 := am_cs_in hq hk
    rw [show am_cs m_J6_numberOfTrailingZeros_0f7a4 = [] by decide +kernel] at hm
    cases hm
  · intro as w K h
    obtain ⟨hf, y, m1, hG, hK⟩ := h
    unfold G_J6_numberOfTrailingZeros_0f7a4 at hG
    split at hG
    · exact Nat.le_of_ble_eq_true rfl
    · cases hG
  · intro as w K h
    obtain ⟨n, i0, l0, r⟩ := w
    obtain ⟨hf, y, m1, hG, hK⟩ := h
    unfold G_J6_numberOfTrailingZeros_0f7a4 at hG
    split at hG
    · next p1 =>
      obtain ⟨q, hq, he⟩ := fn_mu hG
      obtain ⟨rfl, rfl⟩ := Prod.mk.inj he
      exact t_J6_numberOfTrailingZeros_0f7a4  hf  p1 (m := (i0, l0)) hq hK
    · cases hG

/-! == J6_bitCount_0f7a4 == -/
noncomputable def f_J6_bitCount_0f7a4 (p1 : Int32) (m : fm_) : Option (Int32 × fm_) :=
  ((some (((((((((p1 - ((Int32.toUInt32 p1 >>> (Int32.toUInt32 1 &&& Int32.toUInt32 31)).toInt32 &&& 1431655765)) &&& 858993459) + ((Int32.toUInt32 (p1 - ((Int32.toUInt32 p1 >>> (Int32.toUInt32 1 &&& Int32.toUInt32 31)).toInt32 &&& 1431655765)) >>> (Int32.toUInt32 2 &&& Int32.toUInt32 31)).toInt32 &&& 858993459)) + (Int32.toUInt32 (((p1 - ((Int32.toUInt32 p1 >>> (Int32.toUInt32 1 &&& Int32.toUInt32 31)).toInt32 &&& 1431655765)) &&& 858993459) + ((Int32.toUInt32 (p1 - ((Int32.toUInt32 p1 >>> (Int32.toUInt32 1 &&& Int32.toUInt32 31)).toInt32 &&& 1431655765)) >>> (Int32.toUInt32 2 &&& Int32.toUInt32 31)).toInt32 &&& 858993459)) >>> (Int32.toUInt32 4 &&& Int32.toUInt32 31)).toInt32) &&& 252645135) + (Int32.toUInt32 (((((p1 - ((Int32.toUInt32 p1 >>> (Int32.toUInt32 1 &&& Int32.toUInt32 31)).toInt32 &&& 1431655765)) &&& 858993459) + ((Int32.toUInt32 (p1 - ((Int32.toUInt32 p1 >>> (Int32.toUInt32 1 &&& Int32.toUInt32 31)).toInt32 &&& 1431655765)) >>> (Int32.toUInt32 2 &&& Int32.toUInt32 31)).toInt32 &&& 858993459)) + (Int32.toUInt32 (((p1 - ((Int32.toUInt32 p1 >>> (Int32.toUInt32 1 &&& Int32.toUInt32 31)).toInt32 &&& 1431655765)) &&& 858993459) + ((Int32.toUInt32 (p1 - ((Int32.toUInt32 p1 >>> (Int32.toUInt32 1 &&& Int32.toUInt32 31)).toInt32 &&& 1431655765)) >>> (Int32.toUInt32 2 &&& Int32.toUInt32 31)).toInt32 &&& 858993459)) >>> (Int32.toUInt32 4 &&& Int32.toUInt32 31)).toInt32) &&& 252645135) >>> (Int32.toUInt32 8 &&& Int32.toUInt32 31)).toInt32) + (Int32.toUInt32 ((((((p1 - ((Int32.toUInt32 p1 >>> (Int32.toUInt32 1 &&& Int32.toUInt32 31)).toInt32 &&& 1431655765)) &&& 858993459) + ((Int32.toUInt32 (p1 - ((Int32.toUInt32 p1 >>> (Int32.toUInt32 1 &&& Int32.toUInt32 31)).toInt32 &&& 1431655765)) >>> (Int32.toUInt32 2 &&& Int32.toUInt32 31)).toInt32 &&& 858993459)) + (Int32.toUInt32 (((p1 - ((Int32.toUInt32 p1 >>> (Int32.toUInt32 1 &&& Int32.toUInt32 31)).toInt32 &&& 1431655765)) &&& 858993459) + ((Int32.toUInt32 (p1 - ((Int32.toUInt32 p1 >>> (Int32.toUInt32 1 &&& Int32.toUInt32 31)).toInt32 &&& 1431655765)) >>> (Int32.toUInt32 2 &&& Int32.toUInt32 31)).toInt32 &&& 858993459)) >>> (Int32.toUInt32 4 &&& Int32.toUInt32 31)).toInt32) &&& 252645135) + (Int32.toUInt32 (((((p1 - ((Int32.toUInt32 p1 >>> (Int32.toUInt32 1 &&& Int32.toUInt32 31)).toInt32 &&& 1431655765)) &&& 858993459) + ((Int32.toUInt32 (p1 - ((Int32.toUInt32 p1 >>> (Int32.toUInt32 1 &&& Int32.toUInt32 31)).toInt32 &&& 1431655765)) >>> (Int32.toUInt32 2 &&& Int32.toUInt32 31)).toInt32 &&& 858993459)) + (Int32.toUInt32 (((p1 - ((Int32.toUInt32 p1 >>> (Int32.toUInt32 1 &&& Int32.toUInt32 31)).toInt32 &&& 1431655765)) &&& 858993459) + ((Int32.toUInt32 (p1 - ((Int32.toUInt32 p1 >>> (Int32.toUInt32 1 &&& Int32.toUInt32 31)).toInt32 &&& 1431655765)) >>> (Int32.toUInt32 2 &&& Int32.toUInt32 31)).toInt32 &&& 858993459)) >>> (Int32.toUInt32 4 &&& Int32.toUInt32 31)).toInt32) &&& 252645135) >>> (Int32.toUInt32 8 &&& Int32.toUInt32 31)).toInt32) >>> (Int32.toUInt32 16 &&& Int32.toUInt32 31)).toInt32) &&& 63), m)))
def sp_J6_bitCount_0f7a4 : am_S := fn_sp []
theorem sm_J6_bitCount_0f7a4 : am_Smono (sp_J6_bitCount_0f7a4) := fn_sp_mono _
set_option maxRecDepth 100000 in
theorem t_J6_bitCount_0f7a4 {n : Nat} {r : Nat → Nat → Option Nat} (hf : fn_0 n r) {q : Int32 × fm_} (p1 : Int32) {m : fm_}
  (h : f_J6_bitCount_0f7a4 p1 m = some q) {Q : Option Value → am_W → Prop} (hQ : Q (en_i q).1 (mk_ n r q.2)) : am_T m_J6_bitCount_0f7a4 sp_J6_bitCount_0f7a4 n Q 0 [some (.int p1)] [] (mk_ n r m) :=
  am_T.wp sm_J6_bitCount_0f7a4 (K := am_T m_J6_bitCount_0f7a4 sp_J6_bitCount_0f7a4 n Q) (cuts := []) (fun _ _ _ _ h => h) 43
    (⟨rfl, fh_rt h hQ⟩)
noncomputable def G_J6_bitCount_0f7a4 (n : Nat) (r : Nat → Nat → Option Nat) (as : List Value) (m : fm_) : Option (Option Value × fm_) := match as with
  | [.int p1] => (f_J6_bitCount_0f7a4 p1 m).map en_i
  | _ => none
set_option maxRecDepth 100000 in
theorem gp_J6_bitCount_0f7a4 {n : Nat} {r : Nat → Nat → Option Nat}  {p1 : Int32} {m : fm_} {q : Int32 × fm_}  (e : f_J6_bitCount_0f7a4 p1 m = some q) : G_J6_bitCount_0f7a4 n r [.int p1] m = some (en_i q) := by
  show ((f_J6_bitCount_0f7a4 p1 m).map en_i) = _
  exact fn_mp e
set_option maxRecDepth 100000 in
theorem ok_J6_bitCount_0f7a4 : am_mok 13 285 m_J6_bitCount_0f7a4 = true := by decide +kernel
set_option maxRecDepth 100000 in
theorem c_J6_bitCount_0f7a4 (l : Launch) {g : am_G} (hg : fx_ l g) : am_Met l g 0 285 (fn_s fn_0 G_J6_bitCount_0f7a4) := by
  refine am_sound (own := 13) (M := m_J6_bitCount_0f7a4) (SP := sp_J6_bitCount_0f7a4) hg.1 (by decide +kernel) ok_J6_bitCount_0f7a4 (by decide +kernel) ?_ (fun q hq hk => absurd hk (am_no61 (M := m_J6_bitCount_0f7a4) (by decide +kernel) q hq)) (fn_ext l _ rfl g 13) (Or.inl (by decide +kernel)) ?_ ?_
  · intro q hq hk
    have hm : q.2.2.2.1 ∈ am_cs m_J6_bitCount_0f7a4 := am_cs_in hq hk
    rw [show am_cs m_J6_bitCount_0f7a4 = [] by decide +kernel] at hm
    cases hm
  · intro as w K h
    obtain ⟨hf, y, m1, hG, hK⟩ := h
    unfold G_J6_bitCount_0f7a4 at hG
    split at hG
    · exact Nat.le_of_ble_eq_true rfl
    · cases hG
  · intro as w K h
    obtain ⟨n, i0, l0, r⟩ := w
    obtain ⟨hf, y, m1, hG, hK⟩ := h
    unfold G_J6_bitCount_0f7a4 at hG
    split at hG
    · next p1 =>
      obtain ⟨q, hq, he⟩ := fn_mu hG
      obtain ⟨rfl, rfl⟩ := Prod.mk.inj he
      exact t_J6_bitCount_0f7a4  hf  p1 (m := (i0, l0)) hq hK
    · cases hG

/-! == J7_fill_53178 == -/
abbrev S_J7_fill_53178 : Type := (Int32 × Int32 × Int32 × fm_)
noncomputable def st_J7_fill_53178 (a0 : Nat) (L : Nat) (s : S_J7_fill_53178) : Option (S_J7_fill_53178 ⊕ (Int32 × fm_)) := match s with
  | (x1, x2, x3, m) =>
    (if x3 ≤ x2 then
((some (Sum.inr (0, m))))
else
(gd_ (ix_ x2 L)
((some (Sum.inl ((x1, (x2 + 1), x3, (si_ m a0 (Int32.toNatClampNeg x2) x1))))))))
noncomputable def f_J7_fill_53178_5 (a0 : Nat) (L : Nat) (x1 : Int32) (x2 : Int32) (x3 : Int32) (m : fm_) : Option (Int32 × fm_) := am_lp (st_J7_fill_53178 a0 L) ((x1, x2, x3, m))
theorem e_J7_fill_53178_5 (a0 : Nat) (L : Nat) (x1 : Int32) (x2 : Int32) (x3 : Int32) (m : fm_) : f_J7_fill_53178_5 a0 L x1 x2 x3 m =
(if x3 ≤ x2 then
((some (0, m)))
else
(gd_ (ix_ x2 L)
((f_J7_fill_53178_5 a0 L x1 (x2 + 1) x3 (si_ m a0 (Int32.toNatClampNeg x2) x1))))) :=
  (am_lp_eq _ _).trans (fe_if (rfl) (fe_gd (rfl)))
noncomputable def f_J7_fill_53178 (a0 : Nat) (L : Nat) (p2 : Int32) (m : fm_) : Option (Int32 × fm_) :=
  ((f_J7_fill_53178_5 a0 L p2 0 (Int32.ofNat L) m))
def sp_J7_fill_53178 : am_S := fn_sp []
theorem sm_J7_fill_53178 : am_Smono (sp_J7_fill_53178) := fn_sp_mono _
def P_J7_fill_53178 (a0 : Nat) (L : Nat) (n : Nat) (r : Nat → Nat → Option Nat) (s : S_J7_fill_53178) (q : Int32 × fm_) : Prop := match s with
  | (x1, x2, x3, m) => ∀ (Q : Option Value → am_W → Prop), Q (en_v q).1 (mk_ n r q.2) → am_T m_J7_fill_53178 sp_J7_fill_53178 n Q 5 [some (.ref a0), some (.int x1), some (.int x2), some (.int x3)] [] (mk_ n r m)
set_option maxRecDepth 100000 in
theorem t_J7_fill_53178_5 (a0 : Nat) (L : Nat) {n : Nat} {r : Nat → Nat → Option Nat} (hf : fn_0 n r) (hsh : am_SH[a0]? = some (0, L)) (han : a0 < n) {K : S_J7_fill_53178 → Option (Int32 × fm_)} {q : Int32 × fm_} (hK : ∀ s, K s = some q → P_J7_fill_53178 a0 L n r s q) (x1 : Int32) (x2 : Int32) (x3 : Int32) (m : fm_)
  (h : am_k K (st_J7_fill_53178 a0 L ((x1, x2, x3, m))) = some q) : P_J7_fill_53178 a0 L n r ((x1, x2, x3, m)) q := fun Q hQ =>
  am_T.wp sm_J7_fill_53178 (K := am_T m_J7_fill_53178 sp_J7_fill_53178 n Q) (cuts := [5]) (fun _ _ _ _ h => h) 11
    (fj_if h (fun c1 h2 => ⟨rfl, fj_rt h2 hQ⟩) (fun c1 h2 => fj_gd h2 fun g4 h3 => ⟨L, fn_aA hsh han rfl, ix_t g4, hK _ h3 _ hQ⟩))
theorem l_J7_fill_53178 (a0 : Nat) (L : Nat) {n : Nat} {r : Nat → Nat → Option Nat} (hf : fn_0 n r) (hsh : am_SH[a0]? = some (0, L)) (han : a0 < n) (s : S_J7_fill_53178) (q : Int32 × fm_) (h : am_lp (st_J7_fill_53178 a0 L) s = some q) : P_J7_fill_53178 a0 L n r s q :=
  am_lp_snd (P := P_J7_fill_53178 a0 L n r) (fun K hK s q h => match s, h with
    | (x1, x2, x3, m), h => t_J7_fill_53178_5 a0 L hf hsh han (fun s => hK s q) x1 x2 x3 m h) s q h
set_option maxRecDepth 100000 in
theorem t_J7_fill_53178 (a0 : Nat) (L : Nat) {n : Nat} {r : Nat → Nat → Option Nat} (hf : fn_0 n r) (hsh : am_SH[a0]? = some (0, L)) (han : a0 < n) {q : Int32 × fm_} (p2 : Int32) {m : fm_}
  (h : f_J7_fill_53178 a0 L p2 m = some q) {Q : Option Value → am_W → Prop} (hQ : Q (en_v q).1 (mk_ n r q.2)) : am_T m_J7_fill_53178 sp_J7_fill_53178 n Q 0 [some (.ref a0), some (.int p2), none, none] [] (mk_ n r m) :=
  am_T.wp sm_J7_fill_53178 (K := am_T m_J7_fill_53178 sp_J7_fill_53178 n Q) (cuts := [5]) (fun _ _ _ _ h => h) 7
    (⟨0, L, fn_aA hsh han rfl, Nat.le_of_ble_eq_true rfl, l_J7_fill_53178 a0 L hf hsh han _ _ h _ hQ⟩)
noncomputable def G_J7_fill_53178 (n : Nat) (r : Nat → Nat → Option Nat) (as : List Value) (m : fm_) : Option (Option Value × fm_) := match as with
  | [.ref a0, .int p2] => fn_fl n a0 fun L => (f_J7_fill_53178 a0 L p2 m).map en_v
  | _ => none
set_option maxRecDepth 100000 in
theorem gp_J7_fill_53178 {n : Nat} {r : Nat → Nat → Option Nat} {a0 : Nat} {L : Nat} {p2 : Int32} {m : fm_} {q : Int32 × fm_} (hs : am_SH[a0]? = some (0, L)) (ha : a0 < n) (e : f_J7_fill_53178 a0 L p2 m = some q) : G_J7_fill_53178 n r [.ref a0, .int p2] m = some (en_v q) := by
  show (fn_fl n a0 fun L => (f_J7_fill_53178 a0 L p2 m).map en_v) = _
  exact fn_fill (f := fun L => (f_J7_fill_53178 a0 L p2 m).map en_v) hs ha (fn_mp e)
set_option maxRecDepth 100000 in
theorem ok_J7_fill_53178 : am_mok 18 299 m_J7_fill_53178 = true := by decide +kernel
set_option maxRecDepth 100000 in
theorem c_J7_fill_53178 (l : Launch) {g : am_G} (hg : fx_ l g) : am_Met l g 0 299 (fn_s fn_0 G_J7_fill_53178) := by
  refine am_sound (own := 18) (M := m_J7_fill_53178) (SP := sp_J7_fill_53178) hg.1 (by decide +kernel) ok_J7_fill_53178 (by decide +kernel) ?_ (fun q hq hk => absurd hk (am_no61 (M := m_J7_fill_53178) (by decide +kernel) q hq)) (fn_ext l _ rfl g 18) (Or.inl (by decide +kernel)) ?_ ?_
  · intro q hq hk
    have hm : q.2.2.2.1 ∈ am_cs m_J7_fill_53178 := am_cs_in hq hk
    rw [show am_cs m_J7_fill_53178 = [] by decide +kernel] at hm
    cases hm
  · intro as w K h
    obtain ⟨hf, y, m1, hG, hK⟩ := h
    unfold G_J7_fill_53178 at hG
    split at hG
    · exact Nat.le_of_ble_eq_true rfl
    · cases hG
  · intro as w K h
    obtain ⟨n, i0, l0, r⟩ := w
    obtain ⟨hf, y, m1, hG, hK⟩ := h
    unfold G_J7_fill_53178 at hG
    split at hG
    · next a0 p2 =>
      obtain ⟨L, hsh, han, hG9⟩ := fn_fl_u hG
      obtain ⟨q, hq, he⟩ := fn_mu hG9
      obtain ⟨rfl, rfl⟩ := Prod.mk.inj he
      exact t_J7_fill_53178 a0 L hf hsh han p2 (m := (i0, l0)) hq hK
    · cases hG

/-! == X8_append == -/
abbrev S_X8_append : Type := (Int32 × Int32 × fm_)
noncomputable def st_X8_append (s : S_X8_append) : Option (S_X8_append ⊕ (Int32 × fm_)) := match s with
  | (x1, x2, m) =>
    (if x2 < 0 then
((some (Sum.inr (0, m))))
else
(if 900 ≤ (gi_ m 1 4) then
((some (Sum.inr (0, m))))
else
(gd_ (ix_ (gi_ m 1 4) 900)
((some (Sum.inl ((x1, (x2 + (-8)), (si_ (si_ m 2 (Int32.toNatClampNeg (gi_ m 1 4)) (Int8.toInt32 (Int32.toInt8 (Int8.toInt32 (Int32.toInt8 (x1 >>> (x2 &&& 31))))))) 1 4 ((gi_ m 1 4) + 1))))))))))
noncomputable def f_X8_append_3 (x1 : Int32) (x2 : Int32) (m : fm_) : Option (Int32 × fm_) := am_lp (st_X8_append) ((x1, x2, m))
theorem e_X8_append_3 (x1 : Int32) (x2 : Int32) (m : fm_) : f_X8_append_3 x1 x2 m =
(if x2 < 0 then
((some (0, m)))
else
(if 900 ≤ (gi_ m 1 4) then
((some (0, m)))
else
(gd_ (ix_ (gi_ m 1 4) 900)
((f_X8_append_3 x1 (x2 + (-8)) (si_ (si_ m 2 (Int32.toNatClampNeg (gi_ m 1 4)) (Int8.toInt32 (Int32.toInt8 (Int8.toInt32 (Int32.toInt8 (x1 >>> (x2 &&& 31))))))) 1 4 ((gi_ m 1 4) + 1))))))) :=
  (am_lp_eq _ _).trans (fe_if (rfl) (fe_if (rfl) (fe_gd (rfl))))
noncomputable def f_X8_append (p1 : Int32) (m : fm_) : Option (Int32 × fm_) :=
  ((f_X8_append_3 p1 24 m))
def sp_X8_append : am_S := fn_sp []
theorem sm_X8_append : am_Smono (sp_X8_append) := fn_sp_mono _
def P_X8_append (n : Nat) (r : Nat → Nat → Option Nat) (s : S_X8_append) (q : Int32 × fm_) : Prop := match s with
  | (x1, x2, m) => ∀ (Q : Option Value → am_W → Prop), Q (en_v q).1 (mk_ n r q.2) → am_T m_X8_append sp_X8_append n Q 3 [some (.ref 1), some (.int x1), some (.int x2)] [] (mk_ n r m)
set_option maxRecDepth 100000 in
theorem t_X8_append_3 {n : Nat} {r : Nat → Nat → Option Nat} (hf : fn_F n r) {K : S_X8_append → Option (Int32 × fm_)} {q : Int32 × fm_} (hK : ∀ s, K s = some q → P_X8_append n r s q) (x1 : Int32) (x2 : Int32) (m : fm_)
  (h : am_k K (st_X8_append ((x1, x2, m))) = some q) : P_X8_append n r ((x1, x2, m)) q := fun Q hQ =>
  am_T.wp sm_X8_append (K := am_T m_X8_append sp_X8_append n Q) (cuts := [3]) (fun _ _ _ _ h => h) 25
    (fj_if h (fun c1 h2 => ⟨rfl, fj_rt h2 hQ⟩) (fun c1 h2 => ⟨fn_aF hf rfl rfl, fj_if h2 (fun c3 h4 => ⟨rfl, fj_rt h4 hQ⟩) (fun c3 h4 => ⟨fn_aF hf rfl rfl, Or.inl ⟨_, hf.2 1 0 2 rfl, ⟨fn_aF hf rfl rfl, fj_gd h4 fun g6 h5 => ⟨900, ix_t g6, Or.inl ⟨fn_aF hf rfl rfl, ⟨fn_aF hf rfl rfl, ⟨fn_aF hf rfl rfl, hK _ h5 _ hQ⟩⟩⟩⟩⟩⟩⟩)⟩))
theorem l_X8_append {n : Nat} {r : Nat → Nat → Option Nat} (hf : fn_F n r) (s : S_X8_append) (q : Int32 × fm_) (h : am_lp (st_X8_append) s = some q) : P_X8_append n r s q :=
  am_lp_snd (P := P_X8_append n r) (fun K hK s q h => match s, h with
    | (x1, x2, m), h => t_X8_append_3 hf (fun s => hK s q) x1 x2 m h) s q h
set_option maxRecDepth 100000 in
theorem t_X8_append {n : Nat} {r : Nat → Nat → Option Nat} (hf : fn_F n r) {q : Int32 × fm_} (p1 : Int32) {m : fm_}
  (h : f_X8_append p1 m = some q) {Q : Option Value → am_W → Prop} (hQ : Q (en_v q).1 (mk_ n r q.2)) : am_T m_X8_append sp_X8_append n Q 0 [some (.ref 1), some (.int p1), none] [] (mk_ n r m) :=
  am_T.wp sm_X8_append (K := am_T m_X8_append sp_X8_append n Q) (cuts := [3]) (fun _ _ _ _ h => h) 4
    (l_X8_append hf _ _ h _ hQ)
noncomputable def G_X8_append (n : Nat) (r : Nat → Nat → Option Nat) (as : List Value) (m : fm_) : Option (Option Value × fm_) := match as with
  | [.ref x0, .int p1] => gd_ (Nat.beq x0 1) ((f_X8_append p1 m).map en_v)
  | _ => none
set_option maxRecDepth 100000 in
theorem gp_X8_append {n : Nat} {r : Nat → Nat → Option Nat}  {p1 : Int32} {m : fm_} {q : Int32 × fm_}  (e : f_X8_append p1 m = some q) : G_X8_append n r [.ref 1, .int p1] m = some (en_v q) := by
  show (gd_ (Nat.beq 1 1) ((f_X8_append p1 m).map en_v)) = _
  exact fn_gd rfl (fn_mp e)
set_option maxRecDepth 100000 in
theorem ok_X8_append : am_mok 8 90 m_X8_append = true := by decide +kernel
set_option maxRecDepth 100000 in
theorem c_X8_append (l : Launch) {g : am_G} (hg : fx_ l g) : am_Met l g 0 90 (fn_s fn_F G_X8_append) := by
  refine am_sound (own := 8) (M := m_X8_append) (SP := sp_X8_append) hg.1 (by decide +kernel) ok_X8_append (by decide +kernel) ?_ (fun q hq hk => absurd hk (am_no61 (M := m_X8_append) (by decide +kernel) q hq)) (fn_ext l _ rfl g 8) (Or.inl (by decide +kernel)) ?_ ?_
  · intro q hq hk
    have hm : q.2.2.2.1 ∈ am_cs m_X8_append := am_cs_in hq hk
    rw [show am_cs m_X8_append = [] by decide +kernel] at hm
    cases hm
  · intro as w K h
    obtain ⟨hf, y, m1, hG, hK⟩ := h
    unfold G_X8_append at hG
    split at hG
    · exact Nat.le_of_ble_eq_true rfl
    · cases hG
  · intro as w K h
    obtain ⟨n, i0, l0, r⟩ := w
    obtain ⟨hf, y, m1, hG, hK⟩ := h
    unfold G_X8_append at hG
    split at hG
    · next x0 p1 =>
      obtain ⟨hx1, hG1⟩ := gd_u hG
      obtain rfl := Nat.eq_of_beq_eq_true hx1
      obtain ⟨q, hq, he⟩ := fn_mu hG1
      obtain ⟨rfl, rfl⟩ := Prod.mk.inj he
      exact t_X8_append  hf  p1 (m := (i0, l0)) hq hK
    · cases hG

/-! == X8_restart == -/
noncomputable def f_X8_restart  (m : fm_) : Option (Int32 × fm_) :=
  ((some (0, (si_ (si_ (si_ m 1 6 0) 1 7 0) 1 8 (-1)))))
def sp_X8_restart : am_S := fn_sp []
theorem sm_X8_restart : am_Smono (sp_X8_restart) := fn_sp_mono _
set_option maxRecDepth 100000 in
theorem t_X8_restart {n : Nat} {r : Nat → Nat → Option Nat} (hf : fn_F n r) {q : Int32 × fm_}  {m : fm_}
  (h : f_X8_restart  m = some q) {Q : Option Value → am_W → Prop} (hQ : Q (en_v q).1 (mk_ n r q.2)) : am_T m_X8_restart sp_X8_restart n Q 0 [some (.ref 1)] [] (mk_ n r m) :=
  am_T.wp sm_X8_restart (K := am_T m_X8_restart sp_X8_restart n Q) (cuts := []) (fun _ _ _ _ h => h) 11
    (⟨fn_aF hf rfl rfl, ⟨fn_aF hf rfl rfl, ⟨fn_aF hf rfl rfl, ⟨rfl, fh_rt h hQ⟩⟩⟩⟩)
noncomputable def G_X8_restart (n : Nat) (r : Nat → Nat → Option Nat) (as : List Value) (m : fm_) : Option (Option Value × fm_) := match as with
  | [.ref x0] => gd_ (Nat.beq x0 1) ((f_X8_restart  m).map en_v)
  | _ => none
set_option maxRecDepth 100000 in
theorem gp_X8_restart {n : Nat} {r : Nat → Nat → Option Nat}   {m : fm_} {q : Int32 × fm_}  (e : f_X8_restart  m = some q) : G_X8_restart n r [.ref 1] m = some (en_v q) := by
  show (gd_ (Nat.beq 1 1) ((f_X8_restart  m).map en_v)) = _
  exact fn_gd rfl (fn_mp e)
set_option maxRecDepth 100000 in
theorem ok_X8_restart : am_mok 8 92 m_X8_restart = true := by decide +kernel
set_option maxRecDepth 100000 in
theorem c_X8_restart (l : Launch) {g : am_G} (hg : fx_ l g) : am_Met l g 0 92 (fn_s fn_F G_X8_restart) := by
  refine am_sound (own := 8) (M := m_X8_restart) (SP := sp_X8_restart) hg.1 (by decide +kernel) ok_X8_restart (by decide +kernel) ?_ (fun q hq hk => absurd hk (am_no61 (M := m_X8_restart) (by decide +kernel) q hq)) (fn_ext l _ rfl g 8) (Or.inl (by decide +kernel)) ?_ ?_
  · intro q hq hk
    have hm : q.2.2.2.1 ∈ am_cs m_X8_restart := am_cs_in hq hk
    rw [show am_cs m_X8_restart = [] by decide +kernel] at hm
    cases hm
  · intro as w K h
    obtain ⟨hf, y, m1, hG, hK⟩ := h
    unfold G_X8_restart at hG
    split at hG
    · exact Nat.le_of_ble_eq_true rfl
    · cases hG
  · intro as w K h
    obtain ⟨n, i0, l0, r⟩ := w
    obtain ⟨hf, y, m1, hG, hK⟩ := h
    unfold G_X8_restart at hG
    split at hG
    · next x0 =>
      obtain ⟨hx1, hG1⟩ := gd_u hG
      obtain rfl := Nat.eq_of_beq_eq_true hx1
      obtain ⟨q, hq, he⟩ := fn_mu hG1
      obtain ⟨rfl, rfl⟩ := Prod.mk.inj he
      exact t_X8_restart  hf   (m := (i0, l0)) hq hK
    · cases hG

/-! == X8_byteAt == -/
noncomputable def f_X8_byteAt (p1 : Int32) (m : fm_) : Option (Int32 × fm_) :=
  (if p1 < 0 then
((some ((-1), m)))
else
(if (gi_ m 1 4) ≤ p1 then
((some ((-1), m)))
else
(gd_ (ix_ p1 900)
((some (((gi_ m 2 (Int32.toNatClampNeg p1)) &&& 255), m))))))
def sp_X8_byteAt : am_S := fn_sp []
theorem sm_X8_byteAt : am_Smono (sp_X8_byteAt) := fn_sp_mono _
set_option maxRecDepth 100000 in
theorem t_X8_byteAt {n : Nat} {r : Nat → Nat → Option Nat} (hf : fn_F n r) {q : Int32 × fm_} (p1 : Int32) {m : fm_}
  (h : f_X8_byteAt p1 m = some q) {Q : Option Value → am_W → Prop} (hQ : Q (en_i q).1 (mk_ n r q.2)) : am_T m_X8_byteAt sp_X8_byteAt n Q 0 [some (.ref 1), some (.int p1)] [] (mk_ n r m) :=
  am_T.wp sm_X8_byteAt (K := am_T m_X8_byteAt sp_X8_byteAt n Q) (cuts := []) (fun _ _ _ _ h => h) 15
    (fh_if h (fun c1 h2 => ⟨rfl, fh_rt h2 hQ⟩) (fun c1 h2 => ⟨fn_aF hf rfl rfl, fh_if h2 (fun c3 h4 => ⟨rfl, fh_rt h4 hQ⟩) (fun c3 h4 => ⟨fn_aF hf rfl rfl, Or.inl ⟨_, hf.2 1 0 2 rfl, fh_gd h4 fun g6 h5 => ⟨900, Or.inl (fn_aF hf rfl rfl), ix_t g6, ⟨rfl, fh_rt h5 hQ⟩⟩⟩⟩)⟩))
noncomputable def G_X8_byteAt (n : Nat) (r : Nat → Nat → Option Nat) (as : List Value) (m : fm_) : Option (Option Value × fm_) := match as with
  | [.ref x0, .int p1] => gd_ (Nat.beq x0 1) ((f_X8_byteAt p1 m).map en_i)
  | _ => none
set_option maxRecDepth 100000 in
theorem gp_X8_byteAt {n : Nat} {r : Nat → Nat → Option Nat}  {p1 : Int32} {m : fm_} {q : Int32 × fm_}  (e : f_X8_byteAt p1 m = some q) : G_X8_byteAt n r [.ref 1, .int p1] m = some (en_i q) := by
  show (gd_ (Nat.beq 1 1) ((f_X8_byteAt p1 m).map en_i)) = _
  exact fn_gd rfl (fn_mp e)
set_option maxRecDepth 100000 in
theorem ok_X8_byteAt : am_mok 8 101 m_X8_byteAt = true := by decide +kernel
set_option maxRecDepth 100000 in
theorem c_X8_byteAt (l : Launch) {g : am_G} (hg : fx_ l g) : am_Met l g 0 101 (fn_s fn_F G_X8_byteAt) := by
  refine am_sound (own := 8) (M := m_X8_byteAt) (SP := sp_X8_byteAt) hg.1 (by decide +kernel) ok_X8_byteAt (by decide +kernel) ?_ (fun q hq hk => absurd hk (am_no61 (M := m_X8_byteAt) (by decide +kernel) q hq)) (fn_ext l _ rfl g 8) (Or.inl (by decide +kernel)) ?_ ?_
  · intro q hq hk
    have hm : q.2.2.2.1 ∈ am_cs m_X8_byteAt := am_cs_in hq hk
    rw [show am_cs m_X8_byteAt = [] by decide +kernel] at hm
    cases hm
  · intro as w K h
    obtain ⟨hf, y, m1, hG, hK⟩ := h
    unfold G_X8_byteAt at hG
    split at hG
    · exact Nat.le_of_ble_eq_true rfl
    · cases hG
  · intro as w K h
    obtain ⟨n, i0, l0, r⟩ := w
    obtain ⟨hf, y, m1, hG, hK⟩ := h
    unfold G_X8_byteAt at hG
    split at hG
    · next x0 p1 =>
      obtain ⟨hx1, hG1⟩ := gd_u hG
      obtain rfl := Nat.eq_of_beq_eq_true hx1
      obtain ⟨q, hq, he⟩ := fn_mu hG1
      obtain ⟨rfl, rfl⟩ := Prod.mk.inj he
      exact t_X8_byteAt  hf  p1 (m := (i0, l0)) hq hK
    · cases hG

/-! == X8_isBlank == -/
noncomputable def f_X8_isBlank (p1 : Int32) (m : fm_) : Option (Int32 × fm_) :=
  (if p1 = 32 then
((some (1, m)))
else
(if p1 = 10 then
((some (1, m)))
else
((some (0, m)))))
def sp_X8_isBlank : am_S := fn_sp []
theorem sm_X8_isBlank : am_Smono (sp_X8_isBlank) := fn_sp_mono _
set_option maxRecDepth 100000 in
theorem t_X8_isBlank {n : Nat} {r : Nat → Nat → Option Nat} (hf : fn_0 n r) {q : Int32 × fm_} (p1 : Int32) {m : fm_}
  (h : f_X8_isBlank p1 m = some q) {Q : Option Value → am_W → Prop} (hQ : Q (en_i q).1 (mk_ n r q.2)) : am_T m_X8_isBlank sp_X8_isBlank n Q 0 [some (.int p1)] [] (mk_ n r m) :=
  am_T.wp sm_X8_isBlank (K := am_T m_X8_isBlank sp_X8_isBlank n Q) (cuts := []) (fun _ _ _ _ h => h) 10
    (fh_if h (fun c1 h2 => ⟨rfl, Or.inr rfl, fh_rt h2 hQ⟩) (fun c1 h2 => fh_in h2 (fun c3 h4 => ⟨rfl, Or.inl rfl, fh_rt h4 hQ⟩) (fun c3 h4 => ⟨rfl, Or.inr rfl, fh_rt h4 hQ⟩)))
noncomputable def G_X8_isBlank (n : Nat) (r : Nat → Nat → Option Nat) (as : List Value) (m : fm_) : Option (Option Value × fm_) := match as with
  | [.int p1] => (f_X8_isBlank p1 m).map en_i
  | _ => none
set_option maxRecDepth 100000 in
theorem gp_X8_isBlank {n : Nat} {r : Nat → Nat → Option Nat}  {p1 : Int32} {m : fm_} {q : Int32 × fm_}  (e : f_X8_isBlank p1 m = some q) : G_X8_isBlank n r [.int p1] m = some (en_i q) := by
  show ((f_X8_isBlank p1 m).map en_i) = _
  exact fn_mp e
set_option maxRecDepth 100000 in
theorem ok_X8_isBlank : am_mok 8 111 m_X8_isBlank = true := by decide +kernel
set_option maxRecDepth 100000 in
theorem c_X8_isBlank (l : Launch) {g : am_G} (hg : fx_ l g) : am_Met l g 0 111 (fn_s fn_0 G_X8_isBlank) := by
  refine am_sound (own := 8) (M := m_X8_isBlank) (SP := sp_X8_isBlank) hg.1 (by decide +kernel) ok_X8_isBlank (by decide +kernel) ?_ (fun q hq hk => absurd hk (am_no61 (M := m_X8_isBlank) (by decide +kernel) q hq)) (fn_ext l _ rfl g 8) (Or.inl (by decide +kernel)) ?_ ?_
  · intro q hq hk
    have hm : q.2.2.2.1 ∈ am_cs m_X8_isBlank := am_cs_in hq hk
    rw [show am_cs m_X8_isBlank = [] by decide +kernel] at hm
    cases hm
  · intro as w K h
    obtain ⟨hf, y, m1, hG, hK⟩ := h
    unfold G_X8_isBlank at hG
    split at hG
    · exact Nat.le_of_ble_eq_true rfl
    · cases hG
  · intro as w K h
    obtain ⟨n, i0, l0, r⟩ := w
    obtain ⟨hf, y, m1, hG, hK⟩ := h
    unfold G_X8_isBlank at hG
    split at hG
    · next p1 =>
      obtain ⟨q, hq, he⟩ := fn_mu hG
      obtain ⟨rfl, rfl⟩ := Prod.mk.inj he
      exact t_X8_isBlank  hf  p1 (m := (i0, l0)) hq hK
    · cases hG

/-! == X8_isDigit == -/
noncomputable def f_X8_isDigit (p1 : Int32) (m : fm_) : Option (Int32 × fm_) :=
  (if p1 < 48 then
((some (0, m)))
else
(if 57 < p1 then
((some (0, m)))
else
((some (1, m)))))
def sp_X8_isDigit : am_S := fn_sp []
theorem sm_X8_isDigit : am_Smono (sp_X8_isDigit) := fn_sp_mono _
set_option maxRecDepth 100000 in
theorem t_X8_isDigit {n : Nat} {r : Nat → Nat → Option Nat} (hf : fn_0 n r) {q : Int32 × fm_} (p1 : Int32) {m : fm_}
  (h : f_X8_isDigit p1 m = some q) {Q : Option Value → am_W → Prop} (hQ : Q (en_i q).1 (mk_ n r q.2)) : am_T m_X8_isDigit sp_X8_isDigit n Q 0 [some (.int p1)] [] (mk_ n r m) :=
  am_T.wp sm_X8_isDigit (K := am_T m_X8_isDigit sp_X8_isDigit n Q) (cuts := []) (fun _ _ _ _ h => h) 10
    (fh_if h (fun c1 h2 => ⟨rfl, Or.inl rfl, fh_rt h2 hQ⟩) (fun c1 h2 => fh_if h2 (fun c3 h4 => ⟨rfl, Or.inl rfl, fh_rt h4 hQ⟩) (fun c3 h4 => ⟨rfl, Or.inr rfl, fh_rt h4 hQ⟩)))
noncomputable def G_X8_isDigit (n : Nat) (r : Nat → Nat → Option Nat) (as : List Value) (m : fm_) : Option (Option Value × fm_) := match as with
  | [.int p1] => (f_X8_isDigit p1 m).map en_i
  | _ => none
set_option maxRecDepth 100000 in
theorem gp_X8_isDigit {n : Nat} {r : Nat → Nat → Option Nat}  {p1 : Int32} {m : fm_} {q : Int32 × fm_}  (e : f_X8_isDigit p1 m = some q) : G_X8_isDigit n r [.int p1] m = some (en_i q) := by
  show ((f_X8_isDigit p1 m).map en_i) = _
  exact fn_mp e
set_option maxRecDepth 100000 in
theorem ok_X8_isDigit : am_mok 8 112 m_X8_isDigit = true := by decide +kernel
set_option maxRecDepth 100000 in
theorem c_X8_isDigit (l : Launch) {g : am_G} (hg : fx_ l g) : am_Met l g 0 112 (fn_s fn_0 G_X8_isDigit) := by
  refine am_sound (own := 8) (M := m_X8_isDigit) (SP := sp_X8_isDigit) hg.1 (by decide +kernel) ok_X8_isDigit (by decide +kernel) ?_ (fun q hq hk => absurd hk (am_no61 (M := m_X8_isDigit) (by decide +kernel) q hq)) (fn_ext l _ rfl g 8) (Or.inl (by decide +kernel)) ?_ ?_
  · intro q hq hk
    have hm : q.2.2.2.1 ∈ am_cs m_X8_isDigit := am_cs_in hq hk
    rw [show am_cs m_X8_isDigit = [] by decide +kernel] at hm
    cases hm
  · intro as w K h
    obtain ⟨hf, y, m1, hG, hK⟩ := h
    unfold G_X8_isDigit at hG
    split at hG
    · exact Nat.le_of_ble_eq_true rfl
    · cases hG
  · intro as w K h
    obtain ⟨n, i0, l0, r⟩ := w
    obtain ⟨hf, y, m1, hG, hK⟩ := h
    unfold G_X8_isDigit at hG
    split at hG
    · next p1 =>
      obtain ⟨q, hq, he⟩ := fn_mu hG
      obtain ⟨rfl, rfl⟩ := Prod.mk.inj he
      exact t_X8_isDigit  hf  p1 (m := (i0, l0)) hq hK
    · cases hG

/-! == X8_digitsEnd == -/
abbrev S_X8_digitsEnd : Type := (Int32 × Int32 × fm_)
noncomputable def st_X8_digitsEnd (s : S_X8_digitsEnd) : Option (S_X8_digitsEnd ⊕ (Int32 × fm_)) := match s with
  | (x1, x2, m) =>
    (if (gi_ m 1 4) ≤ x2 then
((some (Sum.inr (x2, m))))
else
(Option.bind (f_X8_byteAt x2 m) fun q3 =>
(Option.bind (f_X8_isDigit q3.1 q3.2) fun q6 =>
(if q6.1 = 0 then
((some (Sum.inr (x2, q6.2))))
else
((some (Sum.inl ((x1, (x2 + 1), q6.2)))))))))
noncomputable def f_X8_digitsEnd_2 (x1 : Int32) (x2 : Int32) (m : fm_) : Option (Int32 × fm_) := am_lp (st_X8_digitsEnd) ((x1, x2, m))
theorem e_X8_digitsEnd_2 (x1 : Int32) (x2 : Int32) (m : fm_) : f_X8_digitsEnd_2 x1 x2 m =
(if (gi_ m 1 4) ≤ x2 then
((some (x2, m)))
else
(Option.bind (f_X8_byteAt x2 m) fun q3 =>
(Option.bind (f_X8_isDigit q3.1 q3.2) fun q6 =>
(if q6.1 = 0 then
((some (x2, q6.2)))
else
((f_X8_digitsEnd_2 x1 (x2 + 1) q6.2)))))) :=
  (am_lp_eq _ _).trans (fe_if (rfl) (fe_bd fun q3 => (fe_bd fun q6 => (fe_if (rfl) (rfl)))))
noncomputable def f_X8_digitsEnd (p1 : Int32) (m : fm_) : Option (Int32 × fm_) :=
  ((f_X8_digitsEnd_2 p1 p1 m))
def sp_X8_digitsEnd : am_S := fn_sp [(101, fn_F, G_X8_byteAt), (112, fn_0, G_X8_isDigit)]
theorem sm_X8_digitsEnd : am_Smono (sp_X8_digitsEnd) := fn_sp_mono _
def P_X8_digitsEnd (n : Nat) (r : Nat → Nat → Option Nat) (s : S_X8_digitsEnd) (q : Int32 × fm_) : Prop := match s with
  | (x1, x2, m) => ∀ (Q : Option Value → am_W → Prop), Q (en_i q).1 (mk_ n r q.2) → am_T m_X8_digitsEnd sp_X8_digitsEnd n Q 2 [some (.ref 1), some (.int x1), some (.int x2)] [] (mk_ n r m)
set_option maxRecDepth 100000 in
theorem t_X8_digitsEnd_2 {n : Nat} {r : Nat → Nat → Option Nat} (hf : fn_F n r) {K : S_X8_digitsEnd → Option (Int32 × fm_)} {q : Int32 × fm_} (hK : ∀ s, K s = some q → P_X8_digitsEnd n r s q) (x1 : Int32) (x2 : Int32) (m : fm_)
  (h : am_k K (st_X8_digitsEnd ((x1, x2, m))) = some q) : P_X8_digitsEnd n r ((x1, x2, m)) q := fun Q hQ =>
  am_T.wp sm_X8_digitsEnd (K := am_T m_X8_digitsEnd sp_X8_digitsEnd n Q) (cuts := [2]) (fun _ _ _ _ h => h) 13
    (⟨fn_aF hf rfl rfl, fj_if h (fun c1 h2 => ⟨rfl, fj_rt h2 hQ⟩) (fun c1 h2 => fj_bd h2 fun q3 e4 h5 => ⟨Nat.le_of_ble_eq_true rfl, fn_aF hf rfl rfl, ⟨hf, some (.int q3.1), q3.2, gp_X8_byteAt (n := n) (r := r)  e4, fun _ => fj_bd h5 fun q6 e7 h8 => ⟨Nat.le_of_ble_eq_true rfl, trivial, ⟨trivial, some (.int q6.1), q6.2, gp_X8_isDigit (n := n) (r := r)  e7, fun _ => fj_if h8 (fun c9 h10 => ⟨rfl, fj_rt h10 hQ⟩) (fun c9 h10 => hK _ h10 _ hQ)⟩⟩⟩⟩)⟩)
theorem l_X8_digitsEnd {n : Nat} {r : Nat → Nat → Option Nat} (hf : fn_F n r) (s : S_X8_digitsEnd) (q : Int32 × fm_) (h : am_lp (st_X8_digitsEnd) s = some q) : P_X8_digitsEnd n r s q :=
  am_lp_snd (P := P_X8_digitsEnd n r) (fun K hK s q h => match s, h with
    | (x1, x2, m), h => t_X8_digitsEnd_2 hf (fun s => hK s q) x1 x2 m h) s q h
set_option maxRecDepth 100000 in
theorem t_X8_digitsEnd {n : Nat} {r : Nat → Nat → Option Nat} (hf : fn_F n r) {q : Int32 × fm_} (p1 : Int32) {m : fm_}
  (h : f_X8_digitsEnd p1 m = some q) {Q : Option Value → am_W → Prop} (hQ : Q (en_i q).1 (mk_ n r q.2)) : am_T m_X8_digitsEnd sp_X8_digitsEnd n Q 0 [some (.ref 1), some (.int p1), none] [] (mk_ n r m) :=
  am_T.wp sm_X8_digitsEnd (K := am_T m_X8_digitsEnd sp_X8_digitsEnd n Q) (cuts := [2]) (fun _ _ _ _ h => h) 4
    (l_X8_digitsEnd hf _ _ h _ hQ)
noncomputable def G_X8_digitsEnd (n : Nat) (r : Nat → Nat → Option Nat) (as : List Value) (m : fm_) : Option (Option Value × fm_) := match as with
  | [.ref x0, .int p1] => gd_ (Nat.beq x0 1) ((f_X8_digitsEnd p1 m).map en_i)
  | _ => none
set_option maxRecDepth 100000 in
theorem gp_X8_digitsEnd {n : Nat} {r : Nat → Nat → Option Nat}  {p1 : Int32} {m : fm_} {q : Int32 × fm_}  (e : f_X8_digitsEnd p1 m = some q) : G_X8_digitsEnd n r [.ref 1, .int p1] m = some (en_i q) := by
  show (gd_ (Nat.beq 1 1) ((f_X8_digitsEnd p1 m).map en_i)) = _
  exact fn_gd rfl (fn_mp e)
set_option maxRecDepth 100000 in
theorem ok_X8_digitsEnd : am_mok 8 106 m_X8_digitsEnd = true := by decide +kernel
set_option maxRecDepth 100000 in
theorem c_X8_digitsEnd (l : Launch) {g : am_G} (hg : fx_ l g) : am_Met l g 1 106 (fn_s fn_F G_X8_digitsEnd) := by
  refine am_sound (own := 8) (M := m_X8_digitsEnd) (SP := sp_X8_digitsEnd) hg.1 (by decide +kernel) ok_X8_digitsEnd (by decide +kernel) ?_ (fun q hq hk => absurd hk (am_no61 (M := m_X8_digitsEnd) (by decide +kernel) q hq)) (fn_ext l _ rfl g 8) (Or.inl (by decide +kernel)) ?_ ?_
  · intro q hq hk
    have hm : q.2.2.2.1 ∈ am_cs m_X8_digitsEnd := am_cs_in hq hk
    rw [show am_cs m_X8_digitsEnd = [101, 112] by decide +kernel] at hm
    have hm : q.2.2.2.1 ∈ [101, 112] := (List.all_eq_true.mp (show ([101, 112] : List Nat).all (fun a => decide (a ∈ ([101, 112] : List Nat))) = true by decide +kernel) _ hm |> of_decide_eq_true)
    simp only [List.mem_cons, List.not_mem_nil, or_false] at hm
    rcases hm with hm | hm
    · rw [hm]; exact ⟨0, by omega, c_X8_byteAt l hg⟩
    · rw [hm]; exact ⟨0, by omega, c_X8_isDigit l hg⟩
  · intro as w K h
    obtain ⟨hf, y, m1, hG, hK⟩ := h
    unfold G_X8_digitsEnd at hG
    split at hG
    · exact Nat.le_of_ble_eq_true rfl
    · cases hG
  · intro as w K h
    obtain ⟨n, i0, l0, r⟩ := w
    obtain ⟨hf, y, m1, hG, hK⟩ := h
    unfold G_X8_digitsEnd at hG
    split at hG
    · next x0 p1 =>
      obtain ⟨hx1, hG1⟩ := gd_u hG
      obtain rfl := Nat.eq_of_beq_eq_true hx1
      obtain ⟨q, hq, he⟩ := fn_mu hG1
      obtain ⟨rfl, rfl⟩ := Prod.mk.inj he
      exact t_X8_digitsEnd  hf  p1 (m := (i0, l0)) hq hK
    · cases hG

/-! == X8_isLetter == -/
noncomputable def f_X8_isLetter (p1 : Int32) (m : fm_) : Option (Int32 × fm_) :=
  (if p1 < 97 then
((some (0, m)))
else
(if 122 < p1 then
((some (0, m)))
else
((some (1, m)))))
def sp_X8_isLetter : am_S := fn_sp []
theorem sm_X8_isLetter : am_Smono (sp_X8_isLetter) := fn_sp_mono _
set_option maxRecDepth 100000 in
theorem t_X8_isLetter {n : Nat} {r : Nat → Nat → Option Nat} (hf : fn_0 n r) {q : Int32 × fm_} (p1 : Int32) {m : fm_}
  (h : f_X8_isLetter p1 m = some q) {Q : Option Value → am_W → Prop} (hQ : Q (en_i q).1 (mk_ n r q.2)) : am_T m_X8_isLetter sp_X8_isLetter n Q 0 [some (.int p1)] [] (mk_ n r m) :=
  am_T.wp sm_X8_isLetter (K := am_T m_X8_isLetter sp_X8_isLetter n Q) (cuts := []) (fun _ _ _ _ h => h) 10
    (fh_if h (fun c1 h2 => ⟨rfl, Or.inl rfl, fh_rt h2 hQ⟩) (fun c1 h2 => fh_if h2 (fun c3 h4 => ⟨rfl, Or.inl rfl, fh_rt h4 hQ⟩) (fun c3 h4 => ⟨rfl, Or.inr rfl, fh_rt h4 hQ⟩)))
noncomputable def G_X8_isLetter (n : Nat) (r : Nat → Nat → Option Nat) (as : List Value) (m : fm_) : Option (Option Value × fm_) := match as with
  | [.int p1] => (f_X8_isLetter p1 m).map en_i
  | _ => none
set_option maxRecDepth 100000 in
theorem gp_X8_isLetter {n : Nat} {r : Nat → Nat → Option Nat}  {p1 : Int32} {m : fm_} {q : Int32 × fm_}  (e : f_X8_isLetter p1 m = some q) : G_X8_isLetter n r [.int p1] m = some (en_i q) := by
  show ((f_X8_isLetter p1 m).map en_i) = _
  exact fn_mp e
set_option maxRecDepth 100000 in
theorem ok_X8_isLetter : am_mok 8 113 m_X8_isLetter = true := by decide +kernel
set_option maxRecDepth 100000 in
theorem c_X8_isLetter (l : Launch) {g : am_G} (hg : fx_ l g) : am_Met l g 0 113 (fn_s fn_0 G_X8_isLetter) := by
  refine am_sound (own := 8) (M := m_X8_isLetter) (SP := sp_X8_isLetter) hg.1 (by decide +kernel) ok_X8_isLetter (by decide +kernel) ?_ (fun q hq hk => absurd hk (am_no61 (M := m_X8_isLetter) (by decide +kernel) q hq)) (fn_ext l _ rfl g 8) (Or.inl (by decide +kernel)) ?_ ?_
  · intro q hq hk
    have hm : q.2.2.2.1 ∈ am_cs m_X8_isLetter := am_cs_in hq hk
    rw [show am_cs m_X8_isLetter = [] by decide +kernel] at hm
    cases hm
  · intro as w K h
    obtain ⟨hf, y, m1, hG, hK⟩ := h
    unfold G_X8_isLetter at hG
    split at hG
    · exact Nat.le_of_ble_eq_true rfl
    · cases hG
  · intro as w K h
    obtain ⟨n, i0, l0, r⟩ := w
    obtain ⟨hf, y, m1, hG, hK⟩ := h
    unfold G_X8_isLetter at hG
    split at hG
    · next p1 =>
      obtain ⟨q, hq, he⟩ := fn_mu hG
      obtain ⟨rfl, rfl⟩ := Prod.mk.inj he
      exact t_X8_isLetter  hf  p1 (m := (i0, l0)) hq hK
    · cases hG

