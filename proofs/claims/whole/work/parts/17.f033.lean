/-! == X12_know == -/
abbrev S_X12_know : Type := (Int32 × Int32 × Int32 × fm_) ⊕ (Int32 × Int32 × Int32 × fm_) ⊕ (Int32 × Int32 × Int32 × Int32 × fm_)
noncomputable def st_X12_know (s : S_X12_know) : Option (S_X12_know ⊕ (Int32 × fm_)) := match s with
  | Sum.inl ((x1, x2, x3, m)) =>
    (if (gi_ m 106 58) ≤ x3 then
(gd_ (ix_ 0 9)
(gd_ (ix_ 0 8)
(if (gi_ m 106 77) = 0 then
((some (Sum.inl (Sum.inr (Sum.inl ((x1, x2, 0, (si_ (si_ (si_ (si_ m 106 78 (-1)) 154 (Int32.toNatClampNeg 0) 0) 152 (Int32.toNatClampNeg 0) (-1)) 106 78 0))))))))
else
((some (Sum.inl (Sum.inr (Sum.inl ((x1, x2, 0, (si_ (si_ (si_ m 106 78 (-1)) 154 (Int32.toNatClampNeg 0) 0) 152 (Int32.toNatClampNeg 0) (-1))))))))))))
else
(gd_ (ix_ x3 200)
(if (gi_ m 141 (Int32.toNatClampNeg x3)) = 1 then
(gd_ (ix_ x3 200)
(if (gi_ m 143 (Int32.toNatClampNeg x3)) = x1 then
(Option.bind (f_X12_counts x3 x2 m) fun q17 =>
(if q17.1 = 0 then
((some (Sum.inl (Sum.inl ((x1, x2, (x3 + 1), q17.2))))))
else
(gd_ (ix_ (gi_ q17.2 106 77) 8)
((some (Sum.inl (Sum.inl ((x1, x2, (x3 + 1), (si_ (si_ q17.2 151 (Int32.toNatClampNeg (gi_ q17.2 106 77)) x3) 106 77 ((gi_ q17.2 106 77) + 1)))))))))))
else
((some (Sum.inl (Sum.inl ((x1, x2, (x3 + 1), m))))))))
else
((some (Sum.inl (Sum.inl ((x1, x2, (x3 + 1), m)))))))))
  | Sum.inr (Sum.inl ((x1, x2, x3, m))) =>
    (if x3 < 0 then
((some (Sum.inr (0, m))))
else
(if (gi_ m 106 77) ≤ 0 then
((some (Sum.inr (0, m))))
else
(gd_ (ix_ x3 8)
(gd_ (ix_ x3 8)
(gd_ (ix_ x3 8)
(if (gi_ (si_ m 152 (Int32.toNatClampNeg x3) ((gi_ m 152 (Int32.toNatClampNeg x3)) + 1)) 152 (Int32.toNatClampNeg x3)) ≤ (gi_ m 106 57) then
(Option.bind (f_X12_canBe x3 (si_ m 152 (Int32.toNatClampNeg x3) ((gi_ m 152 (Int32.toNatClampNeg x3)) + 1))) fun q13 =>
(if q13.1 = 0 then
((some (Sum.inl (Sum.inr (Sum.inl ((x1, x2, x3, q13.2)))))))
else
(gd_ (ix_ x3 9)
(gd_ (ix_ x3 8)
(if (gi_ q13.2 152 (Int32.toNatClampNeg x3)) = (gi_ q13.2 106 57) then
(gd_ (ix_ (x3 + 1) 9)
(if (gi_ q13.2 106 78) < 0 then
(if (gi_ q13.2 106 77) ≤ (x3 + 1) then
(gd_ (ix_ (x3 + 1) 9)
((some (Sum.inl (Sum.inr (Sum.inr ((x1, x2, x3, 0, (si_ (si_ q13.2 154 (Int32.toNatClampNeg (x3 + 1)) ((gi_ q13.2 154 (Int32.toNatClampNeg x3)) + 4)) 106 78 (gi_ (si_ q13.2 154 (Int32.toNatClampNeg (x3 + 1)) ((gi_ q13.2 154 (Int32.toNatClampNeg x3)) + 4)) 154 (Int32.toNatClampNeg (x3 + 1))))))))))))
else
(gd_ (ix_ (x3 + 1) 8)
((some (Sum.inl (Sum.inr (Sum.inl ((x1, x2, (x3 + 1), (si_ (si_ q13.2 154 (Int32.toNatClampNeg (x3 + 1)) ((gi_ q13.2 154 (Int32.toNatClampNeg x3)) + 4)) 152 (Int32.toNatClampNeg (x3 + 1)) (-1)))))))))))
else
(gd_ (ix_ (x3 + 1) 9)
(if (gi_ (si_ q13.2 154 (Int32.toNatClampNeg (x3 + 1)) ((gi_ q13.2 154 (Int32.toNatClampNeg x3)) + 4)) 154 (Int32.toNatClampNeg (x3 + 1))) < (gi_ q13.2 106 78) then
(if (gi_ q13.2 106 77) ≤ (x3 + 1) then
(gd_ (ix_ (x3 + 1) 9)
((some (Sum.inl (Sum.inr (Sum.inr ((x1, x2, x3, 0, (si_ (si_ q13.2 154 (Int32.toNatClampNeg (x3 + 1)) ((gi_ q13.2 154 (Int32.toNatClampNeg x3)) + 4)) 106 78 (gi_ (si_ q13.2 154 (Int32.toNatClampNeg (x3 + 1)) ((gi_ q13.2 154 (Int32.toNatClampNeg x3)) + 4)) 154 (Int32.toNatClampNeg (x3 + 1))))))))))))
else
(gd_ (ix_ (x3 + 1) 8)
((some (Sum.inl (Sum.inr (Sum.inl ((x1, x2, (x3 + 1), (si_ (si_ q13.2 154 (Int32.toNatClampNeg (x3 + 1)) ((gi_ q13.2 154 (Int32.toNatClampNeg x3)) + 4)) 152 (Int32.toNatClampNeg (x3 + 1)) (-1)))))))))))
else
((some (Sum.inl (Sum.inr (Sum.inl ((x1, x2, x3, (si_ q13.2 154 (Int32.toNatClampNeg (x3 + 1)) ((gi_ q13.2 154 (Int32.toNatClampNeg x3)) + 4)))))))))))))
else
(gd_ (ix_ x3 8)
(gd_ (ix_ x3 8)
(Option.bind (f_X12_price (gi_ q13.2 151 (Int32.toNatClampNeg x3)) (gi_ q13.2 152 (Int32.toNatClampNeg x3)) q13.2) fun q28 =>
(gd_ (ix_ (x3 + 1) 9)
(if (gi_ q28.2 106 78) < 0 then
(if (gi_ q28.2 106 77) ≤ (x3 + 1) then
(gd_ (ix_ (x3 + 1) 9)
((some (Sum.inl (Sum.inr (Sum.inr ((x1, x2, x3, 0, (si_ (si_ q28.2 154 (Int32.toNatClampNeg (x3 + 1)) ((gi_ q13.2 154 (Int32.toNatClampNeg x3)) + q28.1)) 106 78 (gi_ (si_ q28.2 154 (Int32.toNatClampNeg (x3 + 1)) ((gi_ q13.2 154 (Int32.toNatClampNeg x3)) + q28.1)) 154 (Int32.toNatClampNeg (x3 + 1))))))))))))
else
(gd_ (ix_ (x3 + 1) 8)
((some (Sum.inl (Sum.inr (Sum.inl ((x1, x2, (x3 + 1), (si_ (si_ q28.2 154 (Int32.toNatClampNeg (x3 + 1)) ((gi_ q13.2 154 (Int32.toNatClampNeg x3)) + q28.1)) 152 (Int32.toNatClampNeg (x3 + 1)) (-1)))))))))))
else
(gd_ (ix_ (x3 + 1) 9)
(if (gi_ (si_ q28.2 154 (Int32.toNatClampNeg (x3 + 1)) ((gi_ q13.2 154 (Int32.toNatClampNeg x3)) + q28.1)) 154 (Int32.toNatClampNeg (x3 + 1))) < (gi_ q28.2 106 78) then
(if (gi_ q28.2 106 77) ≤ (x3 + 1) then
(gd_ (ix_ (x3 + 1) 9)
((some (Sum.inl (Sum.inr (Sum.inr ((x1, x2, x3, 0, (si_ (si_ q28.2 154 (Int32.toNatClampNeg (x3 + 1)) ((gi_ q13.2 154 (Int32.toNatClampNeg x3)) + q28.1)) 106 78 (gi_ (si_ q28.2 154 (Int32.toNatClampNeg (x3 + 1)) ((gi_ q13.2 154 (Int32.toNatClampNeg x3)) + q28.1)) 154 (Int32.toNatClampNeg (x3 + 1))))))))))))
else
(gd_ (ix_ (x3 + 1) 8)
((some (Sum.inl (Sum.inr (Sum.inl ((x1, x2, (x3 + 1), (si_ (si_ q28.2 154 (Int32.toNatClampNeg (x3 + 1)) ((gi_ q13.2 154 (Int32.toNatClampNeg x3)) + q28.1)) 152 (Int32.toNatClampNeg (x3 + 1)) (-1)))))))))))
else
((some (Sum.inl (Sum.inr (Sum.inl ((x1, x2, x3, (si_ q28.2 154 (Int32.toNatClampNeg (x3 + 1)) ((gi_ q13.2 154 (Int32.toNatClampNeg x3)) + q28.1)))))))))))))))))))))
else
((some (Sum.inl (Sum.inr (Sum.inl ((x1, x2, (x3 + (-1)), (si_ m 152 (Int32.toNatClampNeg x3) ((gi_ m 152 (Int32.toNatClampNeg x3)) + 1)))))))))))))))
  | Sum.inr (Sum.inr ((x1, x2, x3, x4, m))) =>
    (if (gi_ m 106 77) ≤ x4 then
((some (Sum.inl (Sum.inr (Sum.inl ((x1, x2, x3, m)))))))
else
(gd_ (ix_ x4 8)
(if (gi_ m 152 (Int32.toNatClampNeg x4)) = (gi_ m 106 57) then
(gd_ (ix_ x4 8)
((some (Sum.inl (Sum.inr (Sum.inr ((x1, x2, x3, (x4 + 1), (si_ m 153 (Int32.toNatClampNeg x4) (-1))))))))))
else
(gd_ (ix_ x4 8)
(gd_ (ix_ x4 8)
((some (Sum.inl (Sum.inr (Sum.inr ((x1, x2, x3, (x4 + 1), (si_ m 153 (Int32.toNatClampNeg x4) (gi_ m 152 (Int32.toNatClampNeg x4)))))))))))))))
noncomputable def f_X12_know_7 (x1 : Int32) (x2 : Int32) (x3 : Int32) (m : fm_) : Option (Int32 × fm_) := am_lp (st_X12_know) (Sum.inl ((x1, x2, x3, m)))
noncomputable def f_X12_know_106 (x1 : Int32) (x2 : Int32) (x3 : Int32) (m : fm_) : Option (Int32 × fm_) := am_lp (st_X12_know) (Sum.inr (Sum.inl ((x1, x2, x3, m))))
noncomputable def f_X12_know_268 (x1 : Int32) (x2 : Int32) (x3 : Int32) (x4 : Int32) (m : fm_) : Option (Int32 × fm_) := am_lp (st_X12_know) (Sum.inr (Sum.inr ((x1, x2, x3, x4, m))))
theorem e_X12_know_7 (x1 : Int32) (x2 : Int32) (x3 : Int32) (m : fm_) : f_X12_know_7 x1 x2 x3 m =
(if (gi_ m 106 58) ≤ x3 then
(gd_ (ix_ 0 9)
(gd_ (ix_ 0 8)
(if (gi_ m 106 77) = 0 then
((f_X12_know_106 x1 x2 0 (si_ (si_ (si_ (si_ m 106 78 (-1)) 154 (Int32.toNatClampNeg 0) 0) 152 (Int32.toNatClampNeg 0) (-1)) 106 78 0)))
else
((f_X12_know_106 x1 x2 0 (si_ (si_ (si_ m 106 78 (-1)) 154 (Int32.toNatClampNeg 0) 0) 152 (Int32.toNatClampNeg 0) (-1)))))))
else
(gd_ (ix_ x3 200)
(if (gi_ m 141 (Int32.toNatClampNeg x3)) = 1 then
(gd_ (ix_ x3 200)
(if (gi_ m 143 (Int32.toNatClampNeg x3)) = x1 then
(Option.bind (f_X12_counts x3 x2 m) fun q17 =>
(if q17.1 = 0 then
((f_X12_know_7 x1 x2 (x3 + 1) q17.2))
else
(gd_ (ix_ (gi_ q17.2 106 77) 8)
((f_X12_know_7 x1 x2 (x3 + 1) (si_ (si_ q17.2 151 (Int32.toNatClampNeg (gi_ q17.2 106 77)) x3) 106 77 ((gi_ q17.2 106 77) + 1)))))))
else
((f_X12_know_7 x1 x2 (x3 + 1) m))))
else
((f_X12_know_7 x1 x2 (x3 + 1) m))))) :=
  (am_lp_eq _ _).trans (fe_if (fe_gd (fe_gd (fe_if (rfl) (rfl)))) (fe_gd (fe_if (fe_gd (fe_if (fe_bd fun q17 => (fe_if (rfl) (fe_gd (rfl)))) (rfl))) (rfl))))
theorem e_X12_know_106 (x1 : Int32) (x2 : Int32) (x3 : Int32) (m : fm_) : f_X12_know_106 x1 x2 x3 m =
(if x3 < 0 then
((some (0, m)))
else
(if (gi_ m 106 77) ≤ 0 then
((some (0, m)))
else
(gd_ (ix_ x3 8)
(gd_ (ix_ x3 8)
(gd_ (ix_ x3 8)
(if (gi_ (si_ m 152 (Int32.toNatClampNeg x3) ((gi_ m 152 (Int32.toNatClampNeg x3)) + 1)) 152 (Int32.toNatClampNeg x3)) ≤ (gi_ m 106 57) then
(Option.bind (f_X12_canBe x3 (si_ m 152 (Int32.toNatClampNeg x3) ((gi_ m 152 (Int32.toNatClampNeg x3)) + 1))) fun q13 =>
(if q13.1 = 0 then
((f_X12_know_106 x1 x2 x3 q13.2))
else
(gd_ (ix_ x3 9)
(gd_ (ix_ x3 8)
(if (gi_ q13.2 152 (Int32.toNatClampNeg x3)) = (gi_ q13.2 106 57) then
(gd_ (ix_ (x3 + 1) 9)
(if (gi_ q13.2 106 78) < 0 then
(if (gi_ q13.2 106 77) ≤ (x3 + 1) then
(gd_ (ix_ (x3 + 1) 9)
((f_X12_know_268 x1 x2 x3 0 (si_ (si_ q13.2 154 (Int32.toNatClampNeg (x3 + 1)) ((gi_ q13.2 154 (Int32.toNatClampNeg x3)) + 4)) 106 78 (gi_ (si_ q13.2 154 (Int32.toNatClampNeg (x3 + 1)) ((gi_ q13.2 154 (Int32.toNatClampNeg x3)) + 4)) 154 (Int32.toNatClampNeg (x3 + 1)))))))
else
(gd_ (ix_ (x3 + 1) 8)
((f_X12_know_106 x1 x2 (x3 + 1) (si_ (si_ q13.2 154 (Int32.toNatClampNeg (x3 + 1)) ((gi_ q13.2 154 (Int32.toNatClampNeg x3)) + 4)) 152 (Int32.toNatClampNeg (x3 + 1)) (-1))))))
else
(gd_ (ix_ (x3 + 1) 9)
(if (gi_ (si_ q13.2 154 (Int32.toNatClampNeg (x3 + 1)) ((gi_ q13.2 154 (Int32.toNatClampNeg x3)) + 4)) 154 (Int32.toNatClampNeg (x3 + 1))) < (gi_ q13.2 106 78) then
(if (gi_ q13.2 106 77) ≤ (x3 + 1) then
(gd_ (ix_ (x3 + 1) 9)
((f_X12_know_268 x1 x2 x3 0 (si_ (si_ q13.2 154 (Int32.toNatClampNeg (x3 + 1)) ((gi_ q13.2 154 (Int32.toNatClampNeg x3)) + 4)) 106 78 (gi_ (si_ q13.2 154 (Int32.toNatClampNeg (x3 + 1)) ((gi_ q13.2 154 (Int32.toNatClampNeg x3)) + 4)) 154 (Int32.toNatClampNeg (x3 + 1)))))))
else
(gd_ (ix_ (x3 + 1) 8)
((f_X12_know_106 x1 x2 (x3 + 1) (si_ (si_ q13.2 154 (Int32.toNatClampNeg (x3 + 1)) ((gi_ q13.2 154 (Int32.toNatClampNeg x3)) + 4)) 152 (Int32.toNatClampNeg (x3 + 1)) (-1))))))
else
((f_X12_know_106 x1 x2 x3 (si_ q13.2 154 (Int32.toNatClampNeg (x3 + 1)) ((gi_ q13.2 154 (Int32.toNatClampNeg x3)) + 4))))))))
else
(gd_ (ix_ x3 8)
(gd_ (ix_ x3 8)
(Option.bind (f_X12_price (gi_ q13.2 151 (Int32.toNatClampNeg x3)) (gi_ q13.2 152 (Int32.toNatClampNeg x3)) q13.2) fun q28 =>
(gd_ (ix_ (x3 + 1) 9)
(if (gi_ q28.2 106 78) < 0 then
(if (gi_ q28.2 106 77) ≤ (x3 + 1) then
(gd_ (ix_ (x3 + 1) 9)
((f_X12_know_268 x1 x2 x3 0 (si_ (si_ q28.2 154 (Int32.toNatClampNeg (x3 + 1)) ((gi_ q13.2 154 (Int32.toNatClampNeg x3)) + q28.1)) 106 78 (gi_ (si_ q28.2 154 (Int32.toNatClampNeg (x3 + 1)) ((gi_ q13.2 154 (Int32.toNatClampNeg x3)) + q28.1)) 154 (Int32.toNatClampNeg (x3 + 1)))))))
else
(gd_ (ix_ (x3 + 1) 8)
((f_X12_know_106 x1 x2 (x3 + 1) (si_ (si_ q28.2 154 (Int32.toNatClampNeg (x3 + 1)) ((gi_ q13.2 154 (Int32.toNatClampNeg x3)) + q28.1)) 152 (Int32.toNatClampNeg (x3 + 1)) (-1))))))
else
(gd_ (ix_ (x3 + 1) 9)
(if (gi_ (si_ q28.2 154 (Int32.toNatClampNeg (x3 + 1)) ((gi_ q13.2 154 (Int32.toNatClampNeg x3)) + q28.1)) 154 (Int32.toNatClampNeg (x3 + 1))) < (gi_ q28.2 106 78) then
(if (gi_ q28.2 106 77) ≤ (x3 + 1) then
(gd_ (ix_ (x3 + 1) 9)
((f_X12_know_268 x1 x2 x3 0 (si_ (si_ q28.2 154 (Int32.toNatClampNeg (x3 + 1)) ((gi_ q13.2 154 (Int32.toNatClampNeg x3)) + q28.1)) 106 78 (gi_ (si_ q28.2 154 (Int32.toNatClampNeg (x3 + 1)) ((gi_ q13.2 154 (Int32.toNatClampNeg x3)) + q28.1)) 154 (Int32.toNatClampNeg (x3 + 1)))))))
else
(gd_ (ix_ (x3 + 1) 8)
((f_X12_know_106 x1 x2 (x3 + 1) (si_ (si_ q28.2 154 (Int32.toNatClampNeg (x3 + 1)) ((gi_ q13.2 154 (Int32.toNatClampNeg x3)) + q28.1)) 152 (Int32.toNatClampNeg (x3 + 1)) (-1))))))
else
((f_X12_know_106 x1 x2 x3 (si_ q28.2 154 (Int32.toNatClampNeg (x3 + 1)) ((gi_ q13.2 154 (Int32.toNatClampNeg x3)) + q28.1))))))))))))))))
else
((f_X12_know_106 x1 x2 (x3 + (-1)) (si_ m 152 (Int32.toNatClampNeg x3) ((gi_ m 152 (Int32.toNatClampNeg x3)) + 1)))))))))) :=
  (am_lp_eq _ _).trans (fe_if (rfl) (fe_if (rfl) (fe_gd (fe_gd (fe_gd (fe_if (fe_bd fun q13 => (fe_if (rfl) (fe_gd (fe_gd (fe_if (fe_gd (fe_if (fe_if (fe_gd (rfl)) (fe_gd (rfl))) (fe_gd (fe_if (fe_if (fe_gd (rfl)) (fe_gd (rfl))) (rfl))))) (fe_gd (fe_gd (fe_bd fun q28 => (fe_gd (fe_if (fe_if (fe_gd (rfl)) (fe_gd (rfl))) (fe_gd (fe_if (fe_if (fe_gd (rfl)) (fe_gd (rfl))) (rfl))))))))))))) (rfl)))))))
theorem e_X12_know_268 (x1 : Int32) (x2 : Int32) (x3 : Int32) (x4 : Int32) (m : fm_) : f_X12_know_268 x1 x2 x3 x4 m =
(if (gi_ m 106 77) ≤ x4 then
((f_X12_know_106 x1 x2 x3 m))
else
(gd_ (ix_ x4 8)
(if (gi_ m 152 (Int32.toNatClampNeg x4)) = (gi_ m 106 57) then
(gd_ (ix_ x4 8)
((f_X12_know_268 x1 x2 x3 (x4 + 1) (si_ m 153 (Int32.toNatClampNeg x4) (-1)))))
else
(gd_ (ix_ x4 8)
(gd_ (ix_ x4 8)
((f_X12_know_268 x1 x2 x3 (x4 + 1) (si_ m 153 (Int32.toNatClampNeg x4) (gi_ m 152 (Int32.toNatClampNeg x4)))))))))) :=
  (am_lp_eq _ _).trans (fe_if (rfl) (fe_gd (fe_if (fe_gd (rfl)) (fe_gd (fe_gd (rfl))))))
noncomputable def f_X12_know (p1 : Int32) (p2 : Int32) (m : fm_) : Option (Int32 × fm_) :=
  ((f_X12_know_7 p1 p2 0 (si_ m 106 77 0)))
def sp_X12_know : am_S := fn_sp [(235, fn_F, G_X12_counts), (242, fn_F, G_X12_canBe), (237, fn_F, G_X12_price)]
theorem sm_X12_know : am_Smono (sp_X12_know) := fn_sp_mono _
def P_X12_know (n : Nat) (r : Nat → Nat → Option Nat) (s : S_X12_know) (q : Int32 × fm_) : Prop := match s with
  | Sum.inl ((x1, x2, x3, m)) => ∀ (Q : Option Value → am_W → Prop), Q (en_v q).1 (mk_ n r q.2) → am_T m_X12_know sp_X12_know n Q 7 [some (.ref 106), some (.int x1), some (.int x2), some (.int x3), none] [] (mk_ n r m)
  | Sum.inr (Sum.inl ((x1, x2, x3, m))) => ∀ (Q : Option Value → am_W → Prop) (y4 : Option Value), Q (en_v q).1 (mk_ n r q.2) → am_T m_X12_know sp_X12_know n Q 106 [some (.ref 106), some (.int x1), some (.int x2), some (.int x3), y4] [] (mk_ n r m)
  | Sum.inr (Sum.inr ((x1, x2, x3, x4, m))) => ∀ (Q : Option Value → am_W → Prop), Q (en_v q).1 (mk_ n r q.2) → am_T m_X12_know sp_X12_know n Q 268 [some (.ref 106), some (.int x1), some (.int x2), some (.int x3), some (.int x4)] [] (mk_ n r m)
set_option maxRecDepth 100000 in
theorem t_X12_know_7 {n : Nat} {r : Nat → Nat → Option Nat} (hf : fn_F n r) {K : S_X12_know → Option (Int32 × fm_)} {q : Int32 × fm_} (hK : ∀ s, K s = some q → P_X12_know n r s q) (x1 : Int32) (x2 : Int32) (x3 : Int32) (m : fm_)
  (h : am_k K (st_X12_know (Sum.inl ((x1, x2, x3, m)))) = some q) : P_X12_know n r (Sum.inl ((x1, x2, x3, m))) q := fun Q hQ =>
  am_T.wp sm_X12_know (K := am_T m_X12_know sp_X12_know n Q) (cuts := [7, 106, 268]) (fun _ _ _ _ h => h) 37
    (⟨fn_aF hf rfl rfl, fj_if h (fun c1 h2 => ⟨fn_aF hf rfl rfl, ⟨fn_aF hf rfl rfl, Or.inl ⟨_, hf.2 106 76 154 rfl, fj_gd h2 fun g4 h3 => ⟨9, fn_aF hf rfl rfl, ix_t g4, ⟨fn_aF hf rfl rfl, Or.inl ⟨_, hf.2 106 74 152 rfl, fj_gd h3 fun g6 h5 => ⟨8, fn_aF hf rfl rfl, ix_t g6, ⟨fn_aF hf rfl rfl, fj_in h5 (fun c7 h8 => hK _ h8 _ _ hQ) (fun c7 h8 => ⟨fn_aF hf rfl rfl, hK _ h8 _ _ hQ⟩)⟩⟩⟩⟩⟩⟩⟩⟩) (fun c1 h2 => ⟨fn_aF hf rfl rfl, Or.inl ⟨_, hf.2 106 63 141 rfl, fj_gd h2 fun g10 h9 => ⟨200, fn_aF hf rfl rfl, ix_t g10, fj_in h9 (fun c11 h12 => hK _ h12 _ hQ) (fun c11 h12 => ⟨fn_aF hf rfl rfl, Or.inl ⟨_, hf.2 106 65 143 rfl, fj_gd h12 fun g14 h13 => ⟨200, fn_aF hf rfl rfl, ix_t g14, fj_in h13 (fun c15 h16 => hK _ h16 _ hQ) (fun c15 h16 => fj_bd h16 fun q17 e18 h19 => ⟨Nat.le_of_ble_eq_true rfl, fn_aF hf rfl rfl, ⟨hf, some (.int q17.1), q17.2, gp_X12_counts (n := n) (r := r)  e18, fun _ => fj_in h19 (fun c20 h21 => ⟨fn_aF hf rfl rfl, Or.inl ⟨_, hf.2 106 73 151 rfl, ⟨fn_aF hf rfl rfl, fj_gd h21 fun g23 h22 => ⟨8, fn_aF hf rfl rfl, ix_t g23, ⟨fn_aF hf rfl rfl, ⟨fn_aF hf rfl rfl, hK _ h22 _ hQ⟩⟩⟩⟩⟩⟩) (fun c20 h21 => hK _ h21 _ hQ)⟩⟩)⟩⟩⟩)⟩⟩⟩)⟩)
set_option maxRecDepth 100000 in
theorem t_X12_know_106 {n : Nat} {r : Nat → Nat → Option Nat} (hf : fn_F n r) {K : S_X12_know → Option (Int32 × fm_)} {q : Int32 × fm_} (hK : ∀ s, K s = some q → P_X12_know n r s q) (x1 : Int32) (x2 : Int32) (x3 : Int32) (m : fm_)
  (h : am_k K (st_X12_know (Sum.inr (Sum.inl ((x1, x2, x3, m))))) = some q) : P_X12_know n r (Sum.inr (Sum.inl ((x1, x2, x3, m)))) q := fun Q y4 hQ =>
  am_T.wp sm_X12_know (K := am_T m_X12_know sp_X12_know n Q) (cuts := [7, 106, 268]) (fun _ _ _ _ h => h) 82
    (fj_if h (fun c1 h2 => ⟨rfl, fj_rt h2 hQ⟩) (fun c1 h2 => ⟨fn_aF hf rfl rfl, fj_if h2 (fun c3 h4 => ⟨rfl, fj_rt h4 hQ⟩) (fun c3 h4 => ⟨fn_aF hf rfl rfl, Or.inl ⟨_, hf.2 106 74 152 rfl, fj_gd h4 fun g6 h5 => ⟨8, fn_aF hf rfl rfl, ix_t g6, fj_gd h5 fun g8 h7 => ⟨8, fn_aF hf rfl rfl, ix_t g8, ⟨fn_aF hf rfl rfl, Or.inl ⟨_, hf.2 106 74 152 rfl, fj_gd h7 fun g10 h9 => ⟨8, fn_aF hf rfl rfl, ix_t g10, ⟨fn_aF hf rfl rfl, fj_if h9 (fun c11 h12 => fj_bd h12 fun q13 e14 h15 => ⟨Nat.le_of_ble_eq_true rfl, fn_aF hf rfl rfl, ⟨hf, some (.int q13.1), q13.2, gp_X12_canBe (n := n) (r := r)  e14, fun _ => fj_in h15 (fun c16 h17 => ⟨fn_aF hf rfl rfl, Or.inl ⟨_, hf.2 106 76 154 rfl, ⟨fn_aF hf rfl rfl, Or.inl ⟨_, hf.2 106 76 154 rfl, fj_gd h17 fun g19 h18 => ⟨9, fn_aF hf rfl rfl, ix_t g19, ⟨fn_aF hf rfl rfl, Or.inl ⟨_, hf.2 106 74 152 rfl, fj_gd h18 fun g21 h20 => ⟨8, fn_aF hf rfl rfl, ix_t g21, ⟨fn_aF hf rfl rfl, fj_in h20 (fun c22 h23 => ⟨fn_aF hf rfl rfl, Or.inl ⟨_, hf.2 106 73 151 rfl, fj_gd h23 fun g25 h24 => ⟨8, fn_aF hf rfl rfl, ix_t g25, ⟨fn_aF hf rfl rfl, Or.inl ⟨_, hf.2 106 74 152 rfl, fj_gd h24 fun g27 h26 => ⟨8, fn_aF hf rfl rfl, ix_t g27, fj_bd h26 fun q28 e29 h30 => ⟨Nat.le_of_ble_eq_true rfl, fn_aF hf rfl rfl, ⟨hf, some (.int q28.1), q28.2, gp_X12_price (n := n) (r := r)  e29, fun _ => fj_gd h30 fun g32 h31 => ⟨9, fn_aF hf rfl rfl, ix_t g32, ⟨fn_aF hf rfl rfl, fj_if h31 (fun c33 h34 => ⟨fn_aF hf rfl rfl, fj_if h34 (fun c35 h36 => ⟨fn_aF hf rfl rfl, Or.inl ⟨_, hf.2 106 76 154 rfl, fj_gd h36 fun g38 h37 => ⟨9, fn_aF hf rfl rfl, ix_t g38, ⟨fn_aF hf rfl rfl, hK _ h37 _ hQ⟩⟩⟩⟩) (fun c35 h36 => ⟨fn_aF hf rfl rfl, Or.inl ⟨_, hf.2 106 74 152 rfl, fj_gd h36 fun g40 h39 => ⟨8, fn_aF hf rfl rfl, ix_t g40, hK _ h39 _ _ hQ⟩⟩⟩)⟩) (fun c33 h34 => ⟨fn_aF hf rfl rfl, Or.inl ⟨_, hf.2 106 76 154 rfl, fj_gd h34 fun g42 h41 => ⟨9, fn_aF hf rfl rfl, ix_t g42, ⟨fn_aF hf rfl rfl, fj_if h41 (fun c43 h44 => ⟨fn_aF hf rfl rfl, fj_if h44 (fun c45 h46 => ⟨fn_aF hf rfl rfl, Or.inl ⟨_, hf.2 106 76 154 rfl, fj_gd h46 fun g48 h47 => ⟨9, fn_aF hf rfl rfl, ix_t g48, ⟨fn_aF hf rfl rfl, hK _ h47 _ hQ⟩⟩⟩⟩) (fun c45 h46 => ⟨fn_aF hf rfl rfl, Or.inl ⟨_, hf.2 106 74 152 rfl, fj_gd h46 fun g50 h49 => ⟨8, fn_aF hf rfl rfl, ix_t g50, hK _ h49 _ _ hQ⟩⟩⟩)⟩) (fun c43 h44 => hK _ h44 _ _ hQ)⟩⟩⟩⟩)⟩⟩⟩⟩⟩⟩⟩⟩⟩⟩) (fun c22 h23 => fj_gd h23 fun g52 h51 => ⟨9, fn_aF hf rfl rfl, ix_t g52, ⟨fn_aF hf rfl rfl, fj_if h51 (fun c53 h54 => ⟨fn_aF hf rfl rfl, fj_if h54 (fun c55 h56 => ⟨fn_aF hf rfl rfl, Or.inl ⟨_, hf.2 106 76 154 rfl, fj_gd h56 fun g58 h57 => ⟨9, fn_aF hf rfl rfl, ix_t g58, ⟨fn_aF hf rfl rfl, hK _ h57 _ hQ⟩⟩⟩⟩) (fun c55 h56 => ⟨fn_aF hf rfl rfl, Or.inl ⟨_, hf.2 106 74 152 rfl, fj_gd h56 fun g60 h59 => ⟨8, fn_aF hf rfl rfl, ix_t g60, hK _ h59 _ _ hQ⟩⟩⟩)⟩) (fun c53 h54 => ⟨fn_aF hf rfl rfl, Or.inl ⟨_, hf.2 106 76 154 rfl, fj_gd h54 fun g62 h61 => ⟨9, fn_aF hf rfl rfl, ix_t g62, ⟨fn_aF hf rfl rfl, fj_if h61 (fun c63 h64 => ⟨fn_aF hf rfl rfl, fj_if h64 (fun c65 h66 => ⟨fn_aF hf rfl rfl, Or.inl ⟨_, hf.2 106 76 154 rfl, fj_gd h66 fun g68 h67 => ⟨9, fn_aF hf rfl rfl, ix_t g68, ⟨fn_aF hf rfl rfl, hK _ h67 _ hQ⟩⟩⟩⟩) (fun c65 h66 => ⟨fn_aF hf rfl rfl, Or.inl ⟨_, hf.2 106 74 152 rfl, fj_gd h66 fun g70 h69 => ⟨8, fn_aF hf rfl rfl, ix_t g70, hK _ h69 _ _ hQ⟩⟩⟩)⟩) (fun c63 h64 => hK _ h64 _ _ hQ)⟩⟩⟩⟩)⟩⟩)⟩⟩⟩⟩⟩⟩⟩⟩⟩) (fun c16 h17 => hK _ h17 _ _ hQ)⟩⟩) (fun c11 h12 => hK _ h12 _ _ hQ)⟩⟩⟩⟩⟩⟩⟩⟩)⟩))
set_option maxRecDepth 100000 in
theorem t_X12_know_268 {n : Nat} {r : Nat → Nat → Option Nat} (hf : fn_F n r) {K : S_X12_know → Option (Int32 × fm_)} {q : Int32 × fm_} (hK : ∀ s, K s = some q → P_X12_know n r s q) (x1 : Int32) (x2 : Int32) (x3 : Int32) (x4 : Int32) (m : fm_)
  (h : am_k K (st_X12_know (Sum.inr (Sum.inr ((x1, x2, x3, x4, m))))) = some q) : P_X12_know n r (Sum.inr (Sum.inr ((x1, x2, x3, x4, m)))) q := fun Q hQ =>
  am_T.wp sm_X12_know (K := am_T m_X12_know sp_X12_know n Q) (cuts := [7, 106, 268]) (fun _ _ _ _ h => h) 23
    (⟨fn_aF hf rfl rfl, fj_if h (fun c1 h2 => hK _ h2 _ _ hQ) (fun c1 h2 => ⟨fn_aF hf rfl rfl, Or.inl ⟨_, hf.2 106 75 153 rfl, ⟨fn_aF hf rfl rfl, Or.inl ⟨_, hf.2 106 74 152 rfl, fj_gd h2 fun g4 h3 => ⟨8, fn_aF hf rfl rfl, ix_t g4, ⟨fn_aF hf rfl rfl, fj_in h3 (fun c5 h6 => ⟨fn_aF hf rfl rfl, Or.inl ⟨_, hf.2 106 74 152 rfl, fj_gd h6 fun g8 h7 => ⟨8, fn_aF hf rfl rfl, ix_t g8, fj_gd h7 fun g10 h9 => ⟨8, fn_aF hf rfl rfl, ix_t g10, hK _ h9 _ hQ⟩⟩⟩⟩) (fun c5 h6 => fj_gd h6 fun g12 h11 => ⟨8, fn_aF hf rfl rfl, ix_t g12, hK _ h11 _ hQ⟩)⟩⟩⟩⟩⟩⟩)⟩)
theorem l_X12_know {n : Nat} {r : Nat → Nat → Option Nat} (hf : fn_F n r) (s : S_X12_know) (q : Int32 × fm_) (h : am_lp (st_X12_know) s = some q) : P_X12_know n r s q :=
  am_lp_snd (P := P_X12_know n r) (fun K hK s q h => match s, h with
    | Sum.inl ((x1, x2, x3, m)), h => t_X12_know_7 hf (fun s => hK s q) x1 x2 x3 m h
    | Sum.inr (Sum.inl ((x1, x2, x3, m))), h => t_X12_know_106 hf (fun s => hK s q) x1 x2 x3 m h
    | Sum.inr (Sum.inr ((x1, x2, x3, x4, m))), h => t_X12_know_268 hf (fun s => hK s q) x1 x2 x3 x4 m h) s q h
set_option maxRecDepth 100000 in
theorem t_X12_know {n : Nat} {r : Nat → Nat → Option Nat} (hf : fn_F n r) {q : Int32 × fm_} (p1 : Int32) (p2 : Int32) {m : fm_}
  (h : f_X12_know p1 p2 m = some q) {Q : Option Value → am_W → Prop} (hQ : Q (en_v q).1 (mk_ n r q.2)) : am_T m_X12_know sp_X12_know n Q 0 [some (.ref 106), some (.int p1), some (.int p2), none, none] [] (mk_ n r m) :=
  am_T.wp sm_X12_know (K := am_T m_X12_know sp_X12_know n Q) (cuts := [7, 106, 268]) (fun _ _ _ _ h => h) 7
    (⟨fn_aF hf rfl rfl, l_X12_know hf _ _ h _ hQ⟩)
noncomputable def G_X12_know (n : Nat) (r : Nat → Nat → Option Nat) (as : List Value) (m : fm_) : Option (Option Value × fm_) := match as with
  | [.ref x0, .int p1, .int p2] => gd_ (Nat.beq x0 106) ((f_X12_know p1 p2 m).map en_v)
  | _ => none
set_option maxRecDepth 100000 in
theorem gp_X12_know {n : Nat} {r : Nat → Nat → Option Nat}  {p1 : Int32} {p2 : Int32} {m : fm_} {q : Int32 × fm_}  (e : f_X12_know p1 p2 m = some q) : G_X12_know n r [.ref 106, .int p1, .int p2] m = some (en_v q) := by
  show (gd_ (Nat.beq 106 106) ((f_X12_know p1 p2 m).map en_v)) = _
  exact fn_gd rfl (fn_mp e)
set_option maxRecDepth 100000 in
theorem ok_X12_know : am_mok 12 243 m_X12_know = true := by decide +kernel
set_option maxRecDepth 100000 in
theorem c_X12_know (l : Launch) {g : am_G} (hg : fx_ l g) : am_Met l g 3 243 (fn_s fn_F G_X12_know) := by
  refine am_sound (own := 12) (M := m_X12_know) (SP := sp_X12_know) hg.1 (by decide +kernel) ok_X12_know (by decide +kernel) ?_ (fun q hq hk => absurd hk (am_no61 (M := m_X12_know) (by decide +kernel) q hq)) (fn_ext l _ rfl g 12) (Or.inl (by decide +kernel)) ?_ ?_
  · intro q hq hk
    have hm : q.2.2.2.1 ∈ am_cs m_X12_know := am_cs_in hq hk
    rw [show am_cs m_X12_know = [235, 242, 237] by decide +kernel] at hm
    have hm : q.2.2.2.1 ∈ [235, 237, 242] := (List.all_eq_true.mp (show ([235, 242, 237] : List Nat).all (fun a => decide (a ∈ ([235, 237, 242] : List Nat))) = true by decide +kernel) _ hm |> of_decide_eq_true)
    simp only [List.mem_cons, List.not_mem_nil, or_false] at hm
    rcases hm with hm | hm | hm
    · rw [hm]; exact ⟨0, by omega, c_X12_counts l hg⟩
    · rw [hm]; exact ⟨1, by omega, c_X12_price l hg⟩
    · rw [hm]; exact ⟨2, by omega, c_X12_canBe l hg⟩
  · intro as w K h
    obtain ⟨hf, y, m1, hG, hK⟩ := h
    unfold G_X12_know at hG
    split at hG
    · exact Nat.le_of_ble_eq_true rfl
    · cases hG
  · intro as w K h
    obtain ⟨n, i0, l0, r⟩ := w
    obtain ⟨hf, y, m1, hG, hK⟩ := h
    unfold G_X12_know at hG
    split at hG
    · next x0 p1 p2 =>
      obtain ⟨hx1, hG1⟩ := gd_u hG
      obtain rfl := Nat.eq_of_beq_eq_true hx1
      obtain ⟨q, hq, he⟩ := fn_mu hG1
      obtain ⟨rfl, rfl⟩ := Prod.mk.inj he
      exact t_X12_know  hf  p1 p2 (m := (i0, l0)) hq hK
    · cases hG

/-! == X12_whose == -/
abbrev S_X12_whose : Type := (Int32 × Int32 × Int32 × fm_)
noncomputable def st_X12_whose (s : S_X12_whose) : Option (S_X12_whose ⊕ (Int32 × fm_)) := match s with
  | (x1, x2, x3, m) =>
    (gd_ (ix_ x3 8)
(if (gi_ m 151 (Int32.toNatClampNeg x3)) = x1 then
(gd_ (ix_ x3 8)
((some (Sum.inr ((gi_ m 153 (Int32.toNatClampNeg x3)), m)))))
else
((some (Sum.inl ((x1, x2, (x3 + 1), m)))))))
noncomputable def f_X12_whose_32 (x1 : Int32) (x2 : Int32) (x3 : Int32) (m : fm_) : Option (Int32 × fm_) := am_lp (st_X12_whose) ((x1, x2, x3, m))
theorem e_X12_whose_32 (x1 : Int32) (x2 : Int32) (x3 : Int32) (m : fm_) : f_X12_whose_32 x1 x2 x3 m =
(gd_ (ix_ x3 8)
(if (gi_ m 151 (Int32.toNatClampNeg x3)) = x1 then
(gd_ (ix_ x3 8)
((some ((gi_ m 153 (Int32.toNatClampNeg x3)), m))))
else
((f_X12_whose_32 x1 x2 (x3 + 1) m)))) :=
  (am_lp_eq _ _).trans (fe_gd (fe_if (fe_gd (rfl)) (rfl)))
noncomputable def f_X12_whose (p1 : Int32) (p2 : Int32) (m : fm_) : Option (Int32 × fm_) :=
  (Option.bind (f_X12_isReading p1 m) fun q1 =>
(if q1.1 = 0 then
((some ((-1), q1.2)))
else
(Option.bind (f_X12_counts p1 p2 q1.2) fun q6 =>
(if q6.1 = 0 then
((some ((-1), q6.2)))
else
(gd_ (ix_ p1 200)
(Option.bind (f_X12_know (gi_ q6.2 143 (Int32.toNatClampNeg p1)) p2 q6.2) fun q13 =>
((f_X12_whose_32 p1 p2 0 q13.2))))))))
def sp_X12_whose : am_S := fn_sp [(238, fn_F, G_X12_isReading), (235, fn_F, G_X12_counts), (243, fn_F, G_X12_know)]
theorem sm_X12_whose : am_Smono (sp_X12_whose) := fn_sp_mono _
def P_X12_whose (n : Nat) (r : Nat → Nat → Option Nat) (s : S_X12_whose) (q : Int32 × fm_) : Prop := match s with
  | (x1, x2, x3, m) => ∀ (Q : Option Value → am_W → Prop), Q (en_i q).1 (mk_ n r q.2) → am_T m_X12_whose sp_X12_whose n Q 32 [some (.ref 106), some (.int x1), some (.int x2), some (.int x3)] [] (mk_ n r m)
set_option maxRecDepth 100000 in
theorem t_X12_whose_32 {n : Nat} {r : Nat → Nat → Option Nat} (hf : fn_F n r) {K : S_X12_whose → Option (Int32 × fm_)} {q : Int32 × fm_} (hK : ∀ s, K s = some q → P_X12_whose n r s q) (x1 : Int32) (x2 : Int32) (x3 : Int32) (m : fm_)
  (h : am_k K (st_X12_whose ((x1, x2, x3, m))) = some q) : P_X12_whose n r ((x1, x2, x3, m)) q := fun Q hQ =>
  am_T.wp sm_X12_whose (K := am_T m_X12_whose sp_X12_whose n Q) (cuts := [32]) (fun _ _ _ _ h => h) 12
    (⟨fn_aF hf rfl rfl, Or.inl ⟨_, hf.2 106 73 151 rfl, fj_gd h fun g2 h1 => ⟨8, fn_aF hf rfl rfl, ix_t g2, fj_if h1 (fun c3 h4 => ⟨fn_aF hf rfl rfl, Or.inl ⟨_, hf.2 106 75 153 rfl, fj_gd h4 fun g6 h5 => ⟨8, fn_aF hf rfl rfl, ix_t g6, ⟨rfl, fj_rt h5 hQ⟩⟩⟩⟩) (fun c3 h4 => hK _ h4 _ hQ)⟩⟩⟩)
theorem l_X12_whose {n : Nat} {r : Nat → Nat → Option Nat} (hf : fn_F n r) (s : S_X12_whose) (q : Int32 × fm_) (h : am_lp (st_X12_whose) s = some q) : P_X12_whose n r s q :=
  am_lp_snd (P := P_X12_whose n r) (fun K hK s q h => match s, h with
    | (x1, x2, x3, m), h => t_X12_whose_32 hf (fun s => hK s q) x1 x2 x3 m h) s q h
set_option maxRecDepth 100000 in
theorem t_X12_whose {n : Nat} {r : Nat → Nat → Option Nat} (hf : fn_F n r) {q : Int32 × fm_} (p1 : Int32) (p2 : Int32) {m : fm_}
  (h : f_X12_whose p1 p2 m = some q) {Q : Option Value → am_W → Prop} (hQ : Q (en_i q).1 (mk_ n r q.2)) : am_T m_X12_whose sp_X12_whose n Q 0 [some (.ref 106), some (.int p1), some (.int p2), none] [] (mk_ n r m) :=
  am_T.wp sm_X12_whose (K := am_T m_X12_whose sp_X12_whose n Q) (cuts := [32]) (fun _ _ _ _ h => h) 20
    (fh_bd h fun q1 e2 h3 => ⟨Nat.le_of_ble_eq_true rfl, fn_aF hf rfl rfl, ⟨hf, some (.int q1.1), q1.2, gp_X12_isReading (n := n) (r := r)  e2, fun _ => fh_if h3 (fun c4 h5 => ⟨rfl, fh_rt h5 hQ⟩) (fun c4 h5 => fh_bd h5 fun q6 e7 h8 => ⟨Nat.le_of_ble_eq_true rfl, fn_aF hf rfl rfl, ⟨hf, some (.int q6.1), q6.2, gp_X12_counts (n := n) (r := r)  e7, fun _ => fh_in h8 (fun c9 h10 => ⟨fn_aF hf rfl rfl, Or.inl ⟨_, hf.2 106 65 143 rfl, fh_gd h10 fun g12 h11 => ⟨200, fn_aF hf rfl rfl, ix_t g12, fh_bd h11 fun q13 e14 h15 => ⟨Nat.le_of_ble_eq_true rfl, fn_aF hf rfl rfl, ⟨hf, none, q13.2, gp_X12_know (n := n) (r := r)  e14, fun _ => ⟨rfl, l_X12_whose hf _ _ h15 _ hQ⟩⟩⟩⟩⟩⟩) (fun c9 h10 => ⟨rfl, fh_rt h10 hQ⟩)⟩⟩)⟩⟩)
noncomputable def G_X12_whose (n : Nat) (r : Nat → Nat → Option Nat) (as : List Value) (m : fm_) : Option (Option Value × fm_) := match as with
  | [.ref x0, .int p1, .int p2] => gd_ (Nat.beq x0 106) ((f_X12_whose p1 p2 m).map en_i)
  | _ => none
set_option maxRecDepth 100000 in
theorem gp_X12_whose {n : Nat} {r : Nat → Nat → Option Nat}  {p1 : Int32} {p2 : Int32} {m : fm_} {q : Int32 × fm_}  (e : f_X12_whose p1 p2 m = some q) : G_X12_whose n r [.ref 106, .int p1, .int p2] m = some (en_i q) := by
  show (gd_ (Nat.beq 106 106) ((f_X12_whose p1 p2 m).map en_i)) = _
  exact fn_gd rfl (fn_mp e)
set_option maxRecDepth 100000 in
theorem ok_X12_whose : am_mok 12 244 m_X12_whose = true := by decide +kernel
set_option maxRecDepth 100000 in
theorem c_X12_whose (l : Launch) {g : am_G} (hg : fx_ l g) : am_Met l g 4 244 (fn_s fn_F G_X12_whose) := by
  refine am_sound (own := 12) (M := m_X12_whose) (SP := sp_X12_whose) hg.1 (by decide +kernel) ok_X12_whose (by decide +kernel) ?_ (fun q hq hk => absurd hk (am_no61 (M := m_X12_whose) (by decide +kernel) q hq)) (fn_ext l _ rfl g 12) (Or.inl (by decide +kernel)) ?_ ?_
  · intro q hq hk
    have hm : q.2.2.2.1 ∈ am_cs m_X12_whose := am_cs_in hq hk
    rw [show am_cs m_X12_whose = [238, 235, 243] by decide +kernel] at hm
    have hm : q.2.2.2.1 ∈ [235, 238, 243] := (List.all_eq_true.mp (show ([238, 235, 243] : List Nat).all (fun a => decide (a ∈ ([235, 238, 243] : List Nat))) = true by decide +kernel) _ hm |> of_decide_eq_true)
    simp only [List.mem_cons, List.not_mem_nil, or_false] at hm
    rcases hm with hm | hm | hm
    · rw [hm]; exact ⟨0, by omega, c_X12_counts l hg⟩
    · rw [hm]; exact ⟨0, by omega, c_X12_isReading l hg⟩
    · rw [hm]; exact ⟨3, by omega, c_X12_know l hg⟩
  · intro as w K h
    obtain ⟨hf, y, m1, hG, hK⟩ := h
    unfold G_X12_whose at hG
    split at hG
    · exact Nat.le_of_ble_eq_true rfl
    · cases hG
  · intro as w K h
    obtain ⟨n, i0, l0, r⟩ := w
    obtain ⟨hf, y, m1, hG, hK⟩ := h
    unfold G_X12_whose at hG
    split at hG
    · next x0 p1 p2 =>
      obtain ⟨hx1, hG1⟩ := gd_u hG
      obtain rfl := Nat.eq_of_beq_eq_true hx1
      obtain ⟨q, hq, he⟩ := fn_mu hG1
      obtain ⟨rfl, rfl⟩ := Prod.mk.inj he
      exact t_X12_whose  hf  p1 p2 (m := (i0, l0)) hq hK
    · cases hG

/-! == X12_doubt == -/
noncomputable def f_X12_doubt (p1 : Int32) (p2 : Int32) (m : fm_) : Option (Int32 × fm_) :=
  (Option.bind (f_X12_isDay p1 m) fun q1 =>
(if q1.1 = 0 then
((some ((-1), q1.2)))
else
(Option.bind (f_X12_know p1 p2 q1.2) fun q6 =>
((some ((gi_ q6.2 106 78), q6.2))))))
def sp_X12_doubt : am_S := fn_sp [(219, fn_0, G_X12_isDay), (243, fn_F, G_X12_know)]
theorem sm_X12_doubt : am_Smono (sp_X12_doubt) := fn_sp_mono _
set_option maxRecDepth 100000 in
theorem t_X12_doubt {n : Nat} {r : Nat → Nat → Option Nat} (hf : fn_F n r) {q : Int32 × fm_} (p1 : Int32) (p2 : Int32) {m : fm_}
  (h : f_X12_doubt p1 p2 m = some q) {Q : Option Value → am_W → Prop} (hQ : Q (en_i q).1 (mk_ n r q.2)) : am_T m_X12_doubt sp_X12_doubt n Q 0 [some (.ref 106), some (.int p1), some (.int p2)] [] (mk_ n r m) :=
  am_T.wp sm_X12_doubt (K := am_T m_X12_doubt sp_X12_doubt n Q) (cuts := []) (fun _ _ _ _ h => h) 11
    (fh_bd h fun q1 e2 h3 => ⟨Nat.le_of_ble_eq_true rfl, trivial, ⟨trivial, some (.int q1.1), q1.2, gp_X12_isDay (n := n) (r := r)  e2, fun _ => fh_in h3 (fun c4 h5 => fh_bd h5 fun q6 e7 h8 => ⟨Nat.le_of_ble_eq_true rfl, fn_aF hf rfl rfl, ⟨hf, none, q6.2, gp_X12_know (n := n) (r := r)  e7, fun _ => ⟨rfl, ⟨fn_aF hf rfl rfl, ⟨rfl, fh_rt h8 hQ⟩⟩⟩⟩⟩) (fun c4 h5 => ⟨rfl, fh_rt h5 hQ⟩)⟩⟩)
noncomputable def G_X12_doubt (n : Nat) (r : Nat → Nat → Option Nat) (as : List Value) (m : fm_) : Option (Option Value × fm_) := match as with
  | [.ref x0, .int p1, .int p2] => gd_ (Nat.beq x0 106) ((f_X12_doubt p1 p2 m).map en_i)
  | _ => none
set_option maxRecDepth 100000 in
theorem gp_X12_doubt {n : Nat} {r : Nat → Nat → Option Nat}  {p1 : Int32} {p2 : Int32} {m : fm_} {q : Int32 × fm_}  (e : f_X12_doubt p1 p2 m = some q) : G_X12_doubt n r [.ref 106, .int p1, .int p2] m = some (en_i q) := by
  show (gd_ (Nat.beq 106 106) ((f_X12_doubt p1 p2 m).map en_i)) = _
  exact fn_gd rfl (fn_mp e)
set_option maxRecDepth 100000 in
theorem ok_X12_doubt : am_mok 12 245 m_X12_doubt = true := by decide +kernel
set_option maxRecDepth 100000 in
theorem c_X12_doubt (l : Launch) {g : am_G} (hg : fx_ l g) : am_Met l g 4 245 (fn_s fn_F G_X12_doubt) := by
  refine am_sound (own := 12) (M := m_X12_doubt) (SP := sp_X12_doubt) hg.1 (by decide +kernel) ok_X12_doubt (by decide +kernel) ?_ (fun q hq hk => absurd hk (am_no61 (M := m_X12_doubt) (by decide +kernel) q hq)) (fn_ext l _ rfl g 12) (Or.inl (by decide +kernel)) ?_ ?_
  · intro q hq hk
    have hm : q.2.2.2.1 ∈ am_cs m_X12_doubt := am_cs_in hq hk
    rw [show am_cs m_X12_doubt = [219, 243] by decide +kernel] at hm
    have hm : q.2.2.2.1 ∈ [219, 243] := (List.all_eq_true.mp (show ([219, 243] : List Nat).all (fun a => decide (a ∈ ([219, 243] : List Nat))) = true by decide +kernel) _ hm |> of_decide_eq_true)
    simp only [List.mem_cons, List.not_mem_nil, or_false] at hm
    rcases hm with hm | hm
    · rw [hm]; exact ⟨0, by omega, c_X12_isDay l hg⟩
    · rw [hm]; exact ⟨3, by omega, c_X12_know l hg⟩
  · intro as w K h
    obtain ⟨hf, y, m1, hG, hK⟩ := h
    unfold G_X12_doubt at hG
    split at hG
    · exact Nat.le_of_ble_eq_true rfl
    · cases hG
  · intro as w K h
    obtain ⟨n, i0, l0, r⟩ := w
    obtain ⟨hf, y, m1, hG, hK⟩ := h
    unfold G_X12_doubt at hG
    split at hG
    · next x0 p1 p2 =>
      obtain ⟨hx1, hG1⟩ := gd_u hG
      obtain rfl := Nat.eq_of_beq_eq_true hx1
      obtain ⟨q, hq, he⟩ := fn_mu hG1
      obtain ⟨rfl, rfl⟩ := Prod.mk.inj he
      exact t_X12_doubt  hf  p1 p2 (m := (i0, l0)) hq hK
    · cases hG

