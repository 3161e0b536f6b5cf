/-! == X12_paper == -/
abbrev S_X12_paper : Type := (Int32 × Int32 × Int32 × Int32 × Int32 × fm_)
noncomputable def st_X12_paper (s : S_X12_paper) : Option (S_X12_paper ⊕ (Int32 × fm_)) := match s with
  | (x1, x2, x3, x4, x5, m) =>
    (if (gi_ m 106 58) ≤ x5 then
(if 0 ≤ x4 then
(gd_ (ix_ x4 200)
(gd_ (ix_ 1 9)
(if 0 ≤ x4 then
(gd_ (ix_ x4 200)
(gd_ (ix_ 2 9)
(if 0 ≤ x4 then
(gd_ (ix_ x4 200)
(gd_ (ix_ 3 9)
(if 0 ≤ x4 then
(gd_ (ix_ x4 200)
(gd_ (ix_ 4 9)
(gd_ (ix_ 5 9)
((some (Sum.inr (0, (si_ (si_ (si_ (si_ (si_ m 136 (Int32.toNatClampNeg 1) (gi_ m 145 (Int32.toNatClampNeg x4))) 136 (Int32.toNatClampNeg 2) (gi_ m 146 (Int32.toNatClampNeg x4))) 136 (Int32.toNatClampNeg 3) (gi_ m 147 (Int32.toNatClampNeg x4))) 136 (Int32.toNatClampNeg 4) (gi_ m 148 (Int32.toNatClampNeg x4))) 136 (Int32.toNatClampNeg 5) x2))))))))
else
(gd_ (ix_ 4 9)
(gd_ (ix_ 5 9)
((some (Sum.inr (0, (si_ (si_ (si_ (si_ (si_ m 136 (Int32.toNatClampNeg 1) (gi_ m 145 (Int32.toNatClampNeg x4))) 136 (Int32.toNatClampNeg 2) (gi_ m 146 (Int32.toNatClampNeg x4))) 136 (Int32.toNatClampNeg 3) (gi_ m 147 (Int32.toNatClampNeg x4))) 136 (Int32.toNatClampNeg 4) 0) 136 (Int32.toNatClampNeg 5) x2))))))))))
else
(gd_ (ix_ 3 9)
(if 0 ≤ x4 then
(gd_ (ix_ x4 200)
(gd_ (ix_ 4 9)
(gd_ (ix_ 5 9)
((some (Sum.inr (0, (si_ (si_ (si_ (si_ (si_ m 136 (Int32.toNatClampNeg 1) (gi_ m 145 (Int32.toNatClampNeg x4))) 136 (Int32.toNatClampNeg 2) (gi_ m 146 (Int32.toNatClampNeg x4))) 136 (Int32.toNatClampNeg 3) 0) 136 (Int32.toNatClampNeg 4) (gi_ m 148 (Int32.toNatClampNeg x4))) 136 (Int32.toNatClampNeg 5) x2))))))))
else
(gd_ (ix_ 4 9)
(gd_ (ix_ 5 9)
((some (Sum.inr (0, (si_ (si_ (si_ (si_ (si_ m 136 (Int32.toNatClampNeg 1) (gi_ m 145 (Int32.toNatClampNeg x4))) 136 (Int32.toNatClampNeg 2) (gi_ m 146 (Int32.toNatClampNeg x4))) 136 (Int32.toNatClampNeg 3) 0) 136 (Int32.toNatClampNeg 4) 0) 136 (Int32.toNatClampNeg 5) x2))))))))))))
else
(gd_ (ix_ 2 9)
(if 0 ≤ x4 then
(gd_ (ix_ x4 200)
(gd_ (ix_ 3 9)
(if 0 ≤ x4 then
(gd_ (ix_ x4 200)
(gd_ (ix_ 4 9)
(gd_ (ix_ 5 9)
((some (Sum.inr (0, (si_ (si_ (si_ (si_ (si_ m 136 (Int32.toNatClampNeg 1) (gi_ m 145 (Int32.toNatClampNeg x4))) 136 (Int32.toNatClampNeg 2) 0) 136 (Int32.toNatClampNeg 3) (gi_ m 147 (Int32.toNatClampNeg x4))) 136 (Int32.toNatClampNeg 4) (gi_ m 148 (Int32.toNatClampNeg x4))) 136 (Int32.toNatClampNeg 5) x2))))))))
else
(gd_ (ix_ 4 9)
(gd_ (ix_ 5 9)
((some (Sum.inr (0, (si_ (si_ (si_ (si_ (si_ m 136 (Int32.toNatClampNeg 1) (gi_ m 145 (Int32.toNatClampNeg x4))) 136 (Int32.toNatClampNeg 2) 0) 136 (Int32.toNatClampNeg 3) (gi_ m 147 (Int32.toNatClampNeg x4))) 136 (Int32.toNatClampNeg 4) 0) 136 (Int32.toNatClampNeg 5) x2))))))))))
else
(gd_ (ix_ 3 9)
(if 0 ≤ x4 then
(gd_ (ix_ x4 200)
(gd_ (ix_ 4 9)
(gd_ (ix_ 5 9)
((some (Sum.inr (0, (si_ (si_ (si_ (si_ (si_ m 136 (Int32.toNatClampNeg 1) (gi_ m 145 (Int32.toNatClampNeg x4))) 136 (Int32.toNatClampNeg 2) 0) 136 (Int32.toNatClampNeg 3) 0) 136 (Int32.toNatClampNeg 4) (gi_ m 148 (Int32.toNatClampNeg x4))) 136 (Int32.toNatClampNeg 5) x2))))))))
else
(gd_ (ix_ 4 9)
(gd_ (ix_ 5 9)
((some (Sum.inr (0, (si_ (si_ (si_ (si_ (si_ m 136 (Int32.toNatClampNeg 1) (gi_ m 145 (Int32.toNatClampNeg x4))) 136 (Int32.toNatClampNeg 2) 0) 136 (Int32.toNatClampNeg 3) 0) 136 (Int32.toNatClampNeg 4) 0) 136 (Int32.toNatClampNeg 5) x2))))))))))))))
else
(gd_ (ix_ 1 9)
(if 0 ≤ x4 then
(gd_ (ix_ x4 200)
(gd_ (ix_ 2 9)
(if 0 ≤ x4 then
(gd_ (ix_ x4 200)
(gd_ (ix_ 3 9)
(if 0 ≤ x4 then
(gd_ (ix_ x4 200)
(gd_ (ix_ 4 9)
(gd_ (ix_ 5 9)
((some (Sum.inr (0, (si_ (si_ (si_ (si_ (si_ m 136 (Int32.toNatClampNeg 1) 0) 136 (Int32.toNatClampNeg 2) (gi_ m 146 (Int32.toNatClampNeg x4))) 136 (Int32.toNatClampNeg 3) (gi_ m 147 (Int32.toNatClampNeg x4))) 136 (Int32.toNatClampNeg 4) (gi_ m 148 (Int32.toNatClampNeg x4))) 136 (Int32.toNatClampNeg 5) x2))))))))
else
(gd_ (ix_ 4 9)
(gd_ (ix_ 5 9)
((some (Sum.inr (0, (si_ (si_ (si_ (si_ (si_ m 136 (Int32.toNatClampNeg 1) 0) 136 (Int32.toNatClampNeg 2) (gi_ m 146 (Int32.toNatClampNeg x4))) 136 (Int32.toNatClampNeg 3) (gi_ m 147 (Int32.toNatClampNeg x4))) 136 (Int32.toNatClampNeg 4) 0) 136 (Int32.toNatClampNeg 5) x2))))))))))
else
(gd_ (ix_ 3 9)
(if 0 ≤ x4 then
(gd_ (ix_ x4 200)
(gd_ (ix_ 4 9)
(gd_ (ix_ 5 9)
((some (Sum.inr (0, (si_ (si_ (si_ (si_ (si_ m 136 (Int32.toNatClampNeg 1) 0) 136 (Int32.toNatClampNeg 2) (gi_ m 146 (Int32.toNatClampNeg x4))) 136 (Int32.toNatClampNeg 3) 0) 136 (Int32.toNatClampNeg 4) (gi_ m 148 (Int32.toNatClampNeg x4))) 136 (Int32.toNatClampNeg 5) x2))))))))
else
(gd_ (ix_ 4 9)
(gd_ (ix_ 5 9)
((some (Sum.inr (0, (si_ (si_ (si_ (si_ (si_ m 136 (Int32.toNatClampNeg 1) 0) 136 (Int32.toNatClampNeg 2) (gi_ m 146 (Int32.toNatClampNeg x4))) 136 (Int32.toNatClampNeg 3) 0) 136 (Int32.toNatClampNeg 4) 0) 136 (Int32.toNatClampNeg 5) x2))))))))))))
else
(gd_ (ix_ 2 9)
(if 0 ≤ x4 then
(gd_ (ix_ x4 200)
(gd_ (ix_ 3 9)
(if 0 ≤ x4 then
(gd_ (ix_ x4 200)
(gd_ (ix_ 4 9)
(gd_ (ix_ 5 9)
((some (Sum.inr (0, (si_ (si_ (si_ (si_ (si_ m 136 (Int32.toNatClampNeg 1) 0) 136 (Int32.toNatClampNeg 2) 0) 136 (Int32.toNatClampNeg 3) (gi_ m 147 (Int32.toNatClampNeg x4))) 136 (Int32.toNatClampNeg 4) (gi_ m 148 (Int32.toNatClampNeg x4))) 136 (Int32.toNatClampNeg 5) x2))))))))
else
(gd_ (ix_ 4 9)
(gd_ (ix_ 5 9)
((some (Sum.inr (0, (si_ (si_ (si_ (si_ (si_ m 136 (Int32.toNatClampNeg 1) 0) 136 (Int32.toNatClampNeg 2) 0) 136 (Int32.toNatClampNeg 3) (gi_ m 147 (Int32.toNatClampNeg x4))) 136 (Int32.toNatClampNeg 4) 0) 136 (Int32.toNatClampNeg 5) x2))))))))))
else
(gd_ (ix_ 3 9)
(if 0 ≤ x4 then
(gd_ (ix_ x4 200)
(gd_ (ix_ 4 9)
(gd_ (ix_ 5 9)
((some (Sum.inr (0, (si_ (si_ (si_ (si_ (si_ m 136 (Int32.toNatClampNeg 1) 0) 136 (Int32.toNatClampNeg 2) 0) 136 (Int32.toNatClampNeg 3) 0) 136 (Int32.toNatClampNeg 4) (gi_ m 148 (Int32.toNatClampNeg x4))) 136 (Int32.toNatClampNeg 5) x2))))))))
else
(gd_ (ix_ 4 9)
(gd_ (ix_ 5 9)
((some (Sum.inr (0, (si_ (si_ (si_ (si_ (si_ m 136 (Int32.toNatClampNeg 1) 0) 136 (Int32.toNatClampNeg 2) 0) 136 (Int32.toNatClampNeg 3) 0) 136 (Int32.toNatClampNeg 4) 0) 136 (Int32.toNatClampNeg 5) x2))))))))))))))
else
(gd_ (ix_ x5 200)
(if (gi_ m 141 (Int32.toNatClampNeg x5)) = 0 then
(gd_ (ix_ x5 200)
(if (gi_ m 142 (Int32.toNatClampNeg x5)) = x1 then
(gd_ (ix_ x5 200)
(if x2 < (gi_ m 143 (Int32.toNatClampNeg x5)) then
((some (Sum.inl ((x1, x2, x3, x4, (x5 + 1), m)))))
else
(Option.bind (f_X12_counts x5 x3 m) fun q167 =>
(if q167.1 = 0 then
((some (Sum.inl ((x1, x2, x3, x4, (x5 + 1), q167.2)))))
else
(if x4 < 0 then
((some (Sum.inl ((x1, x2, x3, x5, (x5 + 1), q167.2)))))
else
(gd_ (ix_ x5 200)
(gd_ (ix_ x4 200)
(if (gi_ q167.2 143 (Int32.toNatClampNeg x5)) < (gi_ q167.2 143 (Int32.toNatClampNeg x4)) then
((some (Sum.inl ((x1, x2, x3, x4, (x5 + 1), q167.2)))))
else
((some (Sum.inl ((x1, x2, x3, x5, (x5 + 1), q167.2)))))))))))))
else
((some (Sum.inl ((x1, x2, x3, x4, (x5 + 1), m)))))))
else
((some (Sum.inl ((x1, x2, x3, x4, (x5 + 1), m))))))))
noncomputable def f_X12_paper_6 (x1 : Int32) (x2 : Int32) (x3 : Int32) (x4 : Int32) (x5 : Int32) (m : fm_) : Option (Int32 × fm_) := am_lp (st_X12_paper) ((x1, x2, x3, x4, x5, m))
theorem e_X12_paper_6 (x1 : Int32) (x2 : Int32) (x3 : Int32) (x4 : Int32) (x5 : Int32) (m : fm_) : f_X12_paper_6 x1 x2 x3 x4 x5 m =
(if (gi_ m 106 58) ≤ x5 then
(if 0 ≤ x4 then
(gd_ (ix_ x4 200)
(gd_ (ix_ 1 9)
(if 0 ≤ x4 then
(gd_ (ix_ x4 200)
(gd_ (ix_ 2 9)
(if 0 ≤ x4 then
(gd_ (ix_ x4 200)
(gd_ (ix_ 3 9)
(if 0 ≤ x4 then
(gd_ (ix_ x4 200)
(gd_ (ix_ 4 9)
(gd_ (ix_ 5 9)
((some (0, (si_ (si_ (si_ (si_ (si_ m 136 (Int32.toNatClampNeg 1) (gi_ m 145 (Int32.toNatClampNeg x4))) 136 (Int32.toNatClampNeg 2) (gi_ m 146 (Int32.toNatClampNeg x4))) 136 (Int32.toNatClampNeg 3) (gi_ m 147 (Int32.toNatClampNeg x4))) 136 (Int32.toNatClampNeg 4) (gi_ m 148 (Int32.toNatClampNeg x4))) 136 (Int32.toNatClampNeg 5) x2)))))))
else
(gd_ (ix_ 4 9)
(gd_ (ix_ 5 9)
((some (0, (si_ (si_ (si_ (si_ (si_ m 136 (Int32.toNatClampNeg 1) (gi_ m 145 (Int32.toNatClampNeg x4))) 136 (Int32.toNatClampNeg 2) (gi_ m 146 (Int32.toNatClampNeg x4))) 136 (Int32.toNatClampNeg 3) (gi_ m 147 (Int32.toNatClampNeg x4))) 136 (Int32.toNatClampNeg 4) 0) 136 (Int32.toNatClampNeg 5) x2)))))))))
else
(gd_ (ix_ 3 9)
(if 0 ≤ x4 then
(gd_ (ix_ x4 200)
(gd_ (ix_ 4 9)
(gd_ (ix_ 5 9)
((some (0, (si_ (si_ (si_ (si_ (si_ m 136 (Int32.toNatClampNeg 1) (gi_ m 145 (Int32.toNatClampNeg x4))) 136 (Int32.toNatClampNeg 2) (gi_ m 146 (Int32.toNatClampNeg x4))) 136 (Int32.toNatClampNeg 3) 0) 136 (Int32.toNatClampNeg 4) (gi_ m 148 (Int32.toNatClampNeg x4))) 136 (Int32.toNatClampNeg 5) x2)))))))
else
(gd_ (ix_ 4 9)
(gd_ (ix_ 5 9)
((some (0, (si_ (si_ (si_ (si_ (si_ m 136 (Int32.toNatClampNeg 1) (gi_ m 145 (Int32.toNatClampNeg x4))) 136 (Int32.toNatClampNeg 2) (gi_ m 146 (Int32.toNatClampNeg x4))) 136 (Int32.toNatClampNeg 3) 0) 136 (Int32.toNatClampNeg 4) 0) 136 (Int32.toNatClampNeg 5) x2)))))))))))
else
(gd_ (ix_ 2 9)
(if 0 ≤ x4 then
(gd_ (ix_ x4 200)
(gd_ (ix_ 3 9)
(if 0 ≤ x4 then
(gd_ (ix_ x4 200)
(gd_ (ix_ 4 9)
(gd_ (ix_ 5 9)
((some (0, (si_ (si_ (si_ (si_ (si_ m 136 (Int32.toNatClampNeg 1) (gi_ m 145 (Int32.toNatClampNeg x4))) 136 (Int32.toNatClampNeg 2) 0) 136 (Int32.toNatClampNeg 3) (gi_ m 147 (Int32.toNatClampNeg x4))) 136 (Int32.toNatClampNeg 4) (gi_ m 148 (Int32.toNatClampNeg x4))) 136 (Int32.toNatClampNeg 5) x2)))))))
else
(gd_ (ix_ 4 9)
(gd_ (ix_ 5 9)
((some (0, (si_ (si_ (si_ (si_ (si_ m 136 (Int32.toNatClampNeg 1) (gi_ m 145 (Int32.toNatClampNeg x4))) 136 (Int32.toNatClampNeg 2) 0) 136 (Int32.toNatClampNeg 3) (gi_ m 147 (Int32.toNatClampNeg x4))) 136 (Int32.toNatClampNeg 4) 0) 136 (Int32.toNatClampNeg 5) x2)))))))))
else
(gd_ (ix_ 3 9)
(if 0 ≤ x4 then
(gd_ (ix_ x4 200)
(gd_ (ix_ 4 9)
(gd_ (ix_ 5 9)
((some (0, (si_ (si_ (si_ (si_ (si_ m 136 (Int32.toNatClampNeg 1) (gi_ m 145 (Int32.toNatClampNeg x4))) 136 (Int32.toNatClampNeg 2) 0) 136 (Int32.toNatClampNeg 3) 0) 136 (Int32.toNatClampNeg 4) (gi_ m 148 (Int32.toNatClampNeg x4))) 136 (Int32.toNatClampNeg 5) x2)))))))
else
(gd_ (ix_ 4 9)
(gd_ (ix_ 5 9)
((some (0, (si_ (si_ (si_ (si_ (si_ m 136 (Int32.toNatClampNeg 1) (gi_ m 145 (Int32.toNatClampNeg x4))) 136 (Int32.toNatClampNeg 2) 0) 136 (Int32.toNatClampNeg 3) 0) 136 (Int32.toNatClampNeg 4) 0) 136 (Int32.toNatClampNeg 5) x2)))))))))))))
else
(gd_ (ix_ 1 9)
(if 0 ≤ x4 then
(gd_ (ix_ x4 200)
(gd_ (ix_ 2 9)
(if 0 ≤ x4 then
(gd_ (ix_ x4 200)
(gd_ (ix_ 3 9)
(if 0 ≤ x4 then
(gd_ (ix_ x4 200)
(gd_ (ix_ 4 9)
(gd_ (ix_ 5 9)
((some (0, (si_ (si_ (si_ (si_ (si_ m 136 (Int32.toNatClampNeg 1) 0) 136 (Int32.toNatClampNeg 2) (gi_ m 146 (Int32.toNatClampNeg x4))) 136 (Int32.toNatClampNeg 3) (gi_ m 147 (Int32.toNatClampNeg x4))) 136 (Int32.toNatClampNeg 4) (gi_ m 148 (Int32.toNatClampNeg x4))) 136 (Int32.toNatClampNeg 5) x2)))))))
else
(gd_ (ix_ 4 9)
(gd_ (ix_ 5 9)
((some (0, (si_ (si_ (si_ (si_ (si_ m 136 (Int32.toNatClampNeg 1) 0) 136 (Int32.toNatClampNeg 2) (gi_ m 146 (Int32.toNatClampNeg x4))) 136 (Int32.toNatClampNeg 3) (gi_ m 147 (Int32.toNatClampNeg x4))) 136 (Int32.toNatClampNeg 4) 0) 136 (Int32.toNatClampNeg 5) x2)))))))))
else
(gd_ (ix_ 3 9)
(if 0 ≤ x4 then
(gd_ (ix_ x4 200)
(gd_ (ix_ 4 9)
(gd_ (ix_ 5 9)
((some (0, (si_ (si_ (si_ (si_ (si_ m 136 (Int32.toNatClampNeg 1) 0) 136 (Int32.toNatClampNeg 2) (gi_ m 146 (Int32.toNatClampNeg x4))) 136 (Int32.toNatClampNeg 3) 0) 136 (Int32.toNatClampNeg 4) (gi_ m 148 (Int32.toNatClampNeg x4))) 136 (Int32.toNatClampNeg 5) x2)))))))
else
(gd_ (ix_ 4 9)
(gd_ (ix_ 5 9)
((some (0, (si_ (si_ (si_ (si_ (si_ m 136 (Int32.toNatClampNeg 1) 0) 136 (Int32.toNatClampNeg 2) (gi_ m 146 (Int32.toNatClampNeg x4))) 136 (Int32.toNatClampNeg 3) 0) 136 (Int32.toNatClampNeg 4) 0) 136 (Int32.toNatClampNeg 5) x2)))))))))))
else
(gd_ (ix_ 2 9)
(if 0 ≤ x4 then
(gd_ (ix_ x4 200)
(gd_ (ix_ 3 9)
(if 0 ≤ x4 then
(gd_ (ix_ x4 200)
(gd_ (ix_ 4 9)
(gd_ (ix_ 5 9)
((some (0, (si_ (si_ (si_ (si_ (si_ m 136 (Int32.toNatClampNeg 1) 0) 136 (Int32.toNatClampNeg 2) 0) 136 (Int32.toNatClampNeg 3) (gi_ m 147 (Int32.toNatClampNeg x4))) 136 (Int32.toNatClampNeg 4) (gi_ m 148 (Int32.toNatClampNeg x4))) 136 (Int32.toNatClampNeg 5) x2)))))))
else
(gd_ (ix_ 4 9)
(gd_ (ix_ 5 9)
((some (0, (si_ (si_ (si_ (si_ (si_ m 136 (Int32.toNatClampNeg 1) 0) 136 (Int32.toNatClampNeg 2) 0) 136 (Int32.toNatClampNeg 3) (gi_ m 147 (Int32.toNatClampNeg x4))) 136 (Int32.toNatClampNeg 4) 0) 136 (Int32.toNatClampNeg 5) x2)))))))))
else
(gd_ (ix_ 3 9)
(if 0 ≤ x4 then
(gd_ (ix_ x4 200)
(gd_ (ix_ 4 9)
(gd_ (ix_ 5 9)
((some (0, (si_ (si_ (si_ (si_ (si_ m 136 (Int32.toNatClampNeg 1) 0) 136 (Int32.toNatClampNeg 2) 0) 136 (Int32.toNatClampNeg 3) 0) 136 (Int32.toNatClampNeg 4) (gi_ m 148 (Int32.toNatClampNeg x4))) 136 (Int32.toNatClampNeg 5) x2)))))))
else
(gd_ (ix_ 4 9)
(gd_ (ix_ 5 9)
((some (0, (si_ (si_ (si_ (si_ (si_ m 136 (Int32.toNatClampNeg 1) 0) 136 (Int32.toNatClampNeg 2) 0) 136 (Int32.toNatClampNeg 3) 0) 136 (Int32.toNatClampNeg 4) 0) 136 (Int32.toNatClampNeg 5) x2)))))))))))))
else
(gd_ (ix_ x5 200)
(if (gi_ m 141 (Int32.toNatClampNeg x5)) = 0 then
(gd_ (ix_ x5 200)
(if (gi_ m 142 (Int32.toNatClampNeg x5)) = x1 then
(gd_ (ix_ x5 200)
(if x2 < (gi_ m 143 (Int32.toNatClampNeg x5)) then
((f_X12_paper_6 x1 x2 x3 x4 (x5 + 1) m))
else
(Option.bind (f_X12_counts x5 x3 m) fun q167 =>
(if q167.1 = 0 then
((f_X12_paper_6 x1 x2 x3 x4 (x5 + 1) q167.2))
else
(if x4 < 0 then
((f_X12_paper_6 x1 x2 x3 x5 (x5 + 1) q167.2))
else
(gd_ (ix_ x5 200)
(gd_ (ix_ x4 200)
(if (gi_ q167.2 143 (Int32.toNatClampNeg x5)) < (gi_ q167.2 143 (Int32.toNatClampNeg x4)) then
((f_X12_paper_6 x1 x2 x3 x4 (x5 + 1) q167.2))
else
((f_X12_paper_6 x1 x2 x3 x5 (x5 + 1) q167.2))))))))))
else
((f_X12_paper_6 x1 x2 x3 x4 (x5 + 1) m))))
else
((f_X12_paper_6 x1 x2 x3 x4 (x5 + 1) m))))) :=
  (am_lp_eq _ _).trans (fe_if (fe_if (fe_gd (fe_gd (fe_if (fe_gd (fe_gd (fe_if (fe_gd (fe_gd (fe_if (fe_gd (fe_gd (fe_gd (rfl)))) (fe_gd (fe_gd (rfl)))))) (fe_gd (fe_if (fe_gd (fe_gd (fe_gd (rfl)))) (fe_gd (fe_gd (rfl)))))))) (fe_gd (fe_if (fe_gd (fe_gd (fe_if (fe_gd (fe_gd (fe_gd (rfl)))) (fe_gd (fe_gd (rfl)))))) (fe_gd (fe_if (fe_gd (fe_gd (fe_gd (rfl)))) (fe_gd (fe_gd (rfl)))))))))) (fe_gd (fe_if (fe_gd (fe_gd (fe_if (fe_gd (fe_gd (fe_if (fe_gd (fe_gd (fe_gd (rfl)))) (fe_gd (fe_gd (rfl)))))) (fe_gd (fe_if (fe_gd (fe_gd (fe_gd (rfl)))) (fe_gd (fe_gd (rfl)))))))) (fe_gd (fe_if (fe_gd (fe_gd (fe_if (fe_gd (fe_gd (fe_gd (rfl)))) (fe_gd (fe_gd (rfl)))))) (fe_gd (fe_if (fe_gd (fe_gd (fe_gd (rfl)))) (fe_gd (fe_gd (rfl)))))))))) (fe_gd (fe_if (fe_gd (fe_if (fe_gd (fe_if (rfl) (fe_bd fun q167 => (fe_if (rfl) (fe_if (rfl) (fe_gd (fe_gd (fe_if (rfl) (rfl))))))))) (rfl))) (rfl))))
noncomputable def f_X12_paper (p1 : Int32) (p2 : Int32) (p3 : Int32) (m : fm_) : Option (Int32 × fm_) :=
  ((f_X12_paper_6 p1 p2 p3 (-1) 0 m))
def sp_X12_paper : am_S := fn_sp [(235, fn_F, G_X12_counts)]
theorem sm_X12_paper : am_Smono (sp_X12_paper) := fn_sp_mono _
def P_X12_paper (n : Nat) (r : Nat → Nat → Option Nat) (s : S_X12_paper) (q : Int32 × fm_) : Prop := match s with
  | (x1, x2, x3, x4, x5, m) => ∀ (Q : Option Value → am_W → Prop), Q (en_v q).1 (mk_ n r q.2) → am_T m_X12_paper sp_X12_paper n Q 6 [some (.ref 106), some (.int x1), some (.int x2), some (.int x3), some (.int x4), some (.int x5)] [] (mk_ n r m)
set_option maxRecDepth 100000 in
theorem t_X12_paper_6 {n : Nat} {r : Nat → Nat → Option Nat} (hf : fn_F n r) {K : S_X12_paper → Option (Int32 × fm_)} {q : Int32 × fm_} (hK : ∀ s, K s = some q → P_X12_paper n r s q) (x1 : Int32) (x2 : Int32) (x3 : Int32) (x4 : Int32) (x5 : Int32) (m : fm_)
  (h : am_k K (st_X12_paper ((x1, x2, x3, x4, x5, m))) = some q) : P_X12_paper n r ((x1, x2, x3, x4, x5, m)) q := fun Q hQ =>
  am_T.wp sm_X12_paper (K := am_T m_X12_paper sp_X12_paper n Q) (cuts := [6]) (fun _ _ _ _ h => h) 51
    (⟨fn_aF hf rfl rfl, fj_if h (fun c1 h2 => ⟨fn_aF hf rfl rfl, Or.inl ⟨_, hf.2 106 55 136 rfl, fj_if h2 (fun c3 h4 => ⟨fn_aF hf rfl rfl, Or.inl ⟨_, hf.2 106 67 145 rfl, fj_gd h4 fun g6 h5 => ⟨200, fn_aF hf rfl rfl, ix_t g6, fj_gd h5 fun g8 h7 => ⟨9, fn_aF hf rfl rfl, ix_t g8, ⟨fn_aF hf rfl rfl, Or.inl ⟨_, hf.2 106 55 136 rfl, fj_if h7 (fun c9 h10 => ⟨fn_aF hf rfl rfl, Or.inl ⟨_, hf.2 106 68 146 rfl, fj_gd h10 fun g12 h11 => ⟨200, fn_aF hf rfl rfl, ix_t g12, fj_gd h11 fun g14 h13 => ⟨9, fn_aF hf rfl rfl, ix_t g14, ⟨fn_aF hf rfl rfl, Or.inl ⟨_, hf.2 106 55 136 rfl, fj_if h13 (fun c15 h16 => ⟨fn_aF hf rfl rfl, Or.inl ⟨_, hf.2 106 69 147 rfl, fj_gd h16 fun g18 h17 => ⟨200, fn_aF hf rfl rfl, ix_t g18, fj_gd h17 fun g20 h19 => ⟨9, fn_aF hf rfl rfl, ix_t g20, ⟨fn_aF hf rfl rfl, Or.inl ⟨_, hf.2 106 55 136 rfl, fj_if h19 (fun c21 h22 => ⟨fn_aF hf rfl rfl, Or.inl ⟨_, hf.2 106 70 148 rfl, fj_gd h22 fun g24 h23 => ⟨200, fn_aF hf rfl rfl, ix_t g24, fj_gd h23 fun g26 h25 => ⟨9, fn_aF hf rfl rfl, ix_t g26, ⟨fn_aF hf rfl rfl, Or.inl ⟨_, hf.2 106 55 136 rfl, fj_gd h25 fun g28 h27 => ⟨9, fn_aF hf rfl rfl, ix_t g28, ⟨rfl, fj_rt h27 hQ⟩⟩⟩⟩⟩⟩⟩⟩) (fun c21 h22 => fj_gd h22 fun g30 h29 => ⟨9, fn_aF hf rfl rfl, ix_t g30, ⟨fn_aF hf rfl rfl, Or.inl ⟨_, hf.2 106 55 136 rfl, fj_gd h29 fun g32 h31 => ⟨9, fn_aF hf rfl rfl, ix_t g32, ⟨rfl, fj_rt h31 hQ⟩⟩⟩⟩⟩)⟩⟩⟩⟩⟩⟩) (fun c15 h16 => fj_gd h16 fun g34 h33 => ⟨9, fn_aF hf rfl rfl, ix_t g34, ⟨fn_aF hf rfl rfl, Or.inl ⟨_, hf.2 106 55 136 rfl, fj_if h33 (fun c35 h36 => ⟨fn_aF hf rfl rfl, Or.inl ⟨_, hf.2 106 70 148 rfl, fj_gd h36 fun g38 h37 => ⟨200, fn_aF hf rfl rfl, ix_t g38, fj_gd h37 fun g40 h39 => ⟨9, fn_aF hf rfl rfl, ix_t g40, ⟨fn_aF hf rfl rfl, Or.inl ⟨_, hf.2 106 55 136 rfl, fj_gd h39 fun g42 h41 => ⟨9, fn_aF hf rfl rfl, ix_t g42, ⟨rfl, fj_rt h41 hQ⟩⟩⟩⟩⟩⟩⟩⟩) (fun c35 h36 => fj_gd h36 fun g44 h43 => ⟨9, fn_aF hf rfl rfl, ix_t g44, ⟨fn_aF hf rfl rfl, Or.inl ⟨_, hf.2 106 55 136 rfl, fj_gd h43 fun g46 h45 => ⟨9, fn_aF hf rfl rfl, ix_t g46, ⟨rfl, fj_rt h45 hQ⟩⟩⟩⟩⟩)⟩⟩⟩)⟩⟩⟩⟩⟩⟩) (fun c9 h10 => fj_gd h10 fun g48 h47 => ⟨9, fn_aF hf rfl rfl, ix_t g48, ⟨fn_aF hf rfl rfl, Or.inl ⟨_, hf.2 106 55 136 rfl, fj_if h47 (fun c49 h50 => ⟨fn_aF hf rfl rfl, Or.inl ⟨_, hf.2 106 69 147 rfl, fj_gd h50 fun g52 h51 => ⟨200, fn_aF hf rfl rfl, ix_t g52, fj_gd h51 fun g54 h53 => ⟨9, fn_aF hf rfl rfl, ix_t g54, ⟨fn_aF hf rfl rfl, Or.inl ⟨_, hf.2 106 55 136 rfl, fj_if h53 (fun c55 h56 => ⟨fn_aF hf rfl rfl, Or.inl ⟨_, hf.2 106 70 148 rfl, fj_gd h56 fun g58 h57 => ⟨200, fn_aF hf rfl rfl, ix_t g58, fj_gd h57 fun g60 h59 => ⟨9, fn_aF hf rfl rfl, ix_t g60, ⟨fn_aF hf rfl rfl, Or.inl ⟨_, hf.2 106 55 136 rfl, fj_gd h59 fun g62 h61 => ⟨9, fn_aF hf rfl rfl, ix_t g62, ⟨rfl, fj_rt h61 hQ⟩⟩⟩⟩⟩⟩⟩⟩) (fun c55 h56 => fj_gd h56 fun g64 h63 => ⟨9, fn_aF hf rfl rfl, ix_t g64, ⟨fn_aF hf rfl rfl, Or.inl ⟨_, hf.2 106 55 136 rfl, fj_gd h63 fun g66 h65 => ⟨9, fn_aF hf rfl rfl, ix_t g66, ⟨rfl, fj_rt h65 hQ⟩⟩⟩⟩⟩)⟩⟩⟩⟩⟩⟩) (fun c49 h50 => fj_gd h50 fun g68 h67 => ⟨9, fn_aF hf rfl rfl, ix_t g68, ⟨fn_aF hf rfl rfl, Or.inl ⟨_, hf.2 106 55 136 rfl, fj_if h67 (fun c69 h70 => ⟨fn_aF hf rfl rfl, Or.inl ⟨_, hf.2 106 70 148 rfl, fj_gd h70 fun g72 h71 => ⟨200, fn_aF hf rfl rfl, ix_t g72, fj_gd h71 fun g74 h73 => ⟨9, fn_aF hf rfl rfl, ix_t g74, ⟨fn_aF hf rfl rfl, Or.inl ⟨_, hf.2 106 55 136 rfl, fj_gd h73 fun g76 h75 => ⟨9, fn_aF hf rfl rfl, ix_t g76, ⟨rfl, fj_rt h75 hQ⟩⟩⟩⟩⟩⟩⟩⟩) (fun c69 h70 => fj_gd h70 fun g78 h77 => ⟨9, fn_aF hf rfl rfl, ix_t g78, ⟨fn_aF hf rfl rfl, Or.inl ⟨_, hf.2 106 55 136 rfl, fj_gd h77 fun g80 h79 => ⟨9, fn_aF hf rfl rfl, ix_t g80, ⟨rfl, fj_rt h79 hQ⟩⟩⟩⟩⟩)⟩⟩⟩)⟩⟩⟩)⟩⟩⟩⟩⟩⟩) (fun c3 h4 => fj_gd h4 fun g82 h81 => ⟨9, fn_aF hf rfl rfl, ix_t g82, ⟨fn_aF hf rfl rfl, Or.inl ⟨_, hf.2 106 55 136 rfl, fj_if h81 (fun c83 h84 => ⟨fn_aF hf rfl rfl, Or.inl ⟨_, hf.2 106 68 146 rfl, fj_gd h84 fun g86 h85 => ⟨200, fn_aF hf rfl rfl, ix_t g86, fj_gd h85 fun g88 h87 => ⟨9, fn_aF hf rfl rfl, ix_t g88, ⟨fn_aF hf rfl rfl, Or.inl ⟨_, hf.2 106 55 136 rfl, fj_if h87 (fun c89 h90 => ⟨fn_aF hf rfl rfl, Or.inl ⟨_, hf.2 106 69 147 rfl, fj_gd h90 fun g92 h91 => ⟨200, fn_aF hf rfl rfl, ix_t g92, fj_gd h91 fun g94 h93 => ⟨9, fn_aF hf rfl rfl, ix_t g94, ⟨fn_aF hf rfl rfl, Or.inl ⟨_, hf.2 106 55 136 rfl, fj_if h93 (fun c95 h96 => ⟨fn_aF hf rfl rfl, Or.inl ⟨_, hf.2 106 70 148 rfl, fj_gd h96 fun g98 h97 => ⟨200, fn_aF hf rfl rfl, ix_t g98, fj_gd h97 fun g100 h99 => ⟨9, fn_aF hf rfl rfl, ix_t g100, ⟨fn_aF hf rfl rfl, Or.inl ⟨_, hf.2 106 55 136 rfl, fj_gd h99 fun g102 h101 => ⟨9, fn_aF hf rfl rfl, ix_t g102, ⟨rfl, fj_rt h101 hQ⟩⟩⟩⟩⟩⟩⟩⟩) (fun c95 h96 => fj_gd h96 fun g104 h103 => ⟨9, fn_aF hf rfl rfl, ix_t g104, ⟨fn_aF hf rfl rfl, Or.inl ⟨_, hf.2 106 55 136 rfl, fj_gd h103 fun g106 h105 => ⟨9, fn_aF hf rfl rfl, ix_t g106, ⟨rfl, fj_rt h105 hQ⟩⟩⟩⟩⟩)⟩⟩⟩⟩⟩⟩) (fun c89 h90 => fj_gd h90 fun g108 h107 => ⟨9, fn_aF hf rfl rfl, ix_t g108, ⟨fn_aF hf rfl rfl, Or.inl ⟨_, hf.2 106 55 136 rfl, fj_if h107 (fun c109 h110 => ⟨fn_aF hf rfl rfl, Or.inl ⟨_, hf.2 106 70 148 rfl, fj_gd h110 fun g112 h111 => ⟨200, fn_aF hf rfl rfl, ix_t g112, fj_gd h111 fun g114 h113 => ⟨9, fn_aF hf rfl rfl, ix_t g114, ⟨fn_aF hf rfl rfl, Or.inl ⟨_, hf.2 106 55 136 rfl, fj_gd h113 fun g116 h115 => ⟨9, fn_aF hf rfl rfl, ix_t g116, ⟨rfl, fj_rt h115 hQ⟩⟩⟩⟩⟩⟩⟩⟩) (fun c109 h110 => fj_gd h110 fun g118 h117 => ⟨9, fn_aF hf rfl rfl, ix_t g118, ⟨fn_aF hf rfl rfl, Or.inl ⟨_, hf.2 106 55 136 rfl, fj_gd h117 fun g120 h119 => ⟨9, fn_aF hf rfl rfl, ix_t g120, ⟨rfl, fj_rt h119 hQ⟩⟩⟩⟩⟩)⟩⟩⟩)⟩⟩⟩⟩⟩⟩) (fun c83 h84 => fj_gd h84 fun g122 h121 => ⟨9, fn_aF hf rfl rfl, ix_t g122, ⟨fn_aF hf rfl rfl, Or.inl ⟨_, hf.2 106 55 136 rfl, fj_if h121 (fun c123 h124 => ⟨fn_aF hf rfl rfl, Or.inl ⟨_, hf.2 106 69 147 rfl, fj_gd h124 fun g126 h125 => ⟨200, fn_aF hf rfl rfl, ix_t g126, fj_gd h125 fun g128 h127 => ⟨9, fn_aF hf rfl rfl, ix_t g128, ⟨fn_aF hf rfl rfl, Or.inl ⟨_, hf.2 106 55 136 rfl, fj_if h127 (fun c129 h130 => ⟨fn_aF hf rfl rfl, Or.inl ⟨_, hf.2 106 70 148 rfl, fj_gd h130 fun g132 h131 => ⟨200, fn_aF hf rfl rfl, ix_t g132, fj_gd h131 fun g134 h133 => ⟨9, fn_aF hf rfl rfl, ix_t g134, ⟨fn_aF hf rfl rfl, Or.inl ⟨_, hf.2 106 55 136 rfl, fj_gd h133 fun g136 h135 => ⟨9, fn_aF hf rfl rfl, ix_t g136, ⟨rfl, fj_rt h135 hQ⟩⟩⟩⟩⟩⟩⟩⟩) (fun c129 h130 => fj_gd h130 fun g138 h137 => ⟨9, fn_aF hf rfl rfl, ix_t g138, ⟨fn_aF hf rfl rfl, Or.inl ⟨_, hf.2 106 55 136 rfl, fj_gd h137 fun g140 h139 => ⟨9, fn_aF hf rfl rfl, ix_t g140, ⟨rfl, fj_rt h139 hQ⟩⟩⟩⟩⟩)⟩⟩⟩⟩⟩⟩) (fun c123 h124 => fj_gd h124 fun g142 h141 => ⟨9, fn_aF hf rfl rfl, ix_t g142, ⟨fn_aF hf rfl rfl, Or.inl ⟨_, hf.2 106 55 136 rfl, fj_if h141 (fun c143 h144 => ⟨fn_aF hf rfl rfl, Or.inl ⟨_, hf.2 106 70 148 rfl, fj_gd h144 fun g146 h145 => ⟨200, fn_aF hf rfl rfl, ix_t g146, fj_gd h145 fun g148 h147 => ⟨9, fn_aF hf rfl rfl, ix_t g148, ⟨fn_aF hf rfl rfl, Or.inl ⟨_, hf.2 106 55 136 rfl, fj_gd h147 fun g150 h149 => ⟨9, fn_aF hf rfl rfl, ix_t g150, ⟨rfl, fj_rt h149 hQ⟩⟩⟩⟩⟩⟩⟩⟩) (fun c143 h144 => fj_gd h144 fun g152 h151 => ⟨9, fn_aF hf rfl rfl, ix_t g152, ⟨fn_aF hf rfl rfl, Or.inl ⟨_, hf.2 106 55 136 rfl, fj_gd h151 fun g154 h153 => ⟨9, fn_aF hf rfl rfl, ix_t g154, ⟨rfl, fj_rt h153 hQ⟩⟩⟩⟩⟩)⟩⟩⟩)⟩⟩⟩)⟩⟩⟩)⟩⟩) (fun c1 h2 => ⟨fn_aF hf rfl rfl, Or.inl ⟨_, hf.2 106 63 141 rfl, fj_gd h2 fun g156 h155 => ⟨200, fn_aF hf rfl rfl, ix_t g156, fj_in h155 (fun c157 h158 => hK _ h158 _ hQ) (fun c157 h158 => ⟨fn_aF hf rfl rfl, Or.inl ⟨_, hf.2 106 64 142 rfl, fj_gd h158 fun g160 h159 => ⟨200, fn_aF hf rfl rfl, ix_t g160, fj_in h159 (fun c161 h162 => hK _ h162 _ hQ) (fun c161 h162 => ⟨fn_aF hf rfl rfl, Or.inl ⟨_, hf.2 106 65 143 rfl, fj_gd h162 fun g164 h163 => ⟨200, fn_aF hf rfl rfl, ix_t g164, fj_if h163 (fun c165 h166 => hK _ h166 _ hQ) (fun c165 h166 => fj_bd h166 fun q167 e168 h169 => ⟨Nat.le_of_ble_eq_true rfl, fn_aF hf rfl rfl, ⟨hf, some (.int q167.1), q167.2, gp_X12_counts (n := n) (r := r)  e168, fun _ => fj_if h169 (fun c170 h171 => hK _ h171 _ hQ) (fun c170 h171 => fj_if h171 (fun c172 h173 => hK _ h173 _ hQ) (fun c172 h173 => ⟨fn_aF hf rfl rfl, Or.inl ⟨_, hf.2 106 65 143 rfl, fj_gd h173 fun g175 h174 => ⟨200, fn_aF hf rfl rfl, ix_t g175, ⟨fn_aF hf rfl rfl, Or.inl ⟨_, hf.2 106 65 143 rfl, fj_gd h174 fun g177 h176 => ⟨200, fn_aF hf rfl rfl, ix_t g177, fj_if h176 (fun c178 h179 => hK _ h179 _ hQ) (fun c178 h179 => hK _ h179 _ hQ)⟩⟩⟩⟩⟩⟩))⟩⟩)⟩⟩⟩)⟩⟩⟩)⟩⟩⟩)⟩)
theorem l_X12_paper {n : Nat} {r : Nat → Nat → Option Nat} (hf : fn_F n r) (s : S_X12_paper) (q : Int32 × fm_) (h : am_lp (st_X12_paper) s = some q) : P_X12_paper n r s q :=
  am_lp_snd (P := P_X12_paper n r) (fun K hK s q h => match s, h with
    | (x1, x2, x3, x4, x5, m), h => t_X12_paper_6 hf (fun s => hK s q) x1 x2 x3 x4 x5 m h) s q h
set_option maxRecDepth 100000 in
theorem t_X12_paper {n : Nat} {r : Nat → Nat → Option Nat} (hf : fn_F n r) {q : Int32 × fm_} (p1 : Int32) (p2 : Int32) (p3 : Int32) {m : fm_}
  (h : f_X12_paper p1 p2 p3 m = some q) {Q : Option Value → am_W → Prop} (hQ : Q (en_v q).1 (mk_ n r q.2)) : am_T m_X12_paper sp_X12_paper n Q 0 [some (.ref 106), some (.int p1), some (.int p2), some (.int p3), none, none] [] (mk_ n r m) :=
  am_T.wp sm_X12_paper (K := am_T m_X12_paper sp_X12_paper n Q) (cuts := [6]) (fun _ _ _ _ h => h) 6
    (l_X12_paper hf _ _ h _ hQ)
noncomputable def G_X12_paper (n : Nat) (r : Nat → Nat → Option Nat) (as : List Value) (m : fm_) : Option (Option Value × fm_) := match as with
  | [.ref x0, .int p1, .int p2, .int p3] => gd_ (Nat.beq x0 106) ((f_X12_paper p1 p2 p3 m).map en_v)
  | _ => none
set_option maxRecDepth 100000 in
theorem gp_X12_paper {n : Nat} {r : Nat → Nat → Option Nat}  {p1 : Int32} {p2 : Int32} {p3 : Int32} {m : fm_} {q : Int32 × fm_}  (e : f_X12_paper p1 p2 p3 m = some q) : G_X12_paper n r [.ref 106, .int p1, .int p2, .int p3] m = some (en_v q) := by
  show (gd_ (Nat.beq 106 106) ((f_X12_paper p1 p2 p3 m).map en_v)) = _
  exact fn_gd rfl (fn_mp e)
set_option maxRecDepth 100000 in
theorem ok_X12_paper : am_mok 12 251 m_X12_paper = true := by decide +kernel
set_option maxRecDepth 100000 in
theorem c_X12_paper (l : Launch) {g : am_G} (hg : fx_ l g) : am_Met l g 1 251 (fn_s fn_F G_X12_paper) := by
  refine am_sound (own := 12) (M := m_X12_paper) (SP := sp_X12_paper) hg.1 (by decide +kernel) ok_X12_paper (by decide +kernel) ?_ (fun q hq hk => absurd hk (am_no61 (M := m_X12_paper) (by decide +kernel) q hq)) (fn_ext l _ rfl g 12) (Or.inl (by decide +kernel)) ?_ ?_
  · intro q hq hk
    have hm : q.2.2.2.1 ∈ am_cs m_X12_paper := am_cs_in hq hk
    rw [show am_cs m_X12_paper = [235] by decide +kernel] at hm
    have hm : q.2.2.2.1 ∈ [235] := (List.all_eq_true.mp (show ([235] : List Nat).all (fun a => decide (a ∈ ([235] : List Nat))) = true by decide +kernel) _ hm |> of_decide_eq_true)
    simp only [List.mem_cons, List.not_mem_nil, or_false] at hm
    rcases hm with hm
    · rw [hm]; exact ⟨0, by omega, c_X12_counts l hg⟩
  · intro as w K h
    obtain ⟨hf, y, m1, hG, hK⟩ := h
    unfold G_X12_paper at hG
    split at hG
    · exact Nat.le_of_ble_eq_true rfl
    · cases hG
  · intro as w K h
    obtain ⟨n, i0, l0, r⟩ := w
    obtain ⟨hf, y, m1, hG, hK⟩ := h
    unfold G_X12_paper at hG
    split at hG
    · next x0 p1 p2 p3 =>
      obtain ⟨hx1, hG1⟩ := gd_u hG
      obtain rfl := Nat.eq_of_beq_eq_true hx1
      obtain ⟨q, hq, he⟩ := fn_mu hG1
      obtain ⟨rfl, rfl⟩ := Prod.mk.inj he
      exact t_X12_paper  hf  p1 p2 p3 (m := (i0, l0)) hq hK
    · cases hG

/-! == X12_classBy == -/
abbrev S_X12_classBy : Type := (Int32 × Int32 × Int32 × Int32 × Int32 × fm_)
noncomputable def st_X12_classBy (s : S_X12_classBy) : Option (S_X12_classBy ⊕ (Int32 × fm_)) := match s with
  | (x1, x2, x3, x4, x5, m) =>
    (gd_ (ix_ x1 7)
(if (gi_ m 127 (Int32.toNatClampNeg x1)) ≤ x5 then
((some (Sum.inr (0, m))))
else
(Option.bind (f_X12_holds x1 x5 m) fun q5 =>
(if q5.1 = 0 then
((some (Sum.inl ((x1, x2, x3, x4, (x5 + 1), q5.2)))))
else
(gd_ (ix_ ((6 * x1) + x5) 42)
((some (Sum.inr ((gi_ q5.2 126 (Int32.toNatClampNeg ((6 * x1) + x5))), q5.2)))))))))
noncomputable def f_X12_classBy_11 (x1 : Int32) (x2 : Int32) (x3 : Int32) (x4 : Int32) (x5 : Int32) (m : fm_) : Option (Int32 × fm_) := am_lp (st_X12_classBy) ((x1, x2, x3, x4, x5, m))
theorem e_X12_classBy_11 (x1 : Int32) (x2 : Int32) (x3 : Int32) (x4 : Int32) (x5 : Int32) (m : fm_) : f_X12_classBy_11 x1 x2 x3 x4 x5 m =
(gd_ (ix_ x1 7)
(if (gi_ m 127 (Int32.toNatClampNeg x1)) ≤ x5 then
((some (0, m)))
else
(Option.bind (f_X12_holds x1 x5 m) fun q5 =>
(if q5.1 = 0 then
((f_X12_classBy_11 x1 x2 x3 x4 (x5 + 1) q5.2))
else
(gd_ (ix_ ((6 * x1) + x5) 42)
((some ((gi_ q5.2 126 (Int32.toNatClampNeg ((6 * x1) + x5))), q5.2)))))))) :=
  (am_lp_eq _ _).trans (fe_gd (fe_if (rfl) (fe_bd fun q5 => (fe_if (rfl) (fe_gd (rfl))))))
noncomputable def f_X12_classBy (p1 : Int32) (p2 : Int32) (p3 : Int32) (p4 : Int32) (m : fm_) : Option (Int32 × fm_) :=
  (Option.bind (f_X12_paper p2 p3 p4 m) fun q1 =>
((f_X12_classBy_11 p1 p2 p3 p4 0 q1.2)))
def sp_X12_classBy : am_S := fn_sp [(251, fn_F, G_X12_paper), (223, fn_F, G_X12_holds)]
theorem sm_X12_classBy : am_Smono (sp_X12_classBy) := fn_sp_mono _
def P_X12_classBy (n : Nat) (r : Nat → Nat → Option Nat) (s : S_X12_classBy) (q : Int32 × fm_) : Prop := match s with
  | (x1, x2, x3, x4, x5, m) => ∀ (Q : Option Value → am_W → Prop), Q (en_i q).1 (mk_ n r q.2) → am_T m_X12_classBy sp_X12_classBy n Q 11 [some (.ref 106), some (.int x1), some (.int x2), some (.int x3), some (.int x4), some (.int x5)] [] (mk_ n r m)
set_option maxRecDepth 100000 in
theorem t_X12_classBy_11 {n : Nat} {r : Nat → Nat → Option Nat} (hf : fn_F n r) {K : S_X12_classBy → Option (Int32 × fm_)} {q : Int32 × fm_} (hK : ∀ s, K s = some q → P_X12_classBy n r s q) (x1 : Int32) (x2 : Int32) (x3 : Int32) (x4 : Int32) (x5 : Int32) (m : fm_)
  (h : am_k K (st_X12_classBy ((x1, x2, x3, x4, x5, m))) = some q) : P_X12_classBy n r ((x1, x2, x3, x4, x5, m)) q := fun Q hQ =>
  am_T.wp sm_X12_classBy (K := am_T m_X12_classBy sp_X12_classBy n Q) (cuts := [11]) (fun _ _ _ _ h => h) 21
    (⟨fn_aF hf rfl rfl, Or.inl ⟨_, hf.2 106 39 127 rfl, fj_gd h fun g2 h1 => ⟨7, fn_aF hf rfl rfl, ix_t g2, fj_if h1 (fun c3 h4 => ⟨rfl, fj_rt h4 hQ⟩) (fun c3 h4 => fj_bd h4 fun q5 e6 h7 => ⟨Nat.le_of_ble_eq_true rfl, fn_aF hf rfl rfl, ⟨hf, some (.int q5.1), q5.2, gp_X12_holds (n := n) (r := r)  e6, fun _ => fj_if h7 (fun c8 h9 => hK _ h9 _ hQ) (fun c8 h9 => ⟨fn_aF hf rfl rfl, Or.inl ⟨_, hf.2 106 38 126 rfl, fj_gd h9 fun g11 h10 => ⟨42, fn_aF hf rfl rfl, ix_t g11, ⟨rfl, fj_rt h10 hQ⟩⟩⟩⟩)⟩⟩)⟩⟩⟩)
theorem l_X12_classBy {n : Nat} {r : Nat → Nat → Option Nat} (hf : fn_F n r) (s : S_X12_classBy) (q : Int32 × fm_) (h : am_lp (st_X12_classBy) s = some q) : P_X12_classBy n r s q :=
  am_lp_snd (P := P_X12_classBy n r) (fun K hK s q h => match s, h with
    | (x1, x2, x3, x4, x5, m), h => t_X12_classBy_11 hf (fun s => hK s q) x1 x2 x3 x4 x5 m h) s q h
set_option maxRecDepth 100000 in
theorem t_X12_classBy {n : Nat} {r : Nat → Nat → Option Nat} (hf : fn_F n r) {q : Int32 × fm_} (p1 : Int32) (p2 : Int32) (p3 : Int32) (p4 : Int32) {m : fm_}
  (h : f_X12_classBy p1 p2 p3 p4 m = some q) {Q : Option Value → am_W → Prop} (hQ : Q (en_i q).1 (mk_ n r q.2)) : am_T m_X12_classBy sp_X12_classBy n Q 0 [some (.ref 106), some (.int p1), some (.int p2), some (.int p3), some (.int p4), none] [] (mk_ n r m) :=
  am_T.wp sm_X12_classBy (K := am_T m_X12_classBy sp_X12_classBy n Q) (cuts := [11]) (fun _ _ _ _ h => h) 9
    (fh_bd h fun q1 e2 h3 => ⟨Nat.le_of_ble_eq_true rfl, fn_aF hf rfl rfl, ⟨hf, none, q1.2, gp_X12_paper (n := n) (r := r)  e2, fun _ => ⟨rfl, l_X12_classBy hf _ _ h3 _ hQ⟩⟩⟩)
noncomputable def G_X12_classBy (n : Nat) (r : Nat → Nat → Option Nat) (as : List Value) (m : fm_) : Option (Option Value × fm_) := match as with
  | [.ref x0, .int p1, .int p2, .int p3, .int p4] => gd_ (Nat.beq x0 106) ((f_X12_classBy p1 p2 p3 p4 m).map en_i)
  | _ => none
set_option maxRecDepth 100000 in
theorem gp_X12_classBy {n : Nat} {r : Nat → Nat → Option Nat}  {p1 : Int32} {p2 : Int32} {p3 : Int32} {p4 : Int32} {m : fm_} {q : Int32 × fm_}  (e : f_X12_classBy p1 p2 p3 p4 m = some q) : G_X12_classBy n r [.ref 106, .int p1, .int p2, .int p3, .int p4] m = some (en_i q) := by
  show (gd_ (Nat.beq 106 106) ((f_X12_classBy p1 p2 p3 p4 m).map en_i)) = _
  exact fn_gd rfl (fn_mp e)
set_option maxRecDepth 100000 in
theorem ok_X12_classBy : am_mok 12 252 m_X12_classBy = true := by decide +kernel
set_option maxRecDepth 100000 in
theorem c_X12_classBy (l : Launch) {g : am_G} (hg : fx_ l g) : am_Met l g 2 252 (fn_s fn_F G_X12_classBy) := by
  refine am_sound (own := 12) (M := m_X12_classBy) (SP := sp_X12_classBy) hg.1 (by decide +kernel) ok_X12_classBy (by decide +kernel) ?_ (fun q hq hk => absurd hk (am_no61 (M := m_X12_classBy) (by decide +kernel) q hq)) (fn_ext l _ rfl g 12) (Or.inl (by decide +kernel)) ?_ ?_
  · intro q hq hk
    have hm : q.2.2.2.1 ∈ am_cs m_X12_classBy := am_cs_in hq hk
    rw [show am_cs m_X12_classBy = [251, 223] by decide +kernel] at hm
    have hm : q.2.2.2.1 ∈ [223, 251] := (List.all_eq_true.mp (show ([251, 223] : List Nat).all (fun a => decide (a ∈ ([223, 251] : List Nat))) = true by decide +kernel) _ hm |> of_decide_eq_true)
    simp only [List.mem_cons, List.not_mem_nil, or_false] at hm
    rcases hm with hm | hm
    · rw [hm]; exact ⟨0, by omega, c_X12_holds l hg⟩
    · rw [hm]; exact ⟨1, by omega, c_X12_paper l hg⟩
  · intro as w K h
    obtain ⟨hf, y, m1, hG, hK⟩ := h
    unfold G_X12_classBy at hG
    split at hG
    · exact Nat.le_of_ble_eq_true rfl
    · cases hG
  · intro as w K h
    obtain ⟨n, i0, l0, r⟩ := w
    obtain ⟨hf, y, m1, hG, hK⟩ := h
    unfold G_X12_classBy at hG
    split at hG
    · next x0 p1 p2 p3 p4 =>
      obtain ⟨hx1, hG1⟩ := gd_u hG
      obtain rfl := Nat.eq_of_beq_eq_true hx1
      obtain ⟨q, hq, he⟩ := fn_mu hG1
      obtain ⟨rfl, rfl⟩ := Prod.mk.inj he
      exact t_X12_classBy  hf  p1 p2 p3 p4 (m := (i0, l0)) hq hK
    · cases hG

/-! == X12_classOf == -/
noncomputable def f_X12_classOf (p1 : Int32) (p2 : Int32) (p3 : Int32) (m : fm_) : Option (Int32 × fm_) :=
  (Option.bind (f_X12_isPlate p1 m) fun q1 =>
(if q1.1 = 0 then
((some ((-1), q1.2)))
else
(Option.bind (f_X12_isDay p2 q1.2) fun q6 =>
(if q6.1 = 0 then
((some ((-1), q6.2)))
else
(Option.bind (f_X12_inForce p2 q6.2) fun q11 =>
(if 0 ≤ q11.1 then
(Option.bind (f_X12_classBy q11.1 p1 p2 p3 q11.2) fun q16 =>
((some (q16.1, q16.2))))
else
((some (0, q11.2)))))))))
def sp_X12_classOf : am_S := fn_sp [(227, fn_F, G_X12_isPlate), (219, fn_0, G_X12_isDay), (222, fn_F, G_X12_inForce), (252, fn_F, G_X12_classBy)]
theorem sm_X12_classOf : am_Smono (sp_X12_classOf) := fn_sp_mono _
set_option maxRecDepth 100000 in
theorem t_X12_classOf {n : Nat} {r : Nat → Nat → Option Nat} (hf : fn_F n r) {q : Int32 × fm_} (p1 : Int32) (p2 : Int32) (p3 : Int32) {m : fm_}
  (h : f_X12_classOf p1 p2 p3 m = some q) {Q : Option Value → am_W → Prop} (hQ : Q (en_i q).1 (mk_ n r q.2)) : am_T m_X12_classOf sp_X12_classOf n Q 0 [some (.ref 106), some (.int p1), some (.int p2), some (.int p3), none] [] (mk_ n r m) :=
  am_T.wp sm_X12_classOf (K := am_T m_X12_classOf sp_X12_classOf n Q) (cuts := []) (fun _ _ _ _ h => h) 21
    (fh_bd h fun q1 e2 h3 => ⟨Nat.le_of_ble_eq_true rfl, fn_aF hf rfl rfl, ⟨hf, some (.int q1.1), q1.2, gp_X12_isPlate (n := n) (r := r)  e2, fun _ => fh_if h3 (fun c4 h5 => ⟨rfl, fh_rt h5 hQ⟩) (fun c4 h5 => fh_bd h5 fun q6 e7 h8 => ⟨Nat.le_of_ble_eq_true rfl, trivial, ⟨trivial, some (.int q6.1), q6.2, gp_X12_isDay (n := n) (r := r)  e7, fun _ => fh_in h8 (fun c9 h10 => fh_bd h10 fun q11 e12 h13 => ⟨Nat.le_of_ble_eq_true rfl, fn_aF hf rfl rfl, ⟨hf, some (.int q11.1), q11.2, gp_X12_inForce (n := n) (r := r)  e12, fun _ => fh_if h13 (fun c14 h15 => fh_bd h15 fun q16 e17 h18 => ⟨Nat.le_of_ble_eq_true rfl, fn_aF hf rfl rfl, ⟨hf, some (.int q16.1), q16.2, gp_X12_classBy (n := n) (r := r)  e17, fun _ => ⟨rfl, fh_rt h18 hQ⟩⟩⟩) (fun c14 h15 => ⟨rfl, fh_rt h15 hQ⟩)⟩⟩) (fun c9 h10 => ⟨rfl, fh_rt h10 hQ⟩)⟩⟩)⟩⟩)
noncomputable def G_X12_classOf (n : Nat) (r : Nat → Nat → Option Nat) (as : List Value) (m : fm_) : Option (Option Value × fm_) := match as with
  | [.ref x0, .int p1, .int p2, .int p3] => gd_ (Nat.beq x0 106) ((f_X12_classOf p1 p2 p3 m).map en_i)
  | _ => none
set_option maxRecDepth 100000 in
theorem gp_X12_classOf {n : Nat} {r : Nat → Nat → Option Nat}  {p1 : Int32} {p2 : Int32} {p3 : Int32} {m : fm_} {q : Int32 × fm_}  (e : f_X12_classOf p1 p2 p3 m = some q) : G_X12_classOf n r [.ref 106, .int p1, .int p2, .int p3] m = some (en_i q) := by
  show (gd_ (Nat.beq 106 106) ((f_X12_classOf p1 p2 p3 m).map en_i)) = _
  exact fn_gd rfl (fn_mp e)
set_option maxRecDepth 100000 in
theorem ok_X12_classOf : am_mok 12 253 m_X12_classOf = true := by decide +kernel
set_option maxRecDepth 100000 in
theorem c_X12_classOf (l : Launch) {g : am_G} (hg : fx_ l g) : am_Met l g 3 253 (fn_s fn_F G_X12_classOf) := by
  refine am_sound (own := 12) (M := m_X12_classOf) (SP := sp_X12_classOf) hg.1 (by decide +kernel) ok_X12_classOf (by decide +kernel) ?_ (fun q hq hk => absurd hk (am_no61 (M := m_X12_classOf) (by decide +kernel) q hq)) (fn_ext l _ rfl g 12) (Or.inl (by decide +kernel)) ?_ ?_
  · intro q hq hk
    have hm : q.2.2.2.1 ∈ am_cs m_X12_classOf := am_cs_in hq hk
    rw [show am_cs m_X12_classOf = [227, 219, 222, 252] by decide +kernel] at hm
    have hm : q.2.2.2.1 ∈ [219, 222, 227, 252] := (List.all_eq_true.mp (show ([227, 219, 222, 252] : List Nat).all (fun a => decide (a ∈ ([219, 222, 227, 252] : List Nat))) = true by decide +kernel) _ hm |> of_decide_eq_true)
    simp only [List.mem_cons, List.not_mem_nil, or_false] at hm
    rcases hm with hm | hm | hm | hm
    · rw [hm]; exact ⟨0, by omega, c_X12_isDay l hg⟩
    · rw [hm]; exact ⟨0, by omega, c_X12_inForce l hg⟩
    · rw [hm]; exact ⟨0, by omega, c_X12_isPlate l hg⟩
    · rw [hm]; exact ⟨2, by omega, c_X12_classBy l hg⟩
  · intro as w K h
    obtain ⟨hf, y, m1, hG, hK⟩ := h
    unfold G_X12_classOf at hG
    split at hG
    · exact Nat.le_of_ble_eq_true rfl
    · cases hG
  · intro as w K h
    obtain ⟨n, i0, l0, r⟩ := w
    obtain ⟨hf, y, m1, hG, hK⟩ := h
    unfold G_X12_classOf at hG
    split at hG
    · next x0 p1 p2 p3 =>
      obtain ⟨hx1, hG1⟩ := gd_u hG
      obtain rfl := Nat.eq_of_beq_eq_true hx1
      obtain ⟨q, hq, he⟩ := fn_mu hG1
      obtain ⟨rfl, rfl⟩ := Prod.mk.inj he
      exact t_X12_classOf  hf  p1 p2 p3 (m := (i0, l0)) hq hK
    · cases hG

