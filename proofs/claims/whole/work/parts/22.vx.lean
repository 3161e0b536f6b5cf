set_option maxRecDepth 100000 in
theorem v_X8_append_e {SP : am_S} (hs : am_Smono SP) {Q : Option Value → am_W → Prop} {w : am_W} (hf : am_fin w) (p1 : Int32)
    (h : am_T m_X8_append SP 168 Q 3 [some (.ref 1), some (.int p1), some (.int 24)] [] w) :
    am_T m_X8_append SP 168 Q 0 [some (.ref 1), some (.int p1), none] [] w :=
  am_T.wp hs (K := am_T m_X8_append SP 168 Q) (cuts := [3]) (fun _ _ _ _ h => h) 4
    (h)

set_option maxRecDepth 100000 in
theorem v_X8_append_3 {SP : am_S} (hs : am_Smono SP) {Q : Option Value → am_W → Prop} {w : am_W} (hf : am_fin w) (x1 : Int32) (x2 : Int32)
    (h : ((x2 < 0 → Q none w) ∧ (¬ x2 < 0 → ((900 ≤ (am_gi w 1 4) → Q none w) ∧ (¬ 900 ≤ (am_gi w 1 4) → (vp_in (am_gi w 1 4) 900 ∧ ∀ w3 : am_W, w3 = am_si w 2 (Int32.toNatClampNeg (am_gi w 1 4)) (Int8.toInt32 (Int32.toInt8 (Int8.toInt32 (Int32.toInt8 (x1 >>> (x2 &&& 31)))))) → (∀ w4 : am_W, w4 = am_si w3 1 4 ((am_gi w3 1 4) + 1) → am_T m_X8_append SP 168 Q 3 [some (.ref 1), some (.int x1), some (.int (x2 + (-8)))] [] w4))))))) :
    am_T m_X8_append SP 168 Q 3 [some (.ref 1), some (.int x1), some (.int x2)] [] w :=
  am_T.wp hs (K := am_T m_X8_append SP 168 Q) (cuts := [3]) (fun _ _ _ _ h => h) 25
    (⟨fun c1 => ⟨(hf).1, ((h).1 c1)⟩, fun c1 => ⟨am_a hf rfl, ⟨fun c2 => ⟨(hf).1, ((((h).2 c1)).1 c2)⟩, fun c2 => ⟨am_a hf rfl, Or.inl ⟨2, (hf).2 1 0 2 rfl, ⟨am_a hf rfl, ⟨900, (((((h).2 c1)).2 c2)).1, Or.inl ⟨am_a hf rfl, ⟨am_a hf rfl, ⟨am_a hf rfl, (((((((h).2 c1)).2 c2)).2 _ rfl) _ rfl)⟩⟩⟩⟩⟩⟩⟩⟩⟩⟩)

set_option maxRecDepth 100000 in
theorem v_X8_split_e {SP : am_S} (hs : am_Smono SP) {Q : Option Value → am_W → Prop} {w : am_W} (hf : am_fin w) 
    (h : (∀ w1 : am_W, w1 = am_si w 1 5 0 → SP 92 [(.ref 1)] w1 (fun y2 w3 => am_fin w3 ∧ y2 = none ∧ am_T m_X8_split SP 168 Q 13 [some (.ref 1), some (.int 0), some (.int 0), none] [] w3))) :
    am_T m_X8_split SP 168 Q 0 [some (.ref 1), none, none, none] [] w :=
  am_T.wp hs (K := am_T m_X8_split SP 168 Q) (cuts := [13]) (fun _ _ _ _ h => h) 11
    (⟨am_a hf rfl, ⟨Nat.le_of_ble_eq_true rfl, am_a hf rfl, hs _ _ _ _ _ (fun y2 w3 q4 e5 => ⟨(q4).2.1, (q4).2.2⟩) ((h _ rfl))⟩⟩)

set_option maxRecDepth 100000 in
theorem v_X8_split_13 {SP : am_S} (hs : am_Smono SP) {Q : Option Value → am_W → Prop} {w : am_W} (hf : am_fin w) (x1 : Int32) (x2 : Int32) (o3 : Option Value)
    (h : ((900 ≤ x2 → SP 100 [(.ref 1), (.int 0), (.int 0), (.int (am_gi w 1 4))] w (fun y2 w3 => am_fin w3 ∧ y2 = none ∧ Q none w3)) ∧ (¬ 900 ≤ x2 → (((am_gi w 1 4) ≤ x1 → SP 100 [(.ref 1), (.int 0), (.int 0), (.int (am_gi w 1 4))] w (fun y7 w8 => am_fin w8 ∧ y7 = none ∧ Q none w8)) ∧ (¬ (am_gi w 1 4) ≤ x1 → SP 101 [(.ref 1), (.int x1)] w (fun y11 w12 => am_fin w12 ∧ ∃ z15 : Int32, y11 = some (.int z15) ∧ SP 111 [(.int z15)] w12 (fun y17 w18 => am_fin w18 ∧ ∃ z21 : Int32, y17 = some (.int z21) ∧ ((z21 = 0 → SP 102 [(.ref 1), (.int x1)] w18 (fun y24 w25 => am_fin w25 ∧ ∃ z28 : Int32, y24 = some (.int z28) ∧ ((¬ z28 = x1 → am_T m_X8_split SP 168 Q 13 [some (.ref 1), some (.int z28), some (.int (x2 + 1)), some (.int z28)] [] w25) ∧ (z28 = x1 → SP 100 [(.ref 1), (.int 1), (.int 0), (.int x1)] w25 (fun y31 w32 => am_fin w32 ∧ y31 = none ∧ Q none w32))))) ∧ (¬ z21 = 0 → ((¬ (x1 + 1) = x1 → am_T m_X8_split SP 168 Q 13 [some (.ref 1), some (.int (x1 + 1)), some (.int (x2 + 1)), some (.int (x1 + 1))] [] w18) ∧ ((x1 + 1) = x1 → SP 100 [(.ref 1), (.int 1), (.int 0), (.int x1)] w18 (fun y36 w37 => am_fin w37 ∧ y36 = none ∧ Q none w37)))))))))))) :
    am_T m_X8_split SP 168 Q 13 [some (.ref 1), some (.int x1), some (.int x2), o3] [] w :=
  am_T.wp hs (K := am_T m_X8_split SP 168 Q) (cuts := [13]) (fun _ _ _ _ h => h) 27
    (⟨fun c1 => ⟨am_a hf rfl, ⟨Nat.le_of_ble_eq_true rfl, am_a hf rfl, hs _ _ _ _ _ (fun y2 w3 q4 e5 => ⟨(q4).2.1, ⟨((q4).1).1, (q4).2.2⟩⟩) (((h).1 c1))⟩⟩, fun c1 => ⟨am_a hf rfl, ⟨fun c6 => ⟨am_a hf rfl, ⟨Nat.le_of_ble_eq_true rfl, am_a hf rfl, hs _ _ _ _ _ (fun y7 w8 q9 e10 => ⟨(q9).2.1, ⟨((q9).1).1, (q9).2.2⟩⟩) (((((h).2 c1)).1 c6))⟩⟩, fun c6 => ⟨Nat.le_of_ble_eq_true rfl, am_a hf rfl, hs _ _ _ _ _ (fun y11 w12 q13 e14 => am_ci (q13).2 fun z15 h16 => ⟨Nat.le_of_ble_eq_true rfl, trivial, hs _ _ _ _ _ (fun y17 w18 q19 e20 => am_ci (q19).2 fun z21 h22 => ⟨fun c23 => ⟨Nat.le_of_ble_eq_true rfl, am_a (q19).1 rfl, hs _ _ _ _ _ (fun y24 w25 q26 e27 => am_ci (q26).2 fun z28 h29 => ⟨fun c30 => ((h29).1 c30), fun c30 => ⟨Nat.le_of_ble_eq_true rfl, am_a (q26).1 rfl, hs _ _ _ _ _ (fun y31 w32 q33 e34 => ⟨(q33).2.1, ⟨((q33).1).1, (q33).2.2⟩⟩) (((h29).2 c30))⟩⟩) (((h22).1 c23))⟩, fun c23 => ⟨fun c35 => ((((h22).2 c23)).1 c35), fun c35 => ⟨Nat.le_of_ble_eq_true rfl, am_a (q19).1 rfl, hs _ _ _ _ _ (fun y36 w37 q38 e39 => ⟨(q38).2.1, ⟨((q38).1).1, (q38).2.2⟩⟩) (((((h22).2 c23)).2 c35))⟩⟩⟩) (h16)⟩) (((((h).2 c1)).2 c6))⟩⟩⟩⟩)

set_option maxRecDepth 100000 in
theorem v_X8_restart_e {SP : am_S} (hs : am_Smono SP) {Q : Option Value → am_W → Prop} {w : am_W} (hf : am_fin w) 
    (h : (∀ w1 : am_W, w1 = am_si w 1 6 0 → (∀ w2 : am_W, w2 = am_si w1 1 7 0 → (∀ w3 : am_W, w3 = am_si w2 1 8 (-1) → Q none w3)))) :
    am_T m_X8_restart SP 168 Q 0 [some (.ref 1)] [] w :=
  am_T.wp hs (K := am_T m_X8_restart SP 168 Q) (cuts := []) (fun _ _ _ _ h => h) 11
    (⟨am_a hf rfl, ⟨am_a hf rfl, ⟨am_a hf rfl, ⟨(hf).1, (((h _ rfl) _ rfl) _ rfl)⟩⟩⟩⟩)

set_option maxRecDepth 100000 in
theorem v_X8_kind_e {SP : am_S} (hs : am_Smono SP) {Q : Option Value → am_W → Prop} {w : am_W} (hf : am_fin w) 
    (h : (((am_gi w 1 5) ≤ (am_gi w 1 6) → Q (some (.int 0)) w) ∧ (¬ (am_gi w 1 5) ≤ (am_gi w 1 6) → (vp_in (am_gi w 1 6) 901 ∧ Q (some (.int (am_gi w 3 (Int32.toNatClampNeg (am_gi w 1 6))))) w)))) :
    am_T m_X8_kind SP 168 Q 0 [some (.ref 1)] [] w :=
  am_T.wp hs (K := am_T m_X8_kind SP 168 Q) (cuts := []) (fun _ _ _ _ h => h) 13
    (⟨am_a hf rfl, ⟨am_a hf rfl, ⟨fun c1 => ⟨(hf).1, ((h).1 c1)⟩, fun c1 => ⟨am_a hf rfl, Or.inl ⟨3, (hf).2 1 1 3 rfl, ⟨am_a hf rfl, ⟨901, am_a hf rfl, (((h).2 c1)).1, ⟨(hf).1, (((h).2 c1)).2⟩⟩⟩⟩⟩⟩⟩⟩)

set_option maxRecDepth 100000 in
theorem v_X8_value_e {SP : am_S} (hs : am_Smono SP) {Q : Option Value → am_W → Prop} {w : am_W} (hf : am_fin w) 
    (h : (((am_gi w 1 5) ≤ (am_gi w 1 6) → Q (some (.int 0)) w) ∧ (¬ (am_gi w 1 5) ≤ (am_gi w 1 6) → (vp_in (am_gi w 1 6) 901 ∧ Q (some (.int (am_gi w 4 (Int32.toNatClampNeg (am_gi w 1 6))))) w)))) :
    am_T m_X8_value SP 168 Q 0 [some (.ref 1)] [] w :=
  am_T.wp hs (K := am_T m_X8_value SP 168 Q) (cuts := []) (fun _ _ _ _ h => h) 13
    (⟨am_a hf rfl, ⟨am_a hf rfl, ⟨fun c1 => ⟨(hf).1, ((h).1 c1)⟩, fun c1 => ⟨am_a hf rfl, Or.inl ⟨4, (hf).2 1 2 4 rfl, ⟨am_a hf rfl, ⟨901, am_a hf rfl, (((h).2 c1)).1, ⟨(hf).1, (((h).2 c1)).2⟩⟩⟩⟩⟩⟩⟩⟩)

set_option maxRecDepth 100000 in
theorem v_X8_step_e {SP : am_S} (hs : am_Smono SP) {Q : Option Value → am_W → Prop} {w : am_W} (hf : am_fin w) 
    (h : ((((am_gi w 1 5) - 1) ≤ (am_gi w 1 6) → Q none w) ∧ (¬ ((am_gi w 1 5) - 1) ≤ (am_gi w 1 6) → (∀ w2 : am_W, w2 = am_si w 1 6 ((am_gi w 1 6) + 1) → Q none w2)))) :
    am_T m_X8_step SP 168 Q 0 [some (.ref 1)] [] w :=
  am_T.wp hs (K := am_T m_X8_step SP 168 Q) (cuts := []) (fun _ _ _ _ h => h) 15
    (⟨am_a hf rfl, ⟨am_a hf rfl, ⟨fun c1 => ⟨(hf).1, ((h).1 c1)⟩, fun c1 => ⟨am_a hf rfl, ⟨am_a hf rfl, ⟨(hf).1, (((h).2 c1) _ rfl)⟩⟩⟩⟩⟩⟩)

set_option maxRecDepth 100000 in
theorem v_X8_fail_e {SP : am_S} (hs : am_Smono SP) {Q : Option Value → am_W → Prop} {w : am_W} (hf : am_fin w) (p1 : Int32)
    (h : ((¬ (am_gi w 1 7) = 0 → Q (some (.int 0)) w) ∧ ((am_gi w 1 7) = 0 → (((am_gi w 1 5) ≤ (am_gi w 1 6) → Q (some (.int 0)) w) ∧ (¬ (am_gi w 1 5) ≤ (am_gi w 1 6) → (vp_in (am_gi w 1 6) 901 ∧ ((¬ (am_gi w 3 (Int32.toNatClampNeg (am_gi w 1 6))) = 1 → (∀ w4 : am_W, w4 = am_si w 1 7 p1 → (vp_in (am_gi w4 1 6) 901 ∧ (∀ w5 : am_W, w5 = am_si w4 1 8 (am_gi w4 5 (Int32.toNatClampNeg (am_gi w4 1 6))) → Q (some (.int 0)) w5)))) ∧ ((am_gi w 3 (Int32.toNatClampNeg (am_gi w 1 6))) = 1 → (∀ w6 : am_W, w6 = am_si w 1 7 1 → (vp_in (am_gi w6 1 6) 901 ∧ (∀ w7 : am_W, w7 = am_si w6 1 8 (am_gi w6 5 (Int32.toNatClampNeg (am_gi w6 1 6))) → Q (some (.int 0)) w7))))))))))) :
    am_T m_X8_fail SP 168 Q 0 [some (.ref 1), some (.int p1)] [] w :=
  am_T.wp hs (K := am_T m_X8_fail SP 168 Q) (cuts := []) (fun _ _ _ _ h => h) 29
    (⟨am_a hf rfl, ⟨fun c1 => ⟨(hf).1, Or.inl rfl, ((h).1 c1)⟩, fun c1 => ⟨am_a hf rfl, ⟨am_a hf rfl, ⟨fun c2 => ⟨(hf).1, Or.inl rfl, ((((h).2 c1)).1 c2)⟩, fun c2 => ⟨am_a hf rfl, Or.inl ⟨3, (hf).2 1 1 3 rfl, ⟨am_a hf rfl, ⟨901, am_a hf rfl, (((((h).2 c1)).2 c2)).1, ⟨fun c3 => ⟨am_a hf rfl, ⟨am_a hf rfl, Or.inl ⟨5, (hf).2 1 3 5 rfl, ⟨am_a hf rfl, ⟨901, am_a hf rfl, (((((((((h).2 c1)).2 c2)).2).1 c3) _ rfl)).1, ⟨am_a hf rfl, ⟨(hf).1, Or.inl rfl, ((((((((((h).2 c1)).2 c2)).2).1 c3) _ rfl)).2 _ rfl)⟩⟩⟩⟩⟩⟩⟩, fun c3 => ⟨am_a hf rfl, ⟨am_a hf rfl, Or.inl ⟨5, (hf).2 1 3 5 rfl, ⟨am_a hf rfl, ⟨901, am_a hf rfl, (((((((((h).2 c1)).2 c2)).2).2 c3) _ rfl)).1, ⟨am_a hf rfl, ⟨(hf).1, Or.inl rfl, ((((((((((h).2 c1)).2 c2)).2).2 c3) _ rfl)).2 _ rfl)⟩⟩⟩⟩⟩⟩⟩⟩⟩⟩⟩⟩⟩⟩⟩⟩⟩)

set_option maxRecDepth 100000 in
theorem v_X8_take_e {SP : am_S} (hs : am_Smono SP) {Q : Option Value → am_W → Prop} {w : am_W} (hf : am_fin w) (p1 : Int32)
    (h : SP 93 [(.ref 1)] w (fun y1 w2 => am_fin w2 ∧ ∃ z5 : Int32, y1 = some (.int z5) ∧ ((z5 = p1 → SP 95 [(.ref 1)] w2 (fun y8 w9 => am_fin w9 ∧ y8 = none ∧ Q (some (.int 1)) w9)) ∧ (¬ z5 = p1 → SP 96 [(.ref 1), (.int 2)] w2 (fun y12 w13 => am_fin w13 ∧ ∃ z16 : Int32, y12 = some (.int z16) ∧ ((z16 = 0 ∨ z16 = 1) ∧ Q (some (.int z16)) w13)))))) :
    am_T m_X8_take SP 168 Q 0 [some (.ref 1), some (.int p1)] [] w :=
  am_T.wp hs (K := am_T m_X8_take SP 168 Q) (cuts := []) (fun _ _ _ _ h => h) 9
    (⟨Nat.le_of_ble_eq_true rfl, am_a hf rfl, hs _ _ _ _ _ (fun y1 w2 q3 e4 => am_ci (q3).2 fun z5 h6 => ⟨fun c7 => ⟨Nat.le_of_ble_eq_true rfl, am_a (q3).1 rfl, hs _ _ _ _ _ (fun y8 w9 q10 e11 => ⟨(q10).2.1, ⟨((q10).1).1, Or.inr rfl, (q10).2.2⟩⟩) (((h6).1 c7))⟩, fun c7 => ⟨Nat.le_of_ble_eq_true rfl, am_a (q3).1 rfl, hs _ _ _ _ _ (fun y12 w13 q14 e15 => am_ci (q14).2 fun z16 h17 => ⟨((q14).1).1, (h17).1, (h17).2⟩) (((h6).2 c7))⟩⟩) (h)⟩)

set_option maxRecDepth 100000 in
theorem v_X8_takeNumber_e {SP : am_S} (hs : am_Smono SP) {Q : Option Value → am_W → Prop} {w : am_W} (hf : am_fin w) (p1 : Int32) (p2 : Int32)
    (h : SP 94 [(.ref 1)] w (fun y1 w2 => am_fin w2 ∧ ∃ z5 : Int32, y1 = some (.int z5) ∧ SP 93 [(.ref 1)] w2 (fun y7 w8 => am_fin w8 ∧ ∃ z11 : Int32, y7 = some (.int z11) ∧ ((z11 = 2 → ((z5 < p1 → SP 96 [(.ref 1), (.int 4)] w8 (fun y15 w16 => am_fin w16 ∧ ∃ z19 : Int32, y15 = some (.int z19) ∧ Q (some (.int (-1))) w16)) ∧ (¬ z5 < p1 → ((z5 ≤ p2 → SP 95 [(.ref 1)] w8 (fun y22 w23 => am_fin w23 ∧ y22 = none ∧ Q (some (.int z5)) w23)) ∧ (¬ z5 ≤ p2 → SP 96 [(.ref 1), (.int 4)] w8 (fun y26 w27 => am_fin w27 ∧ ∃ z30 : Int32, y26 = some (.int z30) ∧ Q (some (.int (-1))) w27)))))) ∧ (¬ z11 = 2 → SP 96 [(.ref 1), (.int 2)] w8 (fun y32 w33 => am_fin w33 ∧ ∃ z36 : Int32, y32 = some (.int z36) ∧ Q (some (.int (-1))) w33)))))) :
    am_T m_X8_takeNumber SP 168 Q 0 [some (.ref 1), some (.int p1), some (.int p2), none] [] w :=
  am_T.wp hs (K := am_T m_X8_takeNumber SP 168 Q) (cuts := []) (fun _ _ _ _ h => h) 20
    (⟨Nat.le_of_ble_eq_true rfl, am_a hf rfl, hs _ _ _ _ _ (fun y1 w2 q3 e4 => am_ci (q3).2 fun z5 h6 => ⟨Nat.le_of_ble_eq_true rfl, am_a (q3).1 rfl, hs _ _ _ _ _ (fun y7 w8 q9 e10 => am_ci (q9).2 fun z11 h12 => ⟨fun c13 => ⟨fun c14 => ⟨Nat.le_of_ble_eq_true rfl, am_a (q9).1 rfl, hs _ _ _ _ _ (fun y15 w16 q17 e18 => am_ci (q17).2 fun z19 h20 => ⟨((q17).1).1, h20⟩) (((((h12).1 c13)).1 c14))⟩, fun c14 => ⟨fun c21 => ⟨Nat.le_of_ble_eq_true rfl, am_a (q9).1 rfl, hs _ _ _ _ _ (fun y22 w23 q24 e25 => ⟨(q24).2.1, ⟨((q24).1).1, (q24).2.2⟩⟩) (((((((h12).1 c13)).2 c14)).1 c21))⟩, fun c21 => ⟨Nat.le_of_ble_eq_true rfl, am_a (q9).1 rfl, hs _ _ _ _ _ (fun y26 w27 q28 e29 => am_ci (q28).2 fun z30 h31 => ⟨((q28).1).1, h31⟩) (((((((h12).1 c13)).2 c14)).2 c21))⟩⟩⟩, fun c13 => ⟨Nat.le_of_ble_eq_true rfl, am_a (q9).1 rfl, hs _ _ _ _ _ (fun y32 w33 q34 e35 => am_ci (q34).2 fun z36 h37 => ⟨((q34).1).1, h37⟩) (((h12).2 c13))⟩⟩) (h6)⟩) (h)⟩)

set_option maxRecDepth 100000 in
theorem v_X8_takePoint_e {SP : am_S} (hs : am_Smono SP) {Q : Option Value → am_W → Prop} {w : am_W} (hf : am_fin w) (p1 : Int32)
    (h : SP 94 [(.ref 1)] w (fun y1 w2 => am_fin w2 ∧ ∃ z5 : Int32, y1 = some (.int z5) ∧ SP 93 [(.ref 1)] w2 (fun y7 w8 => am_fin w8 ∧ ∃ z11 : Int32, y7 = some (.int z11) ∧ ((z11 = 3 → ((¬ ((p1 >>> (z5 &&& 31)) &&& 1) = 1 → SP 95 [(.ref 1)] w8 (fun y15 w16 => am_fin w16 ∧ y15 = none ∧ Q (some (.int z5)) w16)) ∧ (((p1 >>> (z5 &&& 31)) &&& 1) = 1 → SP 96 [(.ref 1), (.int 5)] w8 (fun y19 w20 => am_fin w20 ∧ ∃ z23 : Int32, y19 = some (.int z23) ∧ Q (some (.int (-1))) w20)))) ∧ (¬ z11 = 3 → SP 96 [(.ref 1), (.int 2)] w8 (fun y25 w26 => am_fin w26 ∧ ∃ z29 : Int32, y25 = some (.int z29) ∧ Q (some (.int (-1))) w26)))))) :
    am_T m_X8_takePoint SP 168 Q 0 [some (.ref 1), some (.int p1), none] [] w :=
  am_T.wp hs (K := am_T m_X8_takePoint SP 168 Q) (cuts := []) (fun _ _ _ _ h => h) 21
    (⟨Nat.le_of_ble_eq_true rfl, am_a hf rfl, hs _ _ _ _ _ (fun y1 w2 q3 e4 => am_ci (q3).2 fun z5 h6 => ⟨Nat.le_of_ble_eq_true rfl, am_a (q3).1 rfl, hs _ _ _ _ _ (fun y7 w8 q9 e10 => am_ci (q9).2 fun z11 h12 => ⟨fun c13 => ⟨fun c14 => ⟨Nat.le_of_ble_eq_true rfl, am_a (q9).1 rfl, hs _ _ _ _ _ (fun y15 w16 q17 e18 => ⟨(q17).2.1, ⟨((q17).1).1, (q17).2.2⟩⟩) (((((h12).1 c13)).1 c14))⟩, fun c14 => ⟨Nat.le_of_ble_eq_true rfl, am_a (q9).1 rfl, hs _ _ _ _ _ (fun y19 w20 q21 e22 => am_ci (q21).2 fun z23 h24 => ⟨((q21).1).1, h24⟩) (((((h12).1 c13)).2 c14))⟩⟩, fun c13 => ⟨Nat.le_of_ble_eq_true rfl, am_a (q9).1 rfl, hs _ _ _ _ _ (fun y25 w26 q27 e28 => am_ci (q27).2 fun z29 h30 => ⟨((q27).1).1, h30⟩) (((h12).2 c13))⟩⟩) (h6)⟩) (h)⟩)

set_option maxRecDepth 100000 in
theorem v_X8_put_e {SP : am_S} (hs : am_Smono SP) {Q : Option Value → am_W → Prop} {w : am_W} (hf : am_fin w) (p1 : Int32) (p2 : Int32) (p3 : Int32)
    (h : (((Int32.ofNat 901) ≤ (am_gi w 1 5) → Q none w) ∧ (¬ (Int32.ofNat 901) ≤ (am_gi w 1 5) → (vp_in (am_gi w 1 5) 901 ∧ ∀ w2 : am_W, w2 = am_si w 3 (Int32.toNatClampNeg (am_gi w 1 5)) p1 → (vp_in (am_gi w2 1 5) 901 ∧ ∀ w3 : am_W, w3 = am_si w2 4 (Int32.toNatClampNeg (am_gi w2 1 5)) p2 → (vp_in (am_gi w3 1 5) 901 ∧ ∀ w4 : am_W, w4 = am_si w3 5 (Int32.toNatClampNeg (am_gi w3 1 5)) p3 → (∀ w5 : am_W, w5 = am_si w4 1 5 ((am_gi w4 1 5) + 1) → Q none w5))))))) :
    am_T m_X8_put SP 168 Q 0 [some (.ref 1), some (.int p1), some (.int p2), some (.int p3)] [] w :=
  am_T.wp hs (K := am_T m_X8_put SP 168 Q) (cuts := []) (fun _ _ _ _ h => h) 32
    (⟨am_a hf rfl, ⟨am_a hf rfl, Or.inl ⟨3, (hf).2 1 1 3 rfl, ⟨0, 901, am_a hf rfl, Nat.le_of_ble_eq_true rfl, ⟨fun c1 => ⟨(hf).1, ((h).1 c1)⟩, fun c1 => ⟨am_a hf rfl, Or.inl ⟨3, (hf).2 1 1 3 rfl, ⟨am_a hf rfl, ⟨901, am_a hf rfl, (((h).2 c1)).1, ⟨am_a hf rfl, Or.inl ⟨4, (hf).2 1 2 4 rfl, ⟨am_a hf rfl, ⟨901, am_a hf rfl, (((((h).2 c1)).2 _ rfl)).1, ⟨am_a hf rfl, Or.inl ⟨5, (hf).2 1 3 5 rfl, ⟨am_a hf rfl, ⟨901, am_a hf rfl, (((((((h).2 c1)).2 _ rfl)).2 _ rfl)).1, ⟨am_a hf rfl, ⟨am_a hf rfl, ⟨(hf).1, (((((((((h).2 c1)).2 _ rfl)).2 _ rfl)).2 _ rfl) _ rfl)⟩⟩⟩⟩⟩⟩⟩⟩⟩⟩⟩⟩⟩⟩⟩⟩⟩⟩⟩⟩)

set_option maxRecDepth 100000 in
theorem v_X8_byteAt_e {SP : am_S} (hs : am_Smono SP) {Q : Option Value → am_W → Prop} {w : am_W} (hf : am_fin w) (p1 : Int32)
    (h : ((p1 < 0 → Q (some (.int (-1))) w) ∧ (¬ p1 < 0 → (((am_gi w 1 4) ≤ p1 → Q (some (.int (-1))) w) ∧ (¬ (am_gi w 1 4) ≤ p1 → (vp_in p1 900 ∧ Q (some (.int ((am_gi w 2 (Int32.toNatClampNeg p1)) &&& 255))) w)))))) :
    am_T m_X8_byteAt SP 168 Q 0 [some (.ref 1), some (.int p1)] [] w :=
  am_T.wp hs (K := am_T m_X8_byteAt SP 168 Q) (cuts := []) (fun _ _ _ _ h => h) 15
    (⟨fun c1 => ⟨(hf).1, ((h).1 c1)⟩, fun c1 => ⟨am_a hf rfl, ⟨fun c2 => ⟨(hf).1, ((((h).2 c1)).1 c2)⟩, fun c2 => ⟨am_a hf rfl, Or.inl ⟨2, (hf).2 1 0 2 rfl, ⟨900, Or.inl (am_a hf rfl), (((((h).2 c1)).2 c2)).1, ⟨(hf).1, (((((h).2 c1)).2 c2)).2⟩⟩⟩⟩⟩⟩⟩)

set_option maxRecDepth 100000 in
theorem v_X8_scan_e {SP : am_S} (hs : am_Smono SP) {Q : Option Value → am_W → Prop} {w : am_W} (hf : am_fin w) (p1 : Int32)
    (h : SP 101 [(.ref 1), (.int p1)] w (fun y1 w2 => am_fin w2 ∧ ∃ z5 : Int32, y1 = some (.int z5) ∧ SP 112 [(.int z5)] w2 (fun y7 w8 => am_fin w8 ∧ ∃ z11 : Int32, y7 = some (.int z11) ∧ ((z11 = 0 → SP 113 [(.int z5)] w8 (fun y14 w15 => am_fin w15 ∧ ∃ z18 : Int32, y14 = some (.int z18) ∧ ((z18 = 0 → SP 114 [(.int z5)] w15 (fun y21 w22 => am_fin w22 ∧ ∃ z25 : Int32, y21 = some (.int z25) ∧ ((¬ z25 = 0 → SP 100 [(.ref 1), (.int z5), (.int 0), (.int p1)] w22 (fun y28 w29 => am_fin w29 ∧ y28 = none ∧ Q (some (.int (p1 + 1))) w29)) ∧ (z25 = 0 → Q (some (.int p1)) w22)))) ∧ (¬ z18 = 0 → ((¬ z5 = 112 → ((p1 ≤ p1 → SP 105 [(.ref 1), (.int p1)] w15 (fun y34 w35 => am_fin w35 ∧ ∃ z38 : Int32, y34 = some (.int z38) ∧ Q (some (.int z38)) w35)) ∧ (¬ p1 ≤ p1 → Q (some (.int p1)) w15))) ∧ (z5 = 112 → SP 104 [(.ref 1), (.int p1)] w15 (fun y40 w41 => am_fin w41 ∧ ∃ z44 : Int32, y40 = some (.int z44) ∧ ((z44 ≤ p1 → SP 105 [(.ref 1), (.int p1)] w41 (fun y47 w48 => am_fin w48 ∧ ∃ z51 : Int32, y47 = some (.int z51) ∧ Q (some (.int z51)) w48)) ∧ (¬ z44 ≤ p1 → Q (some (.int z44)) w41))))))))) ∧ (¬ z11 = 0 → SP 103 [(.ref 1), (.int p1)] w8 (fun y53 w54 => am_fin w54 ∧ ∃ z57 : Int32, y53 = some (.int z57) ∧ Q (some (.int z57)) w54)))))) :
    am_T m_X8_scan SP 168 Q 0 [some (.ref 1), some (.int p1), none, none] [] w :=
  am_T.wp hs (K := am_T m_X8_scan SP 168 Q) (cuts := []) (fun _ _ _ _ h => h) 26
    (⟨Nat.le_of_ble_eq_true rfl, am_a hf rfl, hs _ _ _ _ _ (fun y1 w2 q3 e4 => am_ci (q3).2 fun z5 h6 => ⟨Nat.le_of_ble_eq_true rfl, trivial, hs _ _ _ _ _ (fun y7 w8 q9 e10 => am_ci (q9).2 fun z11 h12 => ⟨fun c13 => ⟨Nat.le_of_ble_eq_true rfl, trivial, hs _ _ _ _ _ (fun y14 w15 q16 e17 => am_ci (q16).2 fun z18 h19 => ⟨fun c20 => ⟨Nat.le_of_ble_eq_true rfl, trivial, hs _ _ _ _ _ (fun y21 w22 q23 e24 => am_ci (q23).2 fun z25 h26 => ⟨fun c27 => ⟨Nat.le_of_ble_eq_true rfl, am_a (q23).1 rfl, hs _ _ _ _ _ (fun y28 w29 q30 e31 => ⟨(q30).2.1, ⟨((q30).1).1, (q30).2.2⟩⟩) (((h26).1 c27))⟩, fun c27 => ⟨((q23).1).1, ((h26).2 c27)⟩⟩) (((h19).1 c20))⟩, fun c20 => ⟨fun c32 => ⟨fun c33 => ⟨Nat.le_of_ble_eq_true rfl, am_a (q16).1 rfl, hs _ _ _ _ _ (fun y34 w35 q36 e37 => am_ci (q36).2 fun z38 h39 => ⟨((q36).1).1, h39⟩) (((((((h19).2 c20)).1 c32)).1 c33))⟩, fun c33 => ⟨((q16).1).1, ((((((h19).2 c20)).1 c32)).2 c33)⟩⟩, fun c32 => ⟨Nat.le_of_ble_eq_true rfl, am_a (q16).1 rfl, hs _ _ _ _ _ (fun y40 w41 q42 e43 => am_ci (q42).2 fun z44 h45 => ⟨fun c46 => ⟨Nat.le_of_ble_eq_true rfl, am_a (q42).1 rfl, hs _ _ _ _ _ (fun y47 w48 q49 e50 => am_ci (q49).2 fun z51 h52 => ⟨((q49).1).1, h52⟩) (((h45).1 c46))⟩, fun c46 => ⟨((q42).1).1, ((h45).2 c46)⟩⟩) (((((h19).2 c20)).2 c32))⟩⟩⟩) (((h12).1 c13))⟩, fun c13 => ⟨Nat.le_of_ble_eq_true rfl, am_a (q9).1 rfl, hs _ _ _ _ _ (fun y53 w54 q55 e56 => am_ci (q55).2 fun z57 h58 => ⟨((q55).1).1, h58⟩) (((h12).2 c13))⟩⟩) (h6)⟩) (h)⟩)

set_option maxRecDepth 100000 in
theorem v_X8_scanNumber_e {SP : am_S} (hs : am_Smono SP) {Q : Option Value → am_W → Prop} {w : am_W} (hf : am_fin w) (p1 : Int32)
    (h : SP 106 [(.ref 1), (.int p1)] w (fun y1 w2 => am_fin w2 ∧ ∃ z5 : Int32, y1 = some (.int z5) ∧ ((4 < (z5 - p1) → Q (some (.int p1)) w2) ∧ (¬ 4 < (z5 - p1) → SP 101 [(.ref 1), (.int z5)] w2 (fun y8 w9 => am_fin w9 ∧ ∃ z12 : Int32, y8 = some (.int z12) ∧ SP 113 [(.int z12)] w9 (fun y14 w15 => am_fin w15 ∧ ∃ z18 : Int32, y14 = some (.int z18) ∧ ((z18 = 0 → SP 107 [(.ref 1), (.int p1), (.int z5)] w15 (fun y21 w22 => am_fin w22 ∧ ∃ z25 : Int32, y21 = some (.int z25) ∧ SP 100 [(.ref 1), (.int 2), (.int z25), (.int p1)] w22 (fun y27 w28 => am_fin w28 ∧ y27 = none ∧ Q (some (.int z5)) w28))) ∧ (¬ z18 = 0 → Q (some (.int p1)) w15)))))))) :
    am_T m_X8_scanNumber SP 168 Q 0 [some (.ref 1), some (.int p1), none] [] w :=
  am_T.wp hs (K := am_T m_X8_scanNumber SP 168 Q) (cuts := []) (fun _ _ _ _ h => h) 25
    (⟨Nat.le_of_ble_eq_true rfl, am_a hf rfl, hs _ _ _ _ _ (fun y1 w2 q3 e4 => am_ci (q3).2 fun z5 h6 => ⟨fun c7 => ⟨((q3).1).1, ((h6).1 c7)⟩, fun c7 => ⟨Nat.le_of_ble_eq_true rfl, am_a (q3).1 rfl, hs _ _ _ _ _ (fun y8 w9 q10 e11 => am_ci (q10).2 fun z12 h13 => ⟨Nat.le_of_ble_eq_true rfl, trivial, hs _ _ _ _ _ (fun y14 w15 q16 e17 => am_ci (q16).2 fun z18 h19 => ⟨fun c20 => ⟨Nat.le_of_ble_eq_true rfl, am_a (q16).1 rfl, hs _ _ _ _ _ (fun y21 w22 q23 e24 => am_ci (q23).2 fun z25 h26 => ⟨Nat.le_of_ble_eq_true rfl, am_a (q23).1 rfl, hs _ _ _ _ _ (fun y27 w28 q29 e30 => ⟨(q29).2.1, ⟨((q29).1).1, (q29).2.2⟩⟩) (h26)⟩) (((h19).1 c20))⟩, fun c20 => ⟨((q16).1).1, ((h19).2 c20)⟩⟩) (h13)⟩) (((h6).2 c7))⟩⟩) (h)⟩)

set_option maxRecDepth 100000 in
theorem v_X8_scanPoint_e {SP : am_S} (hs : am_Smono SP) {Q : Option Value → am_W → Prop} {w : am_W} (hf : am_fin w) (p1 : Int32)
    (h : SP 106 [(.ref 1), (.int (p1 + 1))] w (fun y1 w2 => am_fin w2 ∧ ∃ z5 : Int32, y1 = some (.int z5) ∧ ((((z5 - p1) - 1) < 1 → Q (some (.int p1)) w2) ∧ (¬ ((z5 - p1) - 1) < 1 → ((2 < ((z5 - p1) - 1) → Q (some (.int p1)) w2) ∧ (¬ 2 < ((z5 - p1) - 1) → SP 101 [(.ref 1), (.int z5)] w2 (fun y9 w10 => am_fin w10 ∧ ∃ z13 : Int32, y9 = some (.int z13) ∧ SP 113 [(.int z13)] w10 (fun y15 w16 => am_fin w16 ∧ ∃ z19 : Int32, y15 = some (.int z19) ∧ ((z19 = 0 → SP 107 [(.ref 1), (.int (p1 + 1)), (.int z5)] w16 (fun y22 w23 => am_fin w23 ∧ ∃ z26 : Int32, y22 = some (.int z26) ∧ ((z26 < 12 → SP 100 [(.ref 1), (.int 3), (.int z26), (.int p1)] w23 (fun y29 w30 => am_fin w30 ∧ y29 = none ∧ Q (some (.int z5)) w30)) ∧ (¬ z26 < 12 → Q (some (.int p1)) w23)))) ∧ (¬ z19 = 0 → Q (some (.int p1)) w16)))))))))) :
    am_T m_X8_scanPoint SP 168 Q 0 [some (.ref 1), some (.int p1), none, none, none] [] w :=
  am_T.wp hs (K := am_T m_X8_scanPoint SP 168 Q) (cuts := []) (fun _ _ _ _ h => h) 41
    (⟨Nat.le_of_ble_eq_true rfl, am_a hf rfl, hs _ _ _ _ _ (fun y1 w2 q3 e4 => am_ci (q3).2 fun z5 h6 => ⟨fun c7 => ⟨((q3).1).1, ((h6).1 c7)⟩, fun c7 => ⟨fun c8 => ⟨((q3).1).1, ((((h6).2 c7)).1 c8)⟩, fun c8 => ⟨Nat.le_of_ble_eq_true rfl, am_a (q3).1 rfl, hs _ _ _ _ _ (fun y9 w10 q11 e12 => am_ci (q11).2 fun z13 h14 => ⟨Nat.le_of_ble_eq_true rfl, trivial, hs _ _ _ _ _ (fun y15 w16 q17 e18 => am_ci (q17).2 fun z19 h20 => ⟨fun c21 => ⟨Nat.le_of_ble_eq_true rfl, am_a (q17).1 rfl, hs _ _ _ _ _ (fun y22 w23 q24 e25 => am_ci (q24).2 fun z26 h27 => ⟨fun c28 => ⟨Nat.le_of_ble_eq_true rfl, am_a (q24).1 rfl, hs _ _ _ _ _ (fun y29 w30 q31 e32 => ⟨(q31).2.1, ⟨((q31).1).1, (q31).2.2⟩⟩) (((h27).1 c28))⟩, fun c28 => ⟨((q24).1).1, ((h27).2 c28)⟩⟩) (((h20).1 c21))⟩, fun c21 => ⟨((q17).1).1, ((h20).2 c21)⟩⟩) (h14)⟩) (((((h6).2 c7)).2 c8))⟩⟩⟩) (h)⟩)

set_option maxRecDepth 100000 in
theorem v_X8_scanWord_e {SP : am_S} (hs : am_Smono SP) {Q : Option Value → am_W → Prop} {w : am_W} (hf : am_fin w) (p1 : Int32)
    (h : am_T m_X8_scanWord SP 168 Q 2 [some (.ref 1), some (.int p1), some (.int p1), none] [] w) :
    am_T m_X8_scanWord SP 168 Q 0 [some (.ref 1), some (.int p1), none, none] [] w :=
  am_T.wp hs (K := am_T m_X8_scanWord SP 168 Q) (cuts := [2]) (fun _ _ _ _ h => h) 4
    (h)

set_option maxRecDepth 100000 in
theorem v_X8_scanWord_2 {SP : am_S} (hs : am_Smono SP) {Q : Option Value → am_W → Prop} {w : am_W} (hf : am_fin w) (x1 : Int32) (x2 : Int32)
    (h : (((am_gi w 1 4) ≤ x2 → (((x2 - x1) ≤ 8 → SP 108 [(.ref 1), (.int x1), (.int x2)] w (fun y3 w4 => am_fin w4 ∧ ∃ z7 : Int32, y3 = some (.int z7) ∧ ((¬ z7 = 4 → SP 100 [(.ref 1), (.int z7), (.int 0), (.int x1)] w4 (fun y10 w11 => am_fin w11 ∧ y10 = none ∧ Q (some (.int x2)) w11)) ∧ (z7 = 4 → SP 109 [(.ref 1), (.int x1), (.int x2)] w4 (fun y14 w15 => am_fin w15 ∧ ∃ z18 : Int32, y14 = some (.int z18) ∧ SP 100 [(.ref 1), (.int z18), (.int 0), (.int x1)] w15 (fun y20 w21 => am_fin w21 ∧ y20 = none ∧ Q (some (.int x2)) w21)))))) ∧ (¬ (x2 - x1) ≤ 8 → Q (some (.int x1)) w))) ∧ (¬ (am_gi w 1 4) ≤ x2 → SP 101 [(.ref 1), (.int x2)] w (fun y24 w25 => am_fin w25 ∧ ∃ z28 : Int32, y24 = some (.int z28) ∧ SP 113 [(.int z28)] w25 (fun y30 w31 => am_fin w31 ∧ ∃ z34 : Int32, y30 = some (.int z34) ∧ ((z34 = 0 → (((x2 - x1) ≤ 8 → SP 108 [(.ref 1), (.int x1), (.int x2)] w31 (fun y38 w39 => am_fin w39 ∧ ∃ z42 : Int32, y38 = some (.int z42) ∧ ((¬ z42 = 4 → SP 100 [(.ref 1), (.int z42), (.int 0), (.int x1)] w39 (fun y45 w46 => am_fin w46 ∧ y45 = none ∧ Q (some (.int x2)) w46)) ∧ (z42 = 4 → SP 109 [(.ref 1), (.int x1), (.int x2)] w39 (fun y49 w50 => am_fin w50 ∧ ∃ z53 : Int32, y49 = some (.int z53) ∧ SP 100 [(.ref 1), (.int z53), (.int 0), (.int x1)] w50 (fun y55 w56 => am_fin w56 ∧ y55 = none ∧ Q (some (.int x2)) w56)))))) ∧ (¬ (x2 - x1) ≤ 8 → Q (some (.int x1)) w31))) ∧ (¬ z34 = 0 → am_T m_X8_scanWord SP 168 Q 2 [some (.ref 1), some (.int x1), some (.int (x2 + 1)), none] [] w31))))))) :
    am_T m_X8_scanWord SP 168 Q 2 [some (.ref 1), some (.int x1), some (.int x2), none] [] w :=
  am_T.wp hs (K := am_T m_X8_scanWord SP 168 Q) (cuts := [2]) (fun _ _ _ _ h => h) 34
    (⟨am_a hf rfl, ⟨fun c1 => ⟨fun c2 => ⟨Nat.le_of_ble_eq_true rfl, am_a hf rfl, hs _ _ _ _ _ (fun y3 w4 q5 e6 => am_ci (q5).2 fun z7 h8 => ⟨fun c9 => ⟨Nat.le_of_ble_eq_true rfl, am_a (q5).1 rfl, hs _ _ _ _ _ (fun y10 w11 q12 e13 => ⟨(q12).2.1, ⟨((q12).1).1, (q12).2.2⟩⟩) (((h8).1 c9))⟩, fun c9 => ⟨Nat.le_of_ble_eq_true rfl, am_a (q5).1 rfl, hs _ _ _ _ _ (fun y14 w15 q16 e17 => am_ci (q16).2 fun z18 h19 => ⟨Nat.le_of_ble_eq_true rfl, am_a (q16).1 rfl, hs _ _ _ _ _ (fun y20 w21 q22 e23 => ⟨(q22).2.1, ⟨((q22).1).1, (q22).2.2⟩⟩) (h19)⟩) (((h8).2 c9))⟩⟩) (((((h).1 c1)).1 c2))⟩, fun c2 => ⟨(hf).1, ((((h).1 c1)).2 c2)⟩⟩, fun c1 => ⟨Nat.le_of_ble_eq_true rfl, am_a hf rfl, hs _ _ _ _ _ (fun y24 w25 q26 e27 => am_ci (q26).2 fun z28 h29 => ⟨Nat.le_of_ble_eq_true rfl, trivial, hs _ _ _ _ _ (fun y30 w31 q32 e33 => am_ci (q32).2 fun z34 h35 => ⟨fun c36 => ⟨fun c37 => ⟨Nat.le_of_ble_eq_true rfl, am_a (q32).1 rfl, hs _ _ _ _ _ (fun y38 w39 q40 e41 => am_ci (q40).2 fun z42 h43 => ⟨fun c44 => ⟨Nat.le_of_ble_eq_true rfl, am_a (q40).1 rfl, hs _ _ _ _ _ (fun y45 w46 q47 e48 => ⟨(q47).2.1, ⟨((q47).1).1, (q47).2.2⟩⟩) (((h43).1 c44))⟩, fun c44 => ⟨Nat.le_of_ble_eq_true rfl, am_a (q40).1 rfl, hs _ _ _ _ _ (fun y49 w50 q51 e52 => am_ci (q51).2 fun z53 h54 => ⟨Nat.le_of_ble_eq_true rfl, am_a (q51).1 rfl, hs _ _ _ _ _ (fun y55 w56 q57 e58 => ⟨(q57).2.1, ⟨((q57).1).1, (q57).2.2⟩⟩) (h54)⟩) (((h43).2 c44))⟩⟩) (((((h35).1 c36)).1 c37))⟩, fun c37 => ⟨((q32).1).1, ((((h35).1 c36)).2 c37)⟩⟩, fun c36 => ((h35).2 c36)⟩) (h29)⟩) (((h).2 c1))⟩⟩⟩)

set_option maxRecDepth 100000 in
theorem v_X8_digitsEnd_e {SP : am_S} (hs : am_Smono SP) {Q : Option Value → am_W → Prop} {w : am_W} (hf : am_fin w) (p1 : Int32)
    (h : am_T m_X8_digitsEnd SP 168 Q 2 [some (.ref 1), some (.int p1), some (.int p1)] [] w) :
    am_T m_X8_digitsEnd SP 168 Q 0 [some (.ref 1), some (.int p1), none] [] w :=
  am_T.wp hs (K := am_T m_X8_digitsEnd SP 168 Q) (cuts := [2]) (fun _ _ _ _ h => h) 4
    (h)

set_option maxRecDepth 100000 in
theorem v_X8_digitsEnd_2 {SP : am_S} (hs : am_Smono SP) {Q : Option Value → am_W → Prop} {w : am_W} (hf : am_fin w) (x1 : Int32) (x2 : Int32)
    (h : (((am_gi w 1 4) ≤ x2 → Q (some (.int x2)) w) ∧ (¬ (am_gi w 1 4) ≤ x2 → SP 101 [(.ref 1), (.int x2)] w (fun y2 w3 => am_fin w3 ∧ ∃ z6 : Int32, y2 = some (.int z6) ∧ SP 112 [(.int z6)] w3 (fun y8 w9 => am_fin w9 ∧ ∃ z12 : Int32, y8 = some (.int z12) ∧ ((z12 = 0 → Q (some (.int x2)) w9) ∧ (¬ z12 = 0 → am_T m_X8_digitsEnd SP 168 Q 2 [some (.ref 1), some (.int x1), some (.int (x2 + 1))] [] w9))))))) :
    am_T m_X8_digitsEnd SP 168 Q 2 [some (.ref 1), some (.int x1), some (.int x2)] [] w :=
  am_T.wp hs (K := am_T m_X8_digitsEnd SP 168 Q) (cuts := [2]) (fun _ _ _ _ h => h) 13
    (⟨am_a hf rfl, ⟨fun c1 => ⟨(hf).1, ((h).1 c1)⟩, fun c1 => ⟨Nat.le_of_ble_eq_true rfl, am_a hf rfl, hs _ _ _ _ _ (fun y2 w3 q4 e5 => am_ci (q4).2 fun z6 h7 => ⟨Nat.le_of_ble_eq_true rfl, trivial, hs _ _ _ _ _ (fun y8 w9 q10 e11 => am_ci (q10).2 fun z12 h13 => ⟨fun c14 => ⟨((q10).1).1, ((h13).1 c14)⟩, fun c14 => ((h13).2 c14)⟩) (h7)⟩) (((h).2 c1))⟩⟩⟩)

set_option maxRecDepth 100000 in
theorem v_X8_numberIn_e {SP : am_S} (hs : am_Smono SP) {Q : Option Value → am_W → Prop} {w : am_W} (hf : am_fin w) (p1 : Int32) (p2 : Int32)
    (h : am_T m_X8_numberIn SP 168 Q 5 [some (.ref 1), some (.int p1), some (.int p2), some (.int 0), some (.int p1)] [] w) :
    am_T m_X8_numberIn SP 168 Q 0 [some (.ref 1), some (.int p1), some (.int p2), none, none] [] w :=
  am_T.wp hs (K := am_T m_X8_numberIn SP 168 Q) (cuts := [5]) (fun _ _ _ _ h => h) 6
    (h)

set_option maxRecDepth 100000 in
theorem v_X8_numberIn_5 {SP : am_S} (hs : am_Smono SP) {Q : Option Value → am_W → Prop} {w : am_W} (hf : am_fin w) (x1 : Int32) (x2 : Int32) (x3 : Int32) (x4 : Int32)
    (h : ((x2 ≤ x4 → Q (some (.int x3)) w) ∧ (¬ x2 ≤ x4 → SP 101 [(.ref 1), (.int x4)] w (fun y2 w3 => am_fin w3 ∧ ∃ z6 : Int32, y2 = some (.int z6) ∧ am_T m_X8_numberIn SP 168 Q 5 [some (.ref 1), some (.int x1), some (.int x2), some (.int (((x3 * 10) + z6) - 48)), some (.int (x4 + 1))] [] w3)))) :
    am_T m_X8_numberIn SP 168 Q 5 [some (.ref 1), some (.int x1), some (.int x2), some (.int x3), some (.int x4)] [] w :=
  am_T.wp hs (K := am_T m_X8_numberIn SP 168 Q) (cuts := [5]) (fun _ _ _ _ h => h) 17
    (⟨fun c1 => ⟨(hf).1, ((h).1 c1)⟩, fun c1 => ⟨Nat.le_of_ble_eq_true rfl, am_a hf rfl, hs _ _ _ _ _ (fun y2 w3 q4 e5 => am_ci (q4).2 fun z6 h7 => h7) (((h).2 c1))⟩⟩)

set_option maxRecDepth 100000 in
theorem v_X8_isBlank_e {SP : am_S} (hs : am_Smono SP) {Q : Option Value → am_W → Prop} {w : am_W} (hf : am_fin w) (p1 : Int32)
    (h : ((p1 = 32 → Q (some (.int 1)) w) ∧ (¬ p1 = 32 → ((¬ p1 = 10 → Q (some (.int 0)) w) ∧ (p1 = 10 → Q (some (.int 1)) w))))) :
    am_T m_X8_isBlank SP 168 Q 0 [some (.int p1)] [] w :=
  am_T.wp hs (K := am_T m_X8_isBlank SP 168 Q) (cuts := []) (fun _ _ _ _ h => h) 10
    (⟨fun c1 => ⟨(hf).1, Or.inr rfl, ((h).1 c1)⟩, fun c1 => ⟨fun c2 => ⟨(hf).1, Or.inl rfl, ((((h).2 c1)).1 c2)⟩, fun c2 => ⟨(hf).1, Or.inr rfl, ((((h).2 c1)).2 c2)⟩⟩⟩)

set_option maxRecDepth 100000 in
theorem v_X8_isDigit_e {SP : am_S} (hs : am_Smono SP) {Q : Option Value → am_W → Prop} {w : am_W} (hf : am_fin w) (p1 : Int32)
    (h : ((p1 < 48 → Q (some (.int 0)) w) ∧ (¬ p1 < 48 → ((57 < p1 → Q (some (.int 0)) w) ∧ (¬ 57 < p1 → Q (some (.int 1)) w))))) :
    am_T m_X8_isDigit SP 168 Q 0 [some (.int p1)] [] w :=
  am_T.wp hs (K := am_T m_X8_isDigit SP 168 Q) (cuts := []) (fun _ _ _ _ h => h) 10
    (⟨fun c1 => ⟨(hf).1, Or.inl rfl, ((h).1 c1)⟩, fun c1 => ⟨fun c2 => ⟨(hf).1, Or.inl rfl, ((((h).2 c1)).1 c2)⟩, fun c2 => ⟨(hf).1, Or.inr rfl, ((((h).2 c1)).2 c2)⟩⟩⟩)

set_option maxRecDepth 100000 in
theorem v_X8_isLetter_e {SP : am_S} (hs : am_Smono SP) {Q : Option Value → am_W → Prop} {w : am_W} (hf : am_fin w) (p1 : Int32)
    (h : ((p1 < 97 → Q (some (.int 0)) w) ∧ (¬ p1 < 97 → ((122 < p1 → Q (some (.int 0)) w) ∧ (¬ 122 < p1 → Q (some (.int 1)) w))))) :
    am_T m_X8_isLetter SP 168 Q 0 [some (.int p1)] [] w :=
  am_T.wp hs (K := am_T m_X8_isLetter SP 168 Q) (cuts := []) (fun _ _ _ _ h => h) 10
    (⟨fun c1 => ⟨(hf).1, Or.inl rfl, ((h).1 c1)⟩, fun c1 => ⟨fun c2 => ⟨(hf).1, Or.inl rfl, ((((h).2 c1)).1 c2)⟩, fun c2 => ⟨(hf).1, Or.inr rfl, ((((h).2 c1)).2 c2)⟩⟩⟩)

set_option maxRecDepth 100000 in
theorem v_X8_isMark_e {SP : am_S} (hs : am_Smono SP) {Q : Option Value → am_W → Prop} {w : am_W} (hf : am_fin w) (p1 : Int32)
    (h : ((p1 = 59 → Q (some (.int 1)) w) ∧ (¬ p1 = 59 → ((p1 = 40 → Q (some (.int 1)) w) ∧ (¬ p1 = 40 → ((p1 = 41 → Q (some (.int 1)) w) ∧ (¬ p1 = 41 → ((p1 = 60 → Q (some (.int 1)) w) ∧ (¬ p1 = 60 → ((p1 = 62 → Q (some (.int 1)) w) ∧ (¬ p1 = 62 → ((p1 = 61 → Q (some (.int 1)) w) ∧ (¬ p1 = 61 → ((p1 = 43 → Q (some (.int 1)) w) ∧ (¬ p1 = 43 → ((¬ p1 = 45 → Q (some (.int 0)) w) ∧ (p1 = 45 → Q (some (.int 1)) w))))))))))))))))) :
    am_T m_X8_isMark SP 168 Q 0 [some (.int p1)] [] w :=
  am_T.wp hs (K := am_T m_X8_isMark SP 168 Q) (cuts := []) (fun _ _ _ _ h => h) 28
    (⟨fun c1 => ⟨(hf).1, Or.inr rfl, ((h).1 c1)⟩, fun c1 => ⟨fun c2 => ⟨(hf).1, Or.inr rfl, ((((h).2 c1)).1 c2)⟩, fun c2 => ⟨fun c3 => ⟨(hf).1, Or.inr rfl, ((((((h).2 c1)).2 c2)).1 c3)⟩, fun c3 => ⟨fun c4 => ⟨(hf).1, Or.inr rfl, ((((((((h).2 c1)).2 c2)).2 c3)).1 c4)⟩, fun c4 => ⟨fun c5 => ⟨(hf).1, Or.inr rfl, ((((((((((h).2 c1)).2 c2)).2 c3)).2 c4)).1 c5)⟩, fun c5 => ⟨fun c6 => ⟨(hf).1, Or.inr rfl, ((((((((((((h).2 c1)).2 c2)).2 c3)).2 c4)).2 c5)).1 c6)⟩, fun c6 => ⟨fun c7 => ⟨(hf).1, Or.inr rfl, ((((((((((((((h).2 c1)).2 c2)).2 c3)).2 c4)).2 c5)).2 c6)).1 c7)⟩, fun c7 => ⟨fun c8 => ⟨(hf).1, Or.inl rfl, ((((((((((((((((h).2 c1)).2 c2)).2 c3)).2 c4)).2 c5)).2 c6)).2 c7)).1 c8)⟩, fun c8 => ⟨(hf).1, Or.inr rfl, ((((((((((((((((h).2 c1)).2 c2)).2 c3)).2 c4)).2 c5)).2 c6)).2 c7)).2 c8)⟩⟩⟩⟩⟩⟩⟩⟩⟩)

set_option maxRecDepth 100000 in
theorem v_X9_readLines_6_e {SP : am_S} (hs : am_Smono SP) {Q : Option Value → am_W → Prop} {w : am_W} (hf : am_fin w) 
    (h : (∀ w1 : am_W, w1 = am_si w 6 3 0 → (∀ w2 : am_W, w2 = am_si w1 6 4 0 → (∀ w3 : am_W, w3 = am_si w2 6 8 0 → (∀ w4 : am_W, w4 = am_si w3 6 9 0 → am_T m_X9_readLines SP 168 Q 22 [some (.ref 6), some (.ref 1), some (.int 0)] [] w4))))) :
    am_T m_X9_readLines SP 168 Q 0 [some (.ref 6), some (.ref 1), none] [] w :=
  am_T.wp hs (K := am_T m_X9_readLines SP 168 Q) (cuts := [22]) (fun _ _ _ _ h => h) 16
    (⟨am_a hf rfl, ⟨am_a hf rfl, ⟨am_a hf rfl, ⟨am_a hf rfl, ((((h _ rfl) _ rfl) _ rfl) _ rfl)⟩⟩⟩⟩)

set_option maxRecDepth 100000 in
theorem v_X9_readLines_6_22 {SP : am_S} (hs : am_Smono SP) {Q : Option Value → am_W → Prop} {w : am_W} (hf : am_fin w) (x2 : Int32)
    (h : ((900 ≤ x2 → Q (some (.int x2)) w) ∧ (¬ 900 ≤ x2 → SP 93 [(.ref 1)] w (fun y2 w3 => am_fin w3 ∧ ∃ z6 : Int32, y2 = some (.int z6) ∧ ((z6 = 0 → Q (some (.int x2)) w3) ∧ (¬ z6 = 0 → SP 127 [(.ref 6), (.ref 1)] w3 (fun y9 w10 => am_fin w10 ∧ ∃ z13 : Int32, y9 = some (.int z13) ∧ ((¬ z13 = 0 → am_T m_X9_readLines SP 168 Q 22 [some (.ref 6), some (.ref 1), some (.int (x2 + 1))] [] w10) ∧ (z13 = 0 → Q (some (.int (-1))) w10))))))))) :
    am_T m_X9_readLines SP 168 Q 22 [some (.ref 6), some (.ref 1), some (.int x2)] [] w :=
  am_T.wp hs (K := am_T m_X9_readLines SP 168 Q) (cuts := [22]) (fun _ _ _ _ h => h) 14
    (⟨fun c1 => ⟨(hf).1, ((h).1 c1)⟩, fun c1 => ⟨Nat.le_of_ble_eq_true rfl, am_a hf rfl, hs _ _ _ _ _ (fun y2 w3 q4 e5 => am_ci (q4).2 fun z6 h7 => ⟨fun c8 => ⟨((q4).1).1, ((h7).1 c8)⟩, fun c8 => ⟨Nat.le_of_ble_eq_true rfl, am_a (q4).1 rfl, hs _ _ _ _ _ (fun y9 w10 q11 e12 => am_ci (q11).2 fun z13 h14 => ⟨fun c15 => ((h14).1 c15), fun c15 => ⟨((q11).1).1, ((h14).2 c15)⟩⟩) (((h7).2 c8))⟩⟩) (((h).2 c1))⟩⟩)

set_option maxRecDepth 100000 in
theorem v_X9_readLines_18_e {SP : am_S} (hs : am_Smono SP) {Q : Option Value → am_W → Prop} {w : am_W} (hf : am_fin w) 
    (h : (∀ w1 : am_W, w1 = am_si w 18 3 0 → (∀ w2 : am_W, w2 = am_si w1 18 4 0 → (∀ w3 : am_W, w3 = am_si w2 18 8 0 → (∀ w4 : am_W, w4 = am_si w3 18 9 0 → am_T m_X9_readLines SP 168 Q 22 [some (.ref 18), some (.ref 1), some (.int 0)] [] w4))))) :
    am_T m_X9_readLines SP 168 Q 0 [some (.ref 18), some (.ref 1), none] [] w :=
  am_T.wp hs (K := am_T m_X9_readLines SP 168 Q) (cuts := [22]) (fun _ _ _ _ h => h) 16
    (⟨am_a hf rfl, ⟨am_a hf rfl, ⟨am_a hf rfl, ⟨am_a hf rfl, ((((h _ rfl) _ rfl) _ rfl) _ rfl)⟩⟩⟩⟩)

set_option maxRecDepth 100000 in
theorem v_X9_readLines_18_22 {SP : am_S} (hs : am_Smono SP) {Q : Option Value → am_W → Prop} {w : am_W} (hf : am_fin w) (x2 : Int32)
    (h : ((900 ≤ x2 → Q (some (.int x2)) w) ∧ (¬ 900 ≤ x2 → SP 93 [(.ref 1)] w (fun y2 w3 => am_fin w3 ∧ ∃ z6 : Int32, y2 = some (.int z6) ∧ ((z6 = 0 → Q (some (.int x2)) w3) ∧ (¬ z6 = 0 → SP 127 [(.ref 18), (.ref 1)] w3 (fun y9 w10 => am_fin w10 ∧ ∃ z13 : Int32, y9 = some (.int z13) ∧ ((¬ z13 = 0 → am_T m_X9_readLines SP 168 Q 22 [some (.ref 18), some (.ref 1), some (.int (x2 + 1))] [] w10) ∧ (z13 = 0 → Q (some (.int (-1))) w10))))))))) :
    am_T m_X9_readLines SP 168 Q 22 [some (.ref 18), some (.ref 1), some (.int x2)] [] w :=
  am_T.wp hs (K := am_T m_X9_readLines SP 168 Q) (cuts := [22]) (fun _ _ _ _ h => h) 14
    (⟨fun c1 => ⟨(hf).1, ((h).1 c1)⟩, fun c1 => ⟨Nat.le_of_ble_eq_true rfl, am_a hf rfl, hs _ _ _ _ _ (fun y2 w3 q4 e5 => am_ci (q4).2 fun z6 h7 => ⟨fun c8 => ⟨((q4).1).1, ((h7).1 c8)⟩, fun c8 => ⟨Nat.le_of_ble_eq_true rfl, am_a (q4).1 rfl, hs _ _ _ _ _ (fun y9 w10 q11 e12 => am_ci (q11).2 fun z13 h14 => ⟨fun c15 => ((h14).1 c15), fun c15 => ⟨((q11).1).1, ((h14).2 c15)⟩⟩) (((h7).2 c8))⟩⟩) (((h).2 c1))⟩⟩)

set_option maxRecDepth 100000 in
theorem v_X9_measure_6_e {SP : am_S} (hs : am_Smono SP) {Q : Option Value → am_W → Prop} {w : am_W} (hf : am_fin w) 
    (h : SP 299 [(.ref 13), (.int (-1))] w (fun y1 w2 => am_fin w2 ∧ y1 = none ∧ am_T m_X9_measure SP 168 Q 10 [some (.ref 6), some (.int 0)] [] w2)) :
    am_T m_X9_measure SP 168 Q 0 [some (.ref 6), none] [] w :=
  am_T.wp hs (K := am_T m_X9_measure SP 168 Q) (cuts := [10]) (fun _ _ _ _ h => h) 8
    (⟨am_a hf rfl, Or.inl ⟨13, (hf).2 6 10 13 rfl, ⟨Nat.le_of_ble_eq_true rfl, trivial, hs _ _ _ _ _ (fun y1 w2 q3 e4 => ⟨(q3).2.1, (q3).2.2⟩) (h)⟩⟩⟩)

set_option maxRecDepth 100000 in
theorem v_X9_measure_6_10 {SP : am_S} (hs : am_Smono SP) {Q : Option Value → am_W → Prop} {w : am_W} (hf : am_fin w) (x1 : Int32)
    (h : (((am_gi w 6 3) ≤ x1 → SP 132 [(.ref 6), (.ref 14), (.int 4095)] w (fun y2 w3 => am_fin w3 ∧ y2 = none ∧ SP 132 [(.ref 6), (.ref 15), (.int (4095 &&& ((am_gi w3 6 4) ^^^ (-1))))] w3 (fun y6 w7 => am_fin w7 ∧ y6 = none ∧ SP 133 [(.ref 6), (.ref 16), (.int (am_gi w7 6 4))] w7 (fun y10 w11 => am_fin w11 ∧ y10 = none ∧ SP 133 [(.ref 6), (.ref 17), (.int (4095 &&& ((am_gi w11 6 4) ^^^ (-1))))] w11 (fun y14 w15 => am_fin w15 ∧ y14 = none ∧ Q none w15))))) ∧ (¬ (am_gi w 6 3) ≤ x1 → (vp_in x1 24 ∧ (vp_in x1 24 ∧ SP 131 [(.ref 6), (.int (am_gi w 7 (Int32.toNatClampNeg x1))), (.int (am_gi w 8 (Int32.toNatClampNeg x1))), (.int x1)] w (fun y18 w19 => am_fin w19 ∧ y18 = none ∧ (vp_in x1 24 ∧ (vp_in x1 24 ∧ SP 131 [(.ref 6), (.int (am_gi w19 8 (Int32.toNatClampNeg x1))), (.int (am_gi w19 7 (Int32.toNatClampNeg x1))), (.int x1)] w19 (fun y22 w23 => am_fin w23 ∧ y22 = none ∧ am_T m_X9_measure SP 168 Q 10 [some (.ref 6), some (.int (x1 + 1))] [] w23))))))))) :
    am_T m_X9_measure SP 168 Q 10 [some (.ref 6), some (.int x1)] [] w :=
  am_T.wp hs (K := am_T m_X9_measure SP 168 Q) (cuts := [10]) (fun _ _ _ _ h => h) 37
    (⟨am_a hf rfl, ⟨fun c1 => ⟨am_a hf rfl, Or.inl ⟨14, (hf).2 6 11 14 rfl, ⟨Nat.le_of_ble_eq_true rfl, am_a hf rfl, hs _ _ _ _ _ (fun y2 w3 q4 e5 => ⟨(q4).2.1, ⟨am_a (q4).1 rfl, Or.inl ⟨15, ((q4).1).2 6 12 15 rfl, ⟨am_a (q4).1 rfl, ⟨Nat.le_of_ble_eq_true rfl, am_a (q4).1 rfl, hs _ _ _ _ _ (fun y6 w7 q8 e9 => ⟨(q8).2.1, ⟨am_a (q8).1 rfl, Or.inl ⟨16, ((q8).1).2 6 13 16 rfl, ⟨am_a (q8).1 rfl, ⟨Nat.le_of_ble_eq_true rfl, am_a (q8).1 rfl, hs _ _ _ _ _ (fun y10 w11 q12 e13 => ⟨(q12).2.1, ⟨am_a (q12).1 rfl, Or.inl ⟨17, ((q12).1).2 6 14 17 rfl, ⟨am_a (q12).1 rfl, ⟨Nat.le_of_ble_eq_true rfl, am_a (q12).1 rfl, hs _ _ _ _ _ (fun y14 w15 q16 e17 => ⟨(q16).2.1, ⟨((q16).1).1, (q16).2.2⟩⟩) ((q12).2.2)⟩⟩⟩⟩⟩) ((q8).2.2)⟩⟩⟩⟩⟩) ((q4).2.2)⟩⟩⟩⟩⟩) (((h).1 c1))⟩⟩⟩, fun c1 => ⟨am_a hf rfl, Or.inl ⟨7, (hf).2 6 0 7 rfl, ⟨24, am_a hf rfl, (((h).2 c1)).1, ⟨am_a hf rfl, Or.inl ⟨8, (hf).2 6 1 8 rfl, ⟨24, am_a hf rfl, ((((h).2 c1)).2).1, ⟨Nat.le_of_ble_eq_true rfl, am_a hf rfl, hs _ _ _ _ _ (fun y18 w19 q20 e21 => ⟨(q20).2.1, ⟨am_a (q20).1 rfl, Or.inl ⟨8, ((q20).1).2 6 1 8 rfl, ⟨24, am_a (q20).1 rfl, ((q20).2.2).1, ⟨am_a (q20).1 rfl, Or.inl ⟨7, ((q20).1).2 6 0 7 rfl, ⟨24, am_a (q20).1 rfl, (((q20).2.2).2).1, ⟨Nat.le_of_ble_eq_true rfl, am_a (q20).1 rfl, hs _ _ _ _ _ (fun y22 w23 q24 e25 => ⟨(q24).2.1, (q24).2.2⟩) ((((q20).2.2).2).2)⟩⟩⟩⟩⟩⟩⟩⟩) (((((h).2 c1)).2).2)⟩⟩⟩⟩⟩⟩⟩⟩⟩)

set_option maxRecDepth 100000 in
theorem v_X9_near_6_e {SP : am_S} (hs : am_Smono SP) {Q : Option Value → am_W → Prop} {w : am_W} (hf : am_fin w) (p1 : Int32) (p2 : Int32)
    (h : SP 134 [(.ref 14), (.int p1), (.int p2)] w (fun y1 w2 => am_fin w2 ∧ ∃ z5 : Int32, y1 = some (.int z5) ∧ Q (some (.int z5)) w2)) :
    am_T m_X9_near SP 168 Q 0 [some (.ref 6), some (.int p1), some (.int p2)] [] w :=
  am_T.wp hs (K := am_T m_X9_near SP 168 Q) (cuts := []) (fun _ _ _ _ h => h) 7
    (⟨am_a hf rfl, Or.inl ⟨14, (hf).2 6 11 14 rfl, ⟨Nat.le_of_ble_eq_true rfl, trivial, hs _ _ _ _ _ (fun y1 w2 q3 e4 => am_ci (q3).2 fun z5 h6 => ⟨((q3).1).1, h6⟩) (h)⟩⟩⟩)

set_option maxRecDepth 100000 in
theorem v_X9_beside_6_e {SP : am_S} (hs : am_Smono SP) {Q : Option Value → am_W → Prop} {w : am_W} (hf : am_fin w) (p1 : Int32) (p2 : Int32)
    (h : SP 134 [(.ref 15), (.int p1), (.int p2)] w (fun y1 w2 => am_fin w2 ∧ ∃ z5 : Int32, y1 = some (.int z5) ∧ Q (some (.int z5)) w2)) :
    am_T m_X9_beside SP 168 Q 0 [some (.ref 6), some (.int p1), some (.int p2)] [] w :=
  am_T.wp hs (K := am_T m_X9_beside SP 168 Q) (cuts := []) (fun _ _ _ _ h => h) 7
    (⟨am_a hf rfl, Or.inl ⟨15, (hf).2 6 12 15 rfl, ⟨Nat.le_of_ble_eq_true rfl, trivial, hs _ _ _ _ _ (fun y1 w2 q3 e4 => am_ci (q3).2 fun z5 h6 => ⟨((q3).1).1, h6⟩) (h)⟩⟩⟩)

set_option maxRecDepth 100000 in
theorem v_X9_byZone_6_e {SP : am_S} (hs : am_Smono SP) {Q : Option Value → am_W → Prop} {w : am_W} (hf : am_fin w) (p1 : Int32) (p2 : Int32)
    (h : SP 134 [(.ref 16), (.int p1), (.int p2)] w (fun y1 w2 => am_fin w2 ∧ ∃ z5 : Int32, y1 = some (.int z5) ∧ Q (some (.int z5)) w2)) :
    am_T m_X9_byZone SP 168 Q 0 [some (.ref 6), some (.int p1), some (.int p2)] [] w :=
  am_T.wp hs (K := am_T m_X9_byZone SP 168 Q) (cuts := []) (fun _ _ _ _ h => h) 7
    (⟨am_a hf rfl, Or.inl ⟨16, (hf).2 6 13 16 rfl, ⟨Nat.le_of_ble_eq_true rfl, trivial, hs _ _ _ _ _ (fun y1 w2 q3 e4 => am_ci (q3).2 fun z5 h6 => ⟨((q3).1).1, h6⟩) (h)⟩⟩⟩)

set_option maxRecDepth 100000 in
theorem v_X9_byOutside_6_e {SP : am_S} (hs : am_Smono SP) {Q : Option Value → am_W → Prop} {w : am_W} (hf : am_fin w) (p1 : Int32) (p2 : Int32)
    (h : SP 134 [(.ref 17), (.int p1), (.int p2)] w (fun y1 w2 => am_fin w2 ∧ ∃ z5 : Int32, y1 = some (.int z5) ∧ Q (some (.int z5)) w2)) :
    am_T m_X9_byOutside SP 168 Q 0 [some (.ref 6), some (.int p1), some (.int p2)] [] w :=
  am_T.wp hs (K := am_T m_X9_byOutside SP 168 Q) (cuts := []) (fun _ _ _ _ h => h) 7
    (⟨am_a hf rfl, Or.inl ⟨17, (hf).2 6 14 17 rfl, ⟨Nat.le_of_ble_eq_true rfl, trivial, hs _ _ _ _ _ (fun y1 w2 q3 e4 => am_ci (q3).2 fun z5 h6 => ⟨((q3).1).1, h6⟩) (h)⟩⟩⟩)

set_option maxRecDepth 100000 in
theorem v_X9_hop_6_e {SP : am_S} (hs : am_Smono SP) {Q : Option Value → am_W → Prop} {w : am_W} (hf : am_fin w) (p1 : Int32) (p2 : Int32)
    (h : SP 182 [(.int p1), (.int 12)] w (fun y1 w2 => am_fin w2 ∧ ∃ z5 : Int32, y1 = some (.int z5) ∧ ((z5 = 0 → Q (some (.int (-1))) w2) ∧ (¬ z5 = 0 → SP 182 [(.int p2), (.int 12)] w2 (fun y8 w9 => am_fin w9 ∧ ∃ z12 : Int32, y8 = some (.int z12) ∧ ((z12 = 0 → Q (some (.int (-1))) w9) ∧ (¬ z12 = 0 → (vp_in ((p1 * 12) + p2) 144 ∧ Q (some (.int (am_gi w9 13 (Int32.toNatClampNeg ((p1 * 12) + p2))))) w9)))))))) :
    am_T m_X9_hop SP 168 Q 0 [some (.ref 6), some (.int p1), some (.int p2)] [] w :=
  am_T.wp hs (K := am_T m_X9_hop SP 168 Q) (cuts := []) (fun _ _ _ _ h => h) 19
    (⟨Nat.le_of_ble_eq_true rfl, trivial, hs _ _ _ _ _ (fun y1 w2 q3 e4 => am_ci (q3).2 fun z5 h6 => ⟨fun c7 => ⟨((q3).1).1, ((h6).1 c7)⟩, fun c7 => ⟨Nat.le_of_ble_eq_true rfl, trivial, hs _ _ _ _ _ (fun y8 w9 q10 e11 => am_ci (q10).2 fun z12 h13 => ⟨fun c14 => ⟨((q10).1).1, ((h13).1 c14)⟩, fun c14 => ⟨am_a (q10).1 rfl, Or.inl ⟨13, ((q10).1).2 6 10 13 rfl, ⟨144, am_a (q10).1 rfl, (((h13).2 c14)).1, ⟨((q10).1).1, (((h13).2 c14)).2⟩⟩⟩⟩⟩) (((h6).2 c7))⟩⟩) (h)⟩)

set_option maxRecDepth 100000 in
theorem v_X9_hopMinutes_6_e {SP : am_S} (hs : am_Smono SP) {Q : Option Value → am_W → Prop} {w : am_W} (hf : am_fin w) (p1 : Int32) (p2 : Int32)
    (h : SP 122 [(.ref 6), (.int p1), (.int p2)] w (fun y1 w2 => am_fin w2 ∧ ∃ z5 : Int32, y1 = some (.int z5) ∧ SP 182 [(.int z5), (.int (am_gi w2 6 3))] w2 (fun y7 w8 => am_fin w8 ∧ ∃ z11 : Int32, y7 = some (.int z11) ∧ ((z11 = 0 → Q (some (.int 1000000)) w8) ∧ (¬ z11 = 0 → (vp_in z5 24 ∧ Q (some (.int (am_gi w8 9 (Int32.toNatClampNeg z5)))) w8)))))) :
    am_T m_X9_hopMinutes SP 168 Q 0 [some (.ref 6), some (.int p1), some (.int p2), none] [] w :=
  am_T.wp hs (K := am_T m_X9_hopMinutes SP 168 Q) (cuts := []) (fun _ _ _ _ h => h) 17
    (⟨Nat.le_of_ble_eq_true rfl, am_a hf rfl, hs _ _ _ _ _ (fun y1 w2 q3 e4 => am_ci (q3).2 fun z5 h6 => ⟨am_a (q3).1 rfl, ⟨Nat.le_of_ble_eq_true rfl, trivial, hs _ _ _ _ _ (fun y7 w8 q9 e10 => am_ci (q9).2 fun z11 h12 => ⟨fun c13 => ⟨((q9).1).1, ((h12).1 c13)⟩, fun c13 => ⟨am_a (q9).1 rfl, Or.inl ⟨9, ((q9).1).2 6 2 9 rfl, ⟨24, am_a (q9).1 rfl, (((h12).2 c13)).1, ⟨((q9).1).1, (((h12).2 c13)).2⟩⟩⟩⟩⟩) (h6)⟩⟩) (h)⟩)

set_option maxRecDepth 100000 in
theorem v_X9_isZone_6_e {SP : am_S} (hs : am_Smono SP) {Q : Option Value → am_W → Prop} {w : am_W} (hf : am_fin w) (p1 : Int32)
    (h : ((¬ (((am_gi w 6 4) >>> (p1 &&& 31)) &&& 1) = 1 → Q (some (.int 0)) w) ∧ ((((am_gi w 6 4) >>> (p1 &&& 31)) &&& 1) = 1 → Q (some (.int 1)) w))) :
    am_T m_X9_isZone SP 168 Q 0 [some (.ref 6), some (.int p1)] [] w :=
  am_T.wp hs (K := am_T m_X9_isZone SP 168 Q) (cuts := []) (fun _ _ _ _ h => h) 12
    (⟨am_a hf rfl, ⟨fun c1 => ⟨(hf).1, Or.inl rfl, ((h).1 c1)⟩, fun c1 => ⟨(hf).1, Or.inr rfl, ((h).2 c1)⟩⟩⟩)

set_option maxRecDepth 100000 in
theorem v_X9_pointOf_6_e {SP : am_S} (hs : am_Smono SP) {Q : Option Value → am_W → Prop} {w : am_W} (hf : am_fin w) (p1 : Int32)
    (h : ((p1 < 0 → Q (some (.int (-1))) w) ∧ (¬ p1 < 0 → (((am_gi w 6 8) ≤ p1 → Q (some (.int (-1))) w) ∧ (¬ (am_gi w 6 8) ≤ p1 → (vp_in p1 8 ∧ Q (some (.int (am_gi w 10 (Int32.toNatClampNeg p1)))) w)))))) :
    am_T m_X9_pointOf SP 168 Q 0 [some (.ref 6), some (.int p1)] [] w :=
  am_T.wp hs (K := am_T m_X9_pointOf SP 168 Q) (cuts := []) (fun _ _ _ _ h => h) 13
    (⟨fun c1 => ⟨(hf).1, ((h).1 c1)⟩, fun c1 => ⟨am_a hf rfl, ⟨fun c2 => ⟨(hf).1, ((((h).2 c1)).1 c2)⟩, fun c2 => ⟨am_a hf rfl, Or.inl ⟨10, (hf).2 6 5 10 rfl, ⟨8, am_a hf rfl, (((((h).2 c1)).2 c2)).1, ⟨(hf).1, (((((h).2 c1)).2 c2)).2⟩⟩⟩⟩⟩⟩⟩)

set_option maxRecDepth 100000 in
theorem v_X9_works_6_e {SP : am_S} (hs : am_Smono SP) {Q : Option Value → am_W → Prop} {w : am_W} (hf : am_fin w) (p1 : Int32) (p2 : Int32)
    (h : SP 182 [(.int p1), (.int (am_gi w 6 8))] w (fun y1 w2 => am_fin w2 ∧ ∃ z5 : Int32, y1 = some (.int z5) ∧ ((z5 = 0 → Q (some (.int 0)) w2) ∧ (¬ z5 = 0 → (vp_in p1 8 ∧ ((p2 < (am_gi w2 11 (Int32.toNatClampNeg p1)) → Q (some (.int 0)) w2) ∧ (¬ p2 < (am_gi w2 11 (Int32.toNatClampNeg p1)) → (vp_in p1 8 ∧ (((am_gi w2 12 (Int32.toNatClampNeg p1)) ≤ p2 → Q (some (.int 0)) w2) ∧ (¬ (am_gi w2 12 (Int32.toNatClampNeg p1)) ≤ p2 → Q (some (.int 1)) w2)))))))))) :
    am_T m_X9_works SP 168 Q 0 [some (.ref 6), some (.int p1), some (.int p2)] [] w :=
  am_T.wp hs (K := am_T m_X9_works SP 168 Q) (cuts := []) (fun _ _ _ _ h => h) 21
    (⟨am_a hf rfl, ⟨Nat.le_of_ble_eq_true rfl, trivial, hs _ _ _ _ _ (fun y1 w2 q3 e4 => am_ci (q3).2 fun z5 h6 => ⟨fun c7 => ⟨((q3).1).1, Or.inl rfl, ((h6).1 c7)⟩, fun c7 => ⟨am_a (q3).1 rfl, Or.inl ⟨11, ((q3).1).2 6 6 11 rfl, ⟨8, am_a (q3).1 rfl, (((h6).2 c7)).1, ⟨fun c8 => ⟨((q3).1).1, Or.inl rfl, (((((h6).2 c7)).2).1 c8)⟩, fun c8 => ⟨am_a (q3).1 rfl, Or.inl ⟨12, ((q3).1).2 6 7 12 rfl, ⟨8, am_a (q3).1 rfl, ((((((h6).2 c7)).2).2 c8)).1, ⟨fun c9 => ⟨((q3).1).1, Or.inl rfl, ((((((((h6).2 c7)).2).2 c8)).2).1 c9)⟩, fun c9 => ⟨((q3).1).1, Or.inr rfl, ((((((((h6).2 c7)).2).2 c8)).2).2 c9)⟩⟩⟩⟩⟩⟩⟩⟩⟩⟩) (h)⟩⟩)

set_option maxRecDepth 100000 in
theorem v_X9_readLine_6_e {SP : am_S} (hs : am_Smono SP) {Q : Option Value → am_W → Prop} {w : am_W} (hf : am_fin w) 
    (h : SP 93 [(.ref 1)] w (fun y1 w2 => am_fin w2 ∧ ∃ z5 : Int32, y1 = some (.int z5) ∧ ((z5 = 100 → SP 128 [(.ref 6), (.ref 1)] w2 (fun y8 w9 => am_fin w9 ∧ ∃ z12 : Int32, y8 = some (.int z12) ∧ ((z12 = 0 ∨ z12 = 1) ∧ Q (some (.int z12)) w9))) ∧ (¬ z5 = 100 → ((z5 = 101 → SP 129 [(.ref 6), (.ref 1)] w2 (fun y15 w16 => am_fin w16 ∧ ∃ z19 : Int32, y15 = some (.int z19) ∧ ((z19 = 0 ∨ z19 = 1) ∧ Q (some (.int z19)) w16))) ∧ (¬ z5 = 101 → ((z5 = 102 → SP 130 [(.ref 6), (.ref 1)] w2 (fun y22 w23 => am_fin w23 ∧ ∃ z26 : Int32, y22 = some (.int z26) ∧ ((z26 = 0 ∨ z26 = 1) ∧ Q (some (.int z26)) w23))) ∧ (¬ z5 = 102 → SP 96 [(.ref 1), (.int 2)] w2 (fun y28 w29 => am_fin w29 ∧ ∃ z32 : Int32, y28 = some (.int z32) ∧ ((z32 = 0 ∨ z32 = 1) ∧ Q (some (.int z32)) w29)))))))))) :
    am_T m_X9_readLine SP 168 Q 0 [some (.ref 6), some (.ref 1)] [] w :=
  am_T.wp hs (K := am_T m_X9_readLine SP 168 Q) (cuts := []) (fun _ _ _ _ h => h) 8
    (⟨Nat.le_of_ble_eq_true rfl, am_a hf rfl, hs _ _ _ _ _ (fun y1 w2 q3 e4 => am_ci (q3).2 fun z5 h6 => ⟨fun c7 => ⟨Nat.le_of_ble_eq_true rfl, am_a (q3).1 rfl, hs _ _ _ _ _ (fun y8 w9 q10 e11 => am_ci (q10).2 fun z12 h13 => ⟨((q10).1).1, (h13).1, (h13).2⟩) (((h6).1 c7))⟩, fun c7 => ⟨fun c14 => ⟨Nat.le_of_ble_eq_true rfl, am_a (q3).1 rfl, hs _ _ _ _ _ (fun y15 w16 q17 e18 => am_ci (q17).2 fun z19 h20 => ⟨((q17).1).1, (h20).1, (h20).2⟩) (((((h6).2 c7)).1 c14))⟩, fun c14 => ⟨fun c21 => ⟨Nat.le_of_ble_eq_true rfl, am_a (q3).1 rfl, hs _ _ _ _ _ (fun y22 w23 q24 e25 => am_ci (q24).2 fun z26 h27 => ⟨((q24).1).1, (h27).1, (h27).2⟩) (((((((h6).2 c7)).2 c14)).1 c21))⟩, fun c21 => ⟨Nat.le_of_ble_eq_true rfl, am_a (q3).1 rfl, hs _ _ _ _ _ (fun y28 w29 q30 e31 => am_ci (q30).2 fun z32 h33 => ⟨((q30).1).1, (h33).1, (h33).2⟩) (((((((h6).2 c7)).2 c14)).2 c21))⟩⟩⟩⟩) (h)⟩)

set_option maxRecDepth 100000 in
theorem v_X9_readLine_18_e {SP : am_S} (hs : am_Smono SP) {Q : Option Value → am_W → Prop} {w : am_W} (hf : am_fin w) 
    (h : SP 93 [(.ref 1)] w (fun y1 w2 => am_fin w2 ∧ ∃ z5 : Int32, y1 = some (.int z5) ∧ ((z5 = 100 → SP 128 [(.ref 18), (.ref 1)] w2 (fun y8 w9 => am_fin w9 ∧ ∃ z12 : Int32, y8 = some (.int z12) ∧ ((z12 = 0 ∨ z12 = 1) ∧ Q (some (.int z12)) w9))) ∧ (¬ z5 = 100 → ((z5 = 101 → SP 129 [(.ref 18), (.ref 1)] w2 (fun y15 w16 => am_fin w16 ∧ ∃ z19 : Int32, y15 = some (.int z19) ∧ ((z19 = 0 ∨ z19 = 1) ∧ Q (some (.int z19)) w16))) ∧ (¬ z5 = 101 → ((z5 = 102 → SP 130 [(.ref 18), (.ref 1)] w2 (fun y22 w23 => am_fin w23 ∧ ∃ z26 : Int32, y22 = some (.int z26) ∧ ((z26 = 0 ∨ z26 = 1) ∧ Q (some (.int z26)) w23))) ∧ (¬ z5 = 102 → SP 96 [(.ref 1), (.int 2)] w2 (fun y28 w29 => am_fin w29 ∧ ∃ z32 : Int32, y28 = some (.int z32) ∧ ((z32 = 0 ∨ z32 = 1) ∧ Q (some (.int z32)) w29)))))))))) :
    am_T m_X9_readLine SP 168 Q 0 [some (.ref 18), some (.ref 1)] [] w :=
  am_T.wp hs (K := am_T m_X9_readLine SP 168 Q) (cuts := []) (fun _ _ _ _ h => h) 8
    (⟨Nat.le_of_ble_eq_true rfl, am_a hf rfl, hs _ _ _ _ _ (fun y1 w2 q3 e4 => am_ci (q3).2 fun z5 h6 => ⟨fun c7 => ⟨Nat.le_of_ble_eq_true rfl, am_a (q3).1 rfl, hs _ _ _ _ _ (fun y8 w9 q10 e11 => am_ci (q10).2 fun z12 h13 => ⟨((q10).1).1, (h13).1, (h13).2⟩) (((h6).1 c7))⟩, fun c7 => ⟨fun c14 => ⟨Nat.le_of_ble_eq_true rfl, am_a (q3).1 rfl, hs _ _ _ _ _ (fun y15 w16 q17 e18 => am_ci (q17).2 fun z19 h20 => ⟨((q17).1).1, (h20).1, (h20).2⟩) (((((h6).2 c7)).1 c14))⟩, fun c14 => ⟨fun c21 => ⟨Nat.le_of_ble_eq_true rfl, am_a (q3).1 rfl, hs _ _ _ _ _ (fun y22 w23 q24 e25 => am_ci (q24).2 fun z26 h27 => ⟨((q24).1).1, (h27).1, (h27).2⟩) (((((((h6).2 c7)).2 c14)).1 c21))⟩, fun c21 => ⟨Nat.le_of_ble_eq_true rfl, am_a (q3).1 rfl, hs _ _ _ _ _ (fun y28 w29 q30 e31 => am_ci (q30).2 fun z32 h33 => ⟨((q30).1).1, (h33).1, (h33).2⟩) (((((((h6).2 c7)).2 c14)).2 c21))⟩⟩⟩⟩) (h)⟩)

set_option maxRecDepth 100000 in
theorem v_X9_readWay_6_e {SP : am_S} (hs : am_Smono SP) {Q : Option Value → am_W → Prop} {w : am_W} (hf : am_fin w) 
    (h : (((am_gi w 6 3) < 24 → SP 95 [(.ref 1)] w (fun y2 w3 => am_fin w3 ∧ y2 = none ∧ SP 99 [(.ref 1), (.int 0)] w3 (fun y6 w7 => am_fin w7 ∧ ∃ z10 : Int32, y6 = some (.int z10) ∧ ((¬ z10 = (-1) → SP 99 [(.ref 1), (.int (1 <<< (z10 &&& 31)))] w7 (fun y13 w14 => am_fin w14 ∧ ∃ z17 : Int32, y13 = some (.int z17) ∧ ((¬ z17 = (-1) → SP 98 [(.ref 1), (.int 1), (.int 99)] w14 (fun y20 w21 => am_fin w21 ∧ ∃ z24 : Int32, y20 = some (.int z24) ∧ ((z24 = (-1) → Q (some (.int 0)) w21) ∧ (¬ z24 = (-1) → SP 97 [(.ref 1), (.int 59)] w21 (fun y27 w28 => am_fin w28 ∧ ∃ z31 : Int32, y27 = some (.int z31) ∧ ((¬ z31 = 0 → (vp_in (am_gi w28 6 3) 24 ∧ ∀ w34 : am_W, w34 = am_si w28 7 (Int32.toNatClampNeg (am_gi w28 6 3)) z10 → (vp_in (am_gi w34 6 3) 24 ∧ ∀ w35 : am_W, w35 = am_si w34 8 (Int32.toNatClampNeg (am_gi w34 6 3)) z17 → (vp_in (am_gi w35 6 3) 24 ∧ ∀ w36 : am_W, w36 = am_si w35 9 (Int32.toNatClampNeg (am_gi w35 6 3)) z24 → (∀ w37 : am_W, w37 = am_si w36 6 3 ((am_gi w36 6 3) + 1) → Q (some (.int 1)) w37))))) ∧ (z31 = 0 → Q (some (.int 0)) w28))))))) ∧ (z17 = (-1) → Q (some (.int 0)) w14)))) ∧ (z10 = (-1) → Q (some (.int 0)) w7))))) ∧ (¬ (am_gi w 6 3) < 24 → SP 96 [(.ref 1), (.int 2)] w (fun y41 w42 => am_fin w42 ∧ ∃ z45 : Int32, y41 = some (.int z45) ∧ ((z45 = 0 ∨ z45 = 1) ∧ Q (some (.int z45)) w42))))) :
    am_T m_X9_readWay SP 168 Q 0 [some (.ref 6), some (.ref 1), none, none, none] [] w :=
  am_T.wp hs (K := am_T m_X9_readWay SP 168 Q) (cuts := []) (fun _ _ _ _ h => h) 61
    (⟨am_a hf rfl, ⟨fun c1 => ⟨Nat.le_of_ble_eq_true rfl, am_a hf rfl, hs _ _ _ _ _ (fun y2 w3 q4 e5 => ⟨(q4).2.1, ⟨Nat.le_of_ble_eq_true rfl, am_a (q4).1 rfl, hs _ _ _ _ _ (fun y6 w7 q8 e9 => am_ci (q8).2 fun z10 h11 => ⟨fun c12 => ⟨Nat.le_of_ble_eq_true rfl, am_a (q8).1 rfl, hs _ _ _ _ _ (fun y13 w14 q15 e16 => am_ci (q15).2 fun z17 h18 => ⟨fun c19 => ⟨Nat.le_of_ble_eq_true rfl, am_a (q15).1 rfl, hs _ _ _ _ _ (fun y20 w21 q22 e23 => am_ci (q22).2 fun z24 h25 => ⟨fun c26 => ⟨((q22).1).1, Or.inl rfl, ((h25).1 c26)⟩, fun c26 => ⟨Nat.le_of_ble_eq_true rfl, am_a (q22).1 rfl, hs _ _ _ _ _ (fun y27 w28 q29 e30 => am_ci (q29).2 fun z31 h32 => ⟨fun c33 => ⟨am_a (q29).1 rfl, Or.inl ⟨7, ((q29).1).2 6 0 7 rfl, ⟨am_a (q29).1 rfl, ⟨24, am_a (q29).1 rfl, (((h32).1 c33)).1, ⟨am_a (q29).1 rfl, Or.inl ⟨8, ((q29).1).2 6 1 8 rfl, ⟨am_a (q29).1 rfl, ⟨24, am_a (q29).1 rfl, (((((h32).1 c33)).2 _ rfl)).1, ⟨am_a (q29).1 rfl, Or.inl ⟨9, ((q29).1).2 6 2 9 rfl, ⟨am_a (q29).1 rfl, ⟨24, am_a (q29).1 rfl, (((((((h32).1 c33)).2 _ rfl)).2 _ rfl)).1, ⟨am_a (q29).1 rfl, ⟨am_a (q29).1 rfl, ⟨((q29).1).1, Or.inr rfl, (((((((((h32).1 c33)).2 _ rfl)).2 _ rfl)).2 _ rfl) _ rfl)⟩⟩⟩⟩⟩⟩⟩⟩⟩⟩⟩⟩⟩⟩⟩, fun c33 => ⟨((q29).1).1, Or.inl rfl, ((h32).2 c33)⟩⟩) (((h25).2 c26))⟩⟩) (((h18).1 c19))⟩, fun c19 => ⟨fun c38 => ⟨((q15).1).1, Or.inl rfl, ((h18).2 c19)⟩, fun c38 => absurd c38 (by decide)⟩⟩) (((h11).1 c12))⟩, fun c12 => ⟨fun c39 => absurd c39 (by decide), fun c39 => ⟨fun c40 => ⟨((q8).1).1, Or.inl rfl, ((h11).2 c12)⟩, fun c40 => absurd c40 (by decide)⟩⟩⟩) ((q4).2.2)⟩⟩) (((h).1 c1))⟩, fun c1 => ⟨Nat.le_of_ble_eq_true rfl, am_a hf rfl, hs _ _ _ _ _ (fun y41 w42 q43 e44 => am_ci (q43).2 fun z45 h46 => ⟨((q43).1).1, (h46).1, (h46).2⟩) (((h).2 c1))⟩⟩⟩)

set_option maxRecDepth 100000 in
theorem v_X9_readWay_18_e {SP : am_S} (hs : am_Smono SP) {Q : Option Value → am_W → Prop} {w : am_W} (hf : am_fin w) 
    (h : (((am_gi w 18 3) < 24 → SP 95 [(.ref 1)] w (fun y2 w3 => am_fin w3 ∧ y2 = none ∧ SP 99 [(.ref 1), (.int 0)] w3 (fun y6 w7 => am_fin w7 ∧ ∃ z10 : Int32, y6 = some (.int z10) ∧ ((¬ z10 = (-1) → SP 99 [(.ref 1), (.int (1 <<< (z10 &&& 31)))] w7 (fun y13 w14 => am_fin w14 ∧ ∃ z17 : Int32, y13 = some (.int z17) ∧ ((¬ z17 = (-1) → SP 98 [(.ref 1), (.int 1), (.int 99)] w14 (fun y20 w21 => am_fin w21 ∧ ∃ z24 : Int32, y20 = some (.int z24) ∧ ((z24 = (-1) → Q (some (.int 0)) w21) ∧ (¬ z24 = (-1) → SP 97 [(.ref 1), (.int 59)] w21 (fun y27 w28 => am_fin w28 ∧ ∃ z31 : Int32, y27 = some (.int z31) ∧ ((¬ z31 = 0 → (vp_in (am_gi w28 18 3) 24 ∧ ∀ w34 : am_W, w34 = am_si w28 19 (Int32.toNatClampNeg (am_gi w28 18 3)) z10 → (vp_in (am_gi w34 18 3) 24 ∧ ∀ w35 : am_W, w35 = am_si w34 20 (Int32.toNatClampNeg (am_gi w34 18 3)) z17 → (vp_in (am_gi w35 18 3) 24 ∧ ∀ w36 : am_W, w36 = am_si w35 21 (Int32.toNatClampNeg (am_gi w35 18 3)) z24 → (∀ w37 : am_W, w37 = am_si w36 18 3 ((am_gi w36 18 3) + 1) → Q (some (.int 1)) w37))))) ∧ (z31 = 0 → Q (some (.int 0)) w28))))))) ∧ (z17 = (-1) → Q (some (.int 0)) w14)))) ∧ (z10 = (-1) → Q (some (.int 0)) w7))))) ∧ (¬ (am_gi w 18 3) < 24 → SP 96 [(.ref 1), (.int 2)] w (fun y41 w42 => am_fin w42 ∧ ∃ z45 : Int32, y41 = some (.int z45) ∧ ((z45 = 0 ∨ z45 = 1) ∧ Q (some (.int z45)) w42))))) :
    am_T m_X9_readWay SP 168 Q 0 [some (.ref 18), some (.ref 1), none, none, none] [] w :=
  am_T.wp hs (K := am_T m_X9_readWay SP 168 Q) (cuts := []) (fun _ _ _ _ h => h) 61
    (⟨am_a hf rfl, ⟨fun c1 => ⟨Nat.le_of_ble_eq_true rfl, am_a hf rfl, hs _ _ _ _ _ (fun y2 w3 q4 e5 => ⟨(q4).2.1, ⟨Nat.le_of_ble_eq_true rfl, am_a (q4).1 rfl, hs _ _ _ _ _ (fun y6 w7 q8 e9 => am_ci (q8).2 fun z10 h11 => ⟨fun c12 => ⟨Nat.le_of_ble_eq_true rfl, am_a (q8).1 rfl, hs _ _ _ _ _ (fun y13 w14 q15 e16 => am_ci (q15).2 fun z17 h18 => ⟨fun c19 => ⟨Nat.le_of_ble_eq_true rfl, am_a (q15).1 rfl, hs _ _ _ _ _ (fun y20 w21 q22 e23 => am_ci (q22).2 fun z24 h25 => ⟨fun c26 => ⟨((q22).1).1, Or.inl rfl, ((h25).1 c26)⟩, fun c26 => ⟨Nat.le_of_ble_eq_true rfl, am_a (q22).1 rfl, hs _ _ _ _ _ (fun y27 w28 q29 e30 => am_ci (q29).2 fun z31 h32 => ⟨fun c33 => ⟨am_a (q29).1 rfl, Or.inl ⟨19, ((q29).1).2 18 0 19 rfl, ⟨am_a (q29).1 rfl, ⟨24, am_a (q29).1 rfl, (((h32).1 c33)).1, ⟨am_a (q29).1 rfl, Or.inl ⟨20, ((q29).1).2 18 1 20 rfl, ⟨am_a (q29).1 rfl, ⟨24, am_a (q29).1 rfl, (((((h32).1 c33)).2 _ rfl)).1, ⟨am_a (q29).1 rfl, Or.inl ⟨21, ((q29).1).2 18 2 21 rfl, ⟨am_a (q29).1 rfl, ⟨24, am_a (q29).1 rfl, (((((((h32).1 c33)).2 _ rfl)).2 _ rfl)).1, ⟨am_a (q29).1 rfl, ⟨am_a (q29).1 rfl, ⟨((q29).1).1, Or.inr rfl, (((((((((h32).1 c33)).2 _ rfl)).2 _ rfl)).2 _ rfl) _ rfl)⟩⟩⟩⟩⟩⟩⟩⟩⟩⟩⟩⟩⟩⟩⟩, fun c33 => ⟨((q29).1).1, Or.inl rfl, ((h32).2 c33)⟩⟩) (((h25).2 c26))⟩⟩) (((h18).1 c19))⟩, fun c19 => ⟨fun c38 => ⟨((q15).1).1, Or.inl rfl, ((h18).2 c19)⟩, fun c38 => absurd c38 (by decide)⟩⟩) (((h11).1 c12))⟩, fun c12 => ⟨fun c39 => absurd c39 (by decide), fun c39 => ⟨fun c40 => ⟨((q8).1).1, Or.inl rfl, ((h11).2 c12)⟩, fun c40 => absurd c40 (by decide)⟩⟩⟩) ((q4).2.2)⟩⟩) (((h).1 c1))⟩, fun c1 => ⟨Nat.le_of_ble_eq_true rfl, am_a hf rfl, hs _ _ _ _ _ (fun y41 w42 q43 e44 => am_ci (q43).2 fun z45 h46 => ⟨((q43).1).1, (h46).1, (h46).2⟩) (((h).2 c1))⟩⟩⟩)

set_option maxRecDepth 100000 in
theorem v_X9_readZone_6_e {SP : am_S} (hs : am_Smono SP) {Q : Option Value → am_W → Prop} {w : am_W} (hf : am_fin w) 
    (h : (((am_gi w 6 4) = 0 → SP 95 [(.ref 1)] w (fun y2 w3 => am_fin w3 ∧ y2 = none ∧ am_T m_X9_readZone SP 168 Q 19 [some (.ref 6), some (.ref 1), some (.int 0), none] [] w3)) ∧ (¬ (am_gi w 6 4) = 0 → SP 96 [(.ref 1), (.int 2)] w (fun y6 w7 => am_fin w7 ∧ ∃ z10 : Int32, y6 = some (.int z10) ∧ ((z10 = 0 ∨ z10 = 1) ∧ Q (some (.int z10)) w7))))) :
    am_T m_X9_readZone SP 168 Q 0 [some (.ref 6), some (.ref 1), none, none] [] w :=
  am_T.wp hs (K := am_T m_X9_readZone SP 168 Q) (cuts := [19]) (fun _ _ _ _ h => h) 9
    (⟨am_a hf rfl, ⟨fun c1 => ⟨Nat.le_of_ble_eq_true rfl, am_a hf rfl, hs _ _ _ _ _ (fun y2 w3 q4 e5 => ⟨(q4).2.1, (q4).2.2⟩) (((h).1 c1))⟩, fun c1 => ⟨Nat.le_of_ble_eq_true rfl, am_a hf rfl, hs _ _ _ _ _ (fun y6 w7 q8 e9 => am_ci (q8).2 fun z10 h11 => ⟨((q8).1).1, (h11).1, (h11).2⟩) (((h).2 c1))⟩⟩⟩)

set_option maxRecDepth 100000 in
theorem v_X9_readZone_6_19 {SP : am_S} (hs : am_Smono SP) {Q : Option Value → am_W → Prop} {w : am_W} (hf : am_fin w) (x2 : Int32) (o3 : Option Value)
    (h : ((12 < x2 → Q (some (.int 0)) w) ∧ (¬ 12 < x2 → (((am_gi w 6 4) = 0 → SP 99 [(.ref 1), (.int (am_gi w 6 4))] w (fun y3 w4 => am_fin w4 ∧ ∃ z7 : Int32, y3 = some (.int z7) ∧ ((¬ z7 = (-1) → (∀ w10 : am_W, w10 = am_si w4 6 4 ((am_gi w4 6 4) ||| (1 <<< (z7 &&& 31))) → am_T m_X9_readZone SP 168 Q 19 [some (.ref 6), some (.ref 1), some (.int (x2 + 1)), some (.int z7)] [] w10)) ∧ (z7 = (-1) → Q (some (.int 0)) w4)))) ∧ (¬ (am_gi w 6 4) = 0 → SP 93 [(.ref 1)] w (fun y11 w12 => am_fin w12 ∧ ∃ z15 : Int32, y11 = some (.int z15) ∧ ((¬ z15 = 59 → SP 99 [(.ref 1), (.int (am_gi w12 6 4))] w12 (fun y18 w19 => am_fin w19 ∧ ∃ z22 : Int32, y18 = some (.int z22) ∧ ((¬ z22 = (-1) → (∀ w25 : am_W, w25 = am_si w19 6 4 ((am_gi w19 6 4) ||| (1 <<< (z22 &&& 31))) → am_T m_X9_readZone SP 168 Q 19 [some (.ref 6), some (.ref 1), some (.int (x2 + 1)), some (.int z22)] [] w25)) ∧ (z22 = (-1) → Q (some (.int 0)) w19)))) ∧ (z15 = 59 → SP 95 [(.ref 1)] w12 (fun y26 w27 => am_fin w27 ∧ y26 = none ∧ Q (some (.int 1)) w27))))))))) :
    am_T m_X9_readZone SP 168 Q 19 [some (.ref 6), some (.ref 1), some (.int x2), o3] [] w :=
  am_T.wp hs (K := am_T m_X9_readZone SP 168 Q) (cuts := [19]) (fun _ _ _ _ h => h) 30
    (⟨fun c1 => ⟨(hf).1, Or.inl rfl, ((h).1 c1)⟩, fun c1 => ⟨am_a hf rfl, ⟨fun c2 => ⟨am_a hf rfl, ⟨Nat.le_of_ble_eq_true rfl, am_a hf rfl, hs _ _ _ _ _ (fun y3 w4 q5 e6 => am_ci (q5).2 fun z7 h8 => ⟨fun c9 => ⟨am_a (q5).1 rfl, ⟨am_a (q5).1 rfl, (((h8).1 c9) _ rfl)⟩⟩, fun c9 => ⟨((q5).1).1, Or.inl rfl, ((h8).2 c9)⟩⟩) (((((h).2 c1)).1 c2))⟩⟩, fun c2 => ⟨Nat.le_of_ble_eq_true rfl, am_a hf rfl, hs _ _ _ _ _ (fun y11 w12 q13 e14 => am_ci (q13).2 fun z15 h16 => ⟨fun c17 => ⟨am_a (q13).1 rfl, ⟨Nat.le_of_ble_eq_true rfl, am_a (q13).1 rfl, hs _ _ _ _ _ (fun y18 w19 q20 e21 => am_ci (q20).2 fun z22 h23 => ⟨fun c24 => ⟨am_a (q20).1 rfl, ⟨am_a (q20).1 rfl, (((h23).1 c24) _ rfl)⟩⟩, fun c24 => ⟨((q20).1).1, Or.inl rfl, ((h23).2 c24)⟩⟩) (((h16).1 c17))⟩⟩, fun c17 => ⟨Nat.le_of_ble_eq_true rfl, am_a (q13).1 rfl, hs _ _ _ _ _ (fun y26 w27 q28 e29 => ⟨(q28).2.1, ⟨((q28).1).1, Or.inr rfl, (q28).2.2⟩⟩) (((h16).2 c17))⟩⟩) (((((h).2 c1)).2 c2))⟩⟩⟩⟩)

set_option maxRecDepth 100000 in
theorem v_X9_readZone_18_e {SP : am_S} (hs : am_Smono SP) {Q : Option Value → am_W → Prop} {w : am_W} (hf : am_fin w) 
    (h : (((am_gi w 18 4) = 0 → SP 95 [(.ref 1)] w (fun y2 w3 => am_fin w3 ∧ y2 = none ∧ am_T m_X9_readZone SP 168 Q 19 [some (.ref 18), some (.ref 1), some (.int 0), none] [] w3)) ∧ (¬ (am_gi w 18 4) = 0 → SP 96 [(.ref 1), (.int 2)] w (fun y6 w7 => am_fin w7 ∧ ∃ z10 : Int32, y6 = some (.int z10) ∧ ((z10 = 0 ∨ z10 = 1) ∧ Q (some (.int z10)) w7))))) :
    am_T m_X9_readZone SP 168 Q 0 [some (.ref 18), some (.ref 1), none, none] [] w :=
  am_T.wp hs (K := am_T m_X9_readZone SP 168 Q) (cuts := [19]) (fun _ _ _ _ h => h) 9
    (⟨am_a hf rfl, ⟨fun c1 => ⟨Nat.le_of_ble_eq_true rfl, am_a hf rfl, hs _ _ _ _ _ (fun y2 w3 q4 e5 => ⟨(q4).2.1, (q4).2.2⟩) (((h).1 c1))⟩, fun c1 => ⟨Nat.le_of_ble_eq_true rfl, am_a hf rfl, hs _ _ _ _ _ (fun y6 w7 q8 e9 => am_ci (q8).2 fun z10 h11 => ⟨((q8).1).1, (h11).1, (h11).2⟩) (((h).2 c1))⟩⟩⟩)

set_option maxRecDepth 100000 in
theorem v_X9_readZone_18_19 {SP : am_S} (hs : am_Smono SP) {Q : Option Value → am_W → Prop} {w : am_W} (hf : am_fin w) (x2 : Int32) (o3 : Option Value)
    (h : ((12 < x2 → Q (some (.int 0)) w) ∧ (¬ 12 < x2 → (((am_gi w 18 4) = 0 → SP 99 [(.ref 1), (.int (am_gi w 18 4))] w (fun y3 w4 => am_fin w4 ∧ ∃ z7 : Int32, y3 = some (.int z7) ∧ ((¬ z7 = (-1) → (∀ w10 : am_W, w10 = am_si w4 18 4 ((am_gi w4 18 4) ||| (1 <<< (z7 &&& 31))) → am_T m_X9_readZone SP 168 Q 19 [some (.ref 18), some (.ref 1), some (.int (x2 + 1)), some (.int z7)] [] w10)) ∧ (z7 = (-1) → Q (some (.int 0)) w4)))) ∧ (¬ (am_gi w 18 4) = 0 → SP 93 [(.ref 1)] w (fun y11 w12 => am_fin w12 ∧ ∃ z15 : Int32, y11 = some (.int z15) ∧ ((¬ z15 = 59 → SP 99 [(.ref 1), (.int (am_gi w12 18 4))] w12 (fun y18 w19 => am_fin w19 ∧ ∃ z22 : Int32, y18 = some (.int z22) ∧ ((¬ z22 = (-1) → (∀ w25 : am_W, w25 = am_si w19 18 4 ((am_gi w19 18 4) ||| (1 <<< (z22 &&& 31))) → am_T m_X9_readZone SP 168 Q 19 [some (.ref 18), some (.ref 1), some (.int (x2 + 1)), some (.int z22)] [] w25)) ∧ (z22 = (-1) → Q (some (.int 0)) w19)))) ∧ (z15 = 59 → SP 95 [(.ref 1)] w12 (fun y26 w27 => am_fin w27 ∧ y26 = none ∧ Q (some (.int 1)) w27))))))))) :
    am_T m_X9_readZone SP 168 Q 19 [some (.ref 18), some (.ref 1), some (.int x2), o3] [] w :=
  am_T.wp hs (K := am_T m_X9_readZone SP 168 Q) (cuts := [19]) (fun _ _ _ _ h => h) 30
    (⟨fun c1 => ⟨(hf).1, Or.inl rfl, ((h).1 c1)⟩, fun c1 => ⟨am_a hf rfl, ⟨fun c2 => ⟨am_a hf rfl, ⟨Nat.le_of_ble_eq_true rfl, am_a hf rfl, hs _ _ _ _ _ (fun y3 w4 q5 e6 => am_ci (q5).2 fun z7 h8 => ⟨fun c9 => ⟨am_a (q5).1 rfl, ⟨am_a (q5).1 rfl, (((h8).1 c9) _ rfl)⟩⟩, fun c9 => ⟨((q5).1).1, Or.inl rfl, ((h8).2 c9)⟩⟩) (((((h).2 c1)).1 c2))⟩⟩, fun c2 => ⟨Nat.le_of_ble_eq_true rfl, am_a hf rfl, hs _ _ _ _ _ (fun y11 w12 q13 e14 => am_ci (q13).2 fun z15 h16 => ⟨fun c17 => ⟨am_a (q13).1 rfl, ⟨Nat.le_of_ble_eq_true rfl, am_a (q13).1 rfl, hs _ _ _ _ _ (fun y18 w19 q20 e21 => am_ci (q20).2 fun z22 h23 => ⟨fun c24 => ⟨am_a (q20).1 rfl, ⟨am_a (q20).1 rfl, (((h23).1 c24) _ rfl)⟩⟩, fun c24 => ⟨((q20).1).1, Or.inl rfl, ((h23).2 c24)⟩⟩) (((h16).1 c17))⟩⟩, fun c17 => ⟨Nat.le_of_ble_eq_true rfl, am_a (q13).1 rfl, hs _ _ _ _ _ (fun y26 w27 q28 e29 => ⟨(q28).2.1, ⟨((q28).1).1, Or.inr rfl, (q28).2.2⟩⟩) (((h16).2 c17))⟩⟩) (((((h).2 c1)).2 c2))⟩⟩⟩⟩)

set_option maxRecDepth 100000 in
theorem v_X9_readCamera_6_e {SP : am_S} (hs : am_Smono SP) {Q : Option Value → am_W → Prop} {w : am_W} (hf : am_fin w) 
    (h : (((am_gi w 6 8) < 8 → SP 95 [(.ref 1)] w (fun y2 w3 => am_fin w3 ∧ y2 = none ∧ SP 99 [(.ref 1), (.int (am_gi w3 6 9))] w3 (fun y6 w7 => am_fin w7 ∧ ∃ z10 : Int32, y6 = some (.int z10) ∧ ((z10 = (-1) → Q (some (.int 0)) w7) ∧ (¬ z10 = (-1) → SP 97 [(.ref 1), (.int 103)] w7 (fun y13 w14 => am_fin w14 ∧ ∃ z17 : Int32, y13 = some (.int z17) ∧ ((¬ z17 = 0 → SP 98 [(.ref 1), (.int 0), (.int 1440)] w14 (fun y20 w21 => am_fin w21 ∧ ∃ z24 : Int32, y20 = some (.int z24) ∧ ((z24 = (-1) → Q (some (.int 0)) w21) ∧ (¬ z24 = (-1) → SP 97 [(.ref 1), (.int 104)] w21 (fun y27 w28 => am_fin w28 ∧ ∃ z31 : Int32, y27 = some (.int z31) ∧ ((¬ z31 = 0 → SP 98 [(.ref 1), (.int (z24 + 1)), (.int 1440)] w28 (fun y34 w35 => am_fin w35 ∧ ∃ z38 : Int32, y34 = some (.int z38) ∧ ((z38 = (-1) → Q (some (.int 0)) w35) ∧ (¬ z38 = (-1) → SP 97 [(.ref 1), (.int 59)] w35 (fun y41 w42 => am_fin w42 ∧ ∃ z45 : Int32, y41 = some (.int z45) ∧ ((¬ z45 = 0 → (vp_in (am_gi w42 6 8) 8 ∧ ∀ w48 : am_W, w48 = am_si w42 10 (Int32.toNatClampNeg (am_gi w42 6 8)) z10 → (vp_in (am_gi w48 6 8) 8 ∧ ∀ w49 : am_W, w49 = am_si w48 11 (Int32.toNatClampNeg (am_gi w48 6 8)) z24 → (vp_in (am_gi w49 6 8) 8 ∧ ∀ w50 : am_W, w50 = am_si w49 12 (Int32.toNatClampNeg (am_gi w49 6 8)) z38 → (∀ w51 : am_W, w51 = am_si w50 6 9 ((am_gi w50 6 9) ||| (1 <<< (z10 &&& 31))) → (∀ w52 : am_W, w52 = am_si w51 6 8 ((am_gi w51 6 8) + 1) → Q (some (.int 1)) w52)))))) ∧ (z45 = 0 → Q (some (.int 0)) w42))))))) ∧ (z31 = 0 → Q (some (.int 0)) w28))))))) ∧ (z17 = 0 → Q (some (.int 0)) w14)))))))) ∧ (¬ (am_gi w 6 8) < 8 → SP 96 [(.ref 1), (.int 2)] w (fun y53 w54 => am_fin w54 ∧ ∃ z57 : Int32, y53 = some (.int z57) ∧ ((z57 = 0 ∨ z57 = 1) ∧ Q (some (.int z57)) w54))))) :
    am_T m_X9_readCamera SP 168 Q 0 [some (.ref 6), some (.ref 1), none, none, none] [] w :=
  am_T.wp hs (K := am_T m_X9_readCamera SP 168 Q) (cuts := []) (fun _ _ _ _ h => h) 79
    (⟨am_a hf rfl, ⟨fun c1 => ⟨Nat.le_of_ble_eq_true rfl, am_a hf rfl, hs _ _ _ _ _ (fun y2 w3 q4 e5 => ⟨(q4).2.1, ⟨am_a (q4).1 rfl, ⟨Nat.le_of_ble_eq_true rfl, am_a (q4).1 rfl, hs _ _ _ _ _ (fun y6 w7 q8 e9 => am_ci (q8).2 fun z10 h11 => ⟨fun c12 => ⟨((q8).1).1, Or.inl rfl, ((h11).1 c12)⟩, fun c12 => ⟨Nat.le_of_ble_eq_true rfl, am_a (q8).1 rfl, hs _ _ _ _ _ (fun y13 w14 q15 e16 => am_ci (q15).2 fun z17 h18 => ⟨fun c19 => ⟨Nat.le_of_ble_eq_true rfl, am_a (q15).1 rfl, hs _ _ _ _ _ (fun y20 w21 q22 e23 => am_ci (q22).2 fun z24 h25 => ⟨fun c26 => ⟨((q22).1).1, Or.inl rfl, ((h25).1 c26)⟩, fun c26 => ⟨Nat.le_of_ble_eq_true rfl, am_a (q22).1 rfl, hs _ _ _ _ _ (fun y27 w28 q29 e30 => am_ci (q29).2 fun z31 h32 => ⟨fun c33 => ⟨Nat.le_of_ble_eq_true rfl, am_a (q29).1 rfl, hs _ _ _ _ _ (fun y34 w35 q36 e37 => am_ci (q36).2 fun z38 h39 => ⟨fun c40 => ⟨((q36).1).1, Or.inl rfl, ((h39).1 c40)⟩, fun c40 => ⟨Nat.le_of_ble_eq_true rfl, am_a (q36).1 rfl, hs _ _ _ _ _ (fun y41 w42 q43 e44 => am_ci (q43).2 fun z45 h46 => ⟨fun c47 => ⟨am_a (q43).1 rfl, Or.inl ⟨10, ((q43).1).2 6 5 10 rfl, ⟨am_a (q43).1 rfl, ⟨8, am_a (q43).1 rfl, (((h46).1 c47)).1, ⟨am_a (q43).1 rfl, Or.inl ⟨11, ((q43).1).2 6 6 11 rfl, ⟨am_a (q43).1 rfl, ⟨8, am_a (q43).1 rfl, (((((h46).1 c47)).2 _ rfl)).1, ⟨am_a (q43).1 rfl, Or.inl ⟨12, ((q43).1).2 6 7 12 rfl, ⟨am_a (q43).1 rfl, ⟨8, am_a (q43).1 rfl, (((((((h46).1 c47)).2 _ rfl)).2 _ rfl)).1, ⟨am_a (q43).1 rfl, ⟨am_a (q43).1 rfl, ⟨am_a (q43).1 rfl, ⟨am_a (q43).1 rfl, ⟨((q43).1).1, Or.inr rfl, ((((((((((h46).1 c47)).2 _ rfl)).2 _ rfl)).2 _ rfl) _ rfl) _ rfl)⟩⟩⟩⟩⟩⟩⟩⟩⟩⟩⟩⟩⟩⟩⟩⟩⟩, fun c47 => ⟨((q43).1).1, Or.inl rfl, ((h46).2 c47)⟩⟩) (((h39).2 c40))⟩⟩) (((h32).1 c33))⟩, fun c33 => ⟨((q29).1).1, Or.inl rfl, ((h32).2 c33)⟩⟩) (((h25).2 c26))⟩⟩) (((h18).1 c19))⟩, fun c19 => ⟨((q15).1).1, Or.inl rfl, ((h18).2 c19)⟩⟩) (((h11).2 c12))⟩⟩) ((q4).2.2)⟩⟩⟩) (((h).1 c1))⟩, fun c1 => ⟨Nat.le_of_ble_eq_true rfl, am_a hf rfl, hs _ _ _ _ _ (fun y53 w54 q55 e56 => am_ci (q55).2 fun z57 h58 => ⟨((q55).1).1, (h58).1, (h58).2⟩) (((h).2 c1))⟩⟩⟩)

set_option maxRecDepth 100000 in
theorem v_X9_readCamera_18_e {SP : am_S} (hs : am_Smono SP) {Q : Option Value → am_W → Prop} {w : am_W} (hf : am_fin w) 
    (h : (((am_gi w 18 8) < 8 → SP 95 [(.ref 1)] w (fun y2 w3 => am_fin w3 ∧ y2 = none ∧ SP 99 [(.ref 1), (.int (am_gi w3 18 9))] w3 (fun y6 w7 => am_fin w7 ∧ ∃ z10 : Int32, y6 = some (.int z10) ∧ ((z10 = (-1) → Q (some (.int 0)) w7) ∧ (¬ z10 = (-1) → SP 97 [(.ref 1), (.int 103)] w7 (fun y13 w14 => am_fin w14 ∧ ∃ z17 : Int32, y13 = some (.int z17) ∧ ((¬ z17 = 0 → SP 98 [(.ref 1), (.int 0), (.int 1440)] w14 (fun y20 w21 => am_fin w21 ∧ ∃ z24 : Int32, y20 = some (.int z24) ∧ ((z24 = (-1) → Q (some (.int 0)) w21) ∧ (¬ z24 = (-1) → SP 97 [(.ref 1), (.int 104)] w21 (fun y27 w28 => am_fin w28 ∧ ∃ z31 : Int32, y27 = some (.int z31) ∧ ((¬ z31 = 0 → SP 98 [(.ref 1), (.int (z24 + 1)), (.int 1440)] w28 (fun y34 w35 => am_fin w35 ∧ ∃ z38 : Int32, y34 = some (.int z38) ∧ ((z38 = (-1) → Q (some (.int 0)) w35) ∧ (¬ z38 = (-1) → SP 97 [(.ref 1), (.int 59)] w35 (fun y41 w42 => am_fin w42 ∧ ∃ z45 : Int32, y41 = some (.int z45) ∧ ((¬ z45 = 0 → (vp_in (am_gi w42 18 8) 8 ∧ ∀ w48 : am_W, w48 = am_si w42 22 (Int32.toNatClampNeg (am_gi w42 18 8)) z10 → (vp_in (am_gi w48 18 8) 8 ∧ ∀ w49 : am_W, w49 = am_si w48 23 (Int32.toNatClampNeg (am_gi w48 18 8)) z24 → (vp_in (am_gi w49 18 8) 8 ∧ ∀ w50 : am_W, w50 = am_si w49 24 (Int32.toNatClampNeg (am_gi w49 18 8)) z38 → (∀ w51 : am_W, w51 = am_si w50 18 9 ((am_gi w50 18 9) ||| (1 <<< (z10 &&& 31))) → (∀ w52 : am_W, w52 = am_si w51 18 8 ((am_gi w51 18 8) + 1) → Q (some (.int 1)) w52)))))) ∧ (z45 = 0 → Q (some (.int 0)) w42))))))) ∧ (z31 = 0 → Q (some (.int 0)) w28))))))) ∧ (z17 = 0 → Q (some (.int 0)) w14)))))))) ∧ (¬ (am_gi w 18 8) < 8 → SP 96 [(.ref 1), (.int 2)] w (fun y53 w54 => am_fin w54 ∧ ∃ z57 : Int32, y53 = some (.int z57) ∧ ((z57 = 0 ∨ z57 = 1) ∧ Q (some (.int z57)) w54))))) :
    am_T m_X9_readCamera SP 168 Q 0 [some (.ref 18), some (.ref 1), none, none, none] [] w :=
  am_T.wp hs (K := am_T m_X9_readCamera SP 168 Q) (cuts := []) (fun _ _ _ _ h => h) 79
    (⟨am_a hf rfl, ⟨fun c1 => ⟨Nat.le_of_ble_eq_true rfl, am_a hf rfl, hs _ _ _ _ _ (fun y2 w3 q4 e5 => ⟨(q4).2.1, ⟨am_a (q4).1 rfl, ⟨Nat.le_of_ble_eq_true rfl, am_a (q4).1 rfl, hs _ _ _ _ _ (fun y6 w7 q8 e9 => am_ci (q8).2 fun z10 h11 => ⟨fun c12 => ⟨((q8).1).1, Or.inl rfl, ((h11).1 c12)⟩, fun c12 => ⟨Nat.le_of_ble_eq_true rfl, am_a (q8).1 rfl, hs _ _ _ _ _ (fun y13 w14 q15 e16 => am_ci (q15).2 fun z17 h18 => ⟨fun c19 => ⟨Nat.le_of_ble_eq_true rfl, am_a (q15).1 rfl, hs _ _ _ _ _ (fun y20 w21 q22 e23 => am_ci (q22).2 fun z24 h25 => ⟨fun c26 => ⟨((q22).1).1, Or.inl rfl, ((h25).1 c26)⟩, fun c26 => ⟨Nat.le_of_ble_eq_true rfl, am_a (q22).1 rfl, hs _ _ _ _ _ (fun y27 w28 q29 e30 => am_ci (q29).2 fun z31 h32 => ⟨fun c33 => ⟨Nat.le_of_ble_eq_true rfl, am_a (q29).1 rfl, hs _ _ _ _ _ (fun y34 w35 q36 e37 => am_ci (q36).2 fun z38 h39 => ⟨fun c40 => ⟨((q36).1).1, Or.inl rfl, ((h39).1 c40)⟩, fun c40 => ⟨Nat.le_of_ble_eq_true rfl, am_a (q36).1 rfl, hs _ _ _ _ _ (fun y41 w42 q43 e44 => am_ci (q43).2 fun z45 h46 => ⟨fun c47 => ⟨am_a (q43).1 rfl, Or.inl ⟨22, ((q43).1).2 18 5 22 rfl, ⟨am_a (q43).1 rfl, ⟨8, am_a (q43).1 rfl, (((h46).1 c47)).1, ⟨am_a (q43).1 rfl, Or.inl ⟨23, ((q43).1).2 18 6 23 rfl, ⟨am_a (q43).1 rfl, ⟨8, am_a (q43).1 rfl, (((((h46).1 c47)).2 _ rfl)).1, ⟨am_a (q43).1 rfl, Or.inl ⟨24, ((q43).1).2 18 7 24 rfl, ⟨am_a (q43).1 rfl, ⟨8, am_a (q43).1 rfl, (((((((h46).1 c47)).2 _ rfl)).2 _ rfl)).1, ⟨am_a (q43).1 rfl, ⟨am_a (q43).1 rfl, ⟨am_a (q43).1 rfl, ⟨am_a (q43).1 rfl, ⟨((q43).1).1, Or.inr rfl, ((((((((((h46).1 c47)).2 _ rfl)).2 _ rfl)).2 _ rfl) _ rfl) _ rfl)⟩⟩⟩⟩⟩⟩⟩⟩⟩⟩⟩⟩⟩⟩⟩⟩⟩, fun c47 => ⟨((q43).1).1, Or.inl rfl, ((h46).2 c47)⟩⟩) (((h39).2 c40))⟩⟩) (((h32).1 c33))⟩, fun c33 => ⟨((q29).1).1, Or.inl rfl, ((h32).2 c33)⟩⟩) (((h25).2 c26))⟩⟩) (((h18).1 c19))⟩, fun c19 => ⟨((q15).1).1, Or.inl rfl, ((h18).2 c19)⟩⟩) (((h11).2 c12))⟩⟩) ((q4).2.2)⟩⟩⟩) (((h).1 c1))⟩, fun c1 => ⟨Nat.le_of_ble_eq_true rfl, am_a hf rfl, hs _ _ _ _ _ (fun y53 w54 q55 e56 => am_ci (q55).2 fun z57 h58 => ⟨((q55).1).1, (h58).1, (h58).2⟩) (((h).2 c1))⟩⟩⟩)

set_option maxRecDepth 100000 in
theorem v_X9_offerHop_6_e {SP : am_S} (hs : am_Smono SP) {Q : Option Value → am_W → Prop} {w : am_W} (hf : am_fin w) (p1 : Int32) (p2 : Int32) (p3 : Int32)
    (h : (vp_in ((p1 * 12) + p2) 144 ∧ (((am_gi w 13 (Int32.toNatClampNeg ((p1 * 12) + p2))) = (-1) → (vp_in ((p1 * 12) + p2) 144 ∧ ∀ w2 : am_W, w2 = am_si w 13 (Int32.toNatClampNeg ((p1 * 12) + p2)) p3 → Q none w2)) ∧ (¬ (am_gi w 13 (Int32.toNatClampNeg ((p1 * 12) + p2))) = (-1) → (vp_in p3 24 ∧ (vp_in (am_gi w 13 (Int32.toNatClampNeg ((p1 * 12) + p2))) 24 ∧ (((am_gi w 9 (Int32.toNatClampNeg (am_gi w 13 (Int32.toNatClampNeg ((p1 * 12) + p2))))) ≤ (am_gi w 9 (Int32.toNatClampNeg p3)) → Q none w) ∧ (¬ (am_gi w 9 (Int32.toNatClampNeg (am_gi w 13 (Int32.toNatClampNeg ((p1 * 12) + p2))))) ≤ (am_gi w 9 (Int32.toNatClampNeg p3)) → (vp_in ((p1 * 12) + p2) 144 ∧ ∀ w4 : am_W, w4 = am_si w 13 (Int32.toNatClampNeg ((p1 * 12) + p2)) p3 → Q none w4))))))))) :
    am_T m_X9_offerHop SP 168 Q 0 [some (.ref 6), some (.int p1), some (.int p2), some (.int p3), none, none] [] w :=
  am_T.wp hs (K := am_T m_X9_offerHop SP 168 Q) (cuts := []) (fun _ _ _ _ h => h) 30
    (⟨am_a hf rfl, Or.inl ⟨13, (hf).2 6 10 13 rfl, ⟨144, am_a hf rfl, (h).1, ⟨fun c1 => ⟨am_a hf rfl, Or.inl ⟨13, (hf).2 6 10 13 rfl, ⟨144, am_a hf rfl, ((((h).2).1 c1)).1, ⟨(hf).1, (((((h).2).1 c1)).2 _ rfl)⟩⟩⟩⟩, fun c1 => ⟨am_a hf rfl, Or.inl ⟨9, (hf).2 6 2 9 rfl, ⟨24, am_a hf rfl, ((((h).2).2 c1)).1, ⟨am_a hf rfl, Or.inl ⟨9, (hf).2 6 2 9 rfl, ⟨24, am_a hf rfl, (((((h).2).2 c1)).2).1, ⟨fun c3 => ⟨(hf).1, (((((((h).2).2 c1)).2).2).1 c3)⟩, fun c3 => ⟨am_a hf rfl, Or.inl ⟨13, (hf).2 6 10 13 rfl, ⟨144, am_a hf rfl, ((((((((h).2).2 c1)).2).2).2 c3)).1, ⟨(hf).1, (((((((((h).2).2 c1)).2).2).2 c3)).2 _ rfl)⟩⟩⟩⟩⟩⟩⟩⟩⟩⟩⟩⟩⟩⟩⟩)

set_option maxRecDepth 100000 in
theorem v_X9_spread_6_14_e {SP : am_S} (hs : am_Smono SP) {Q : Option Value → am_W → Prop} {w : am_W} (hf : am_fin w) (p2 : Int32)
    (h : am_T m_X9_spread SP 168 Q 2 [some (.ref 6), some (.ref 14), some (.int p2), some (.int 0), none, none, none, none] [] w) :
    am_T m_X9_spread SP 168 Q 0 [some (.ref 6), some (.ref 14), some (.int p2), none, none, none, none, none] [] w :=
  am_T.wp hs (K := am_T m_X9_spread SP 168 Q) (cuts := [2, 11, 93, 102, 123]) (fun _ _ _ _ h => h) 4
    (h)

set_option maxRecDepth 100000 in
theorem v_X9_spread_6_14_2 {SP : am_S} (hs : am_Smono SP) {Q : Option Value → am_W → Prop} {w : am_W} (hf : am_fin w) (x2 : Int32) (x3 : Int32) (o4 : Option Value) (o5 : Option Value) (o6 : Option Value)
    (h : ((12 ≤ x3 → am_T m_X9_spread SP 168 Q 93 [some (.ref 6), some (.ref 14), some (.int x2), some (.int 0), o4, o5, o6, none] [] w) ∧ (¬ 12 ≤ x3 → am_T m_X9_spread SP 168 Q 11 [some (.ref 6), some (.ref 14), some (.int x2), some (.int x3), some (.int 0), o5, o6, none] [] w))) :
    am_T m_X9_spread SP 168 Q 2 [some (.ref 6), some (.ref 14), some (.int x2), some (.int x3), o4, o5, o6, none] [] w :=
  am_T.wp hs (K := am_T m_X9_spread SP 168 Q) (cuts := [2, 11, 93, 102, 123]) (fun _ _ _ _ h => h) 7
    (⟨fun c1 => ((h).1 c1), fun c1 => ((h).2 c1)⟩)

set_option maxRecDepth 100000 in
theorem v_X9_spread_6_14_11 {SP : am_S} (hs : am_Smono SP) {Q : Option Value → am_W → Prop} {w : am_W} (hf : am_fin w) (x2 : Int32) (x3 : Int32) (x4 : Int32) (o5 : Option Value) (o6 : Option Value)
    (h : ((12 ≤ x4 → am_T m_X9_spread SP 168 Q 2 [some (.ref 6), some (.ref 14), some (.int x2), some (.int (x3 + 1)), some (.int x4), o5, o6, none] [] w) ∧ (¬ 12 ≤ x4 → ((¬ (((x2 >>> (x3 &&& 31)) &&& (x2 >>> (x4 &&& 31))) &&& 1) = 1 → ((¬ x3 = x4 → SP 123 [(.ref 6), (.int x3), (.int x4)] w (fun y4 w5 => am_fin w5 ∧ ∃ z8 : Int32, y4 = some (.int z8) ∧ (vp_in ((x3 * 12) + x4) 144 ∧ ∀ w11 : am_W, w11 = am_si w5 14 (Int32.toNatClampNeg ((x3 * 12) + x4)) 1000000 → am_T m_X9_spread SP 168 Q 11 [some (.ref 6), some (.ref 14), some (.int x2), some (.int x3), some (.int (x4 + 1)), some (.int 0), some (.int z8), none] [] w11))) ∧ (x3 = x4 → (vp_in ((x3 * 12) + x4) 144 ∧ ∀ w13 : am_W, w13 = am_si w 14 (Int32.toNatClampNeg ((x3 * 12) + x4)) 1000000 → am_T m_X9_spread SP 168 Q 11 [some (.ref 6), some (.ref 14), some (.int x2), some (.int x3), some (.int (x4 + 1)), some (.int 0), some (.int 0), none] [] w13)))) ∧ ((((x2 >>> (x3 &&& 31)) &&& (x2 >>> (x4 &&& 31))) &&& 1) = 1 → ((¬ x3 = x4 → SP 123 [(.ref 6), (.int x3), (.int x4)] w (fun y15 w16 => am_fin w16 ∧ ∃ z19 : Int32, y15 = some (.int z19) ∧ (vp_in ((x3 * 12) + x4) 144 ∧ ∀ w22 : am_W, w22 = am_si w16 14 (Int32.toNatClampNeg ((x3 * 12) + x4)) z19 → am_T m_X9_spread SP 168 Q 11 [some (.ref 6), some (.ref 14), some (.int x2), some (.int x3), some (.int (x4 + 1)), some (.int 1), some (.int z19), none] [] w22))) ∧ (x3 = x4 → (vp_in ((x3 * 12) + x4) 144 ∧ ∀ w24 : am_W, w24 = am_si w 14 (Int32.toNatClampNeg ((x3 * 12) + x4)) 0 → am_T m_X9_spread SP 168 Q 11 [some (.ref 6), some (.ref 14), some (.int x2), some (.int x3), some (.int (x4 + 1)), some (.int 1), some (.int 0), none] [] w24)))))))) :
    am_T m_X9_spread SP 168 Q 11 [some (.ref 6), some (.ref 14), some (.int x2), some (.int x3), some (.int x4), o5, o6, none] [] w :=
  am_T.wp hs (K := am_T m_X9_spread SP 168 Q) (cuts := [2, 11, 93, 102, 123]) (fun _ _ _ _ h => h) 40
    (⟨fun c1 => ((h).1 c1), fun c1 => ⟨fun c2 => ⟨fun c3 => ⟨Nat.le_of_ble_eq_true rfl, am_a hf rfl, hs _ _ _ _ _ (fun y4 w5 q6 e7 => am_ci (q6).2 fun z8 h9 => ⟨fun c10 => ⟨144, am_a (q6).1 rfl, (h9).1, ((h9).2 _ rfl)⟩, fun c10 => absurd c10 (by decide)⟩) (((((((h).2 c1)).1 c2)).1 c3))⟩, fun c3 => ⟨fun c12 => ⟨144, am_a hf rfl, (((((((h).2 c1)).1 c2)).2 c3)).1, ((((((((h).2 c1)).1 c2)).2 c3)).2 _ rfl)⟩, fun c12 => absurd c12 (by decide)⟩⟩, fun c2 => ⟨fun c14 => ⟨Nat.le_of_ble_eq_true rfl, am_a hf rfl, hs _ _ _ _ _ (fun y15 w16 q17 e18 => am_ci (q17).2 fun z19 h20 => ⟨fun c21 => absurd c21 (by decide), fun c21 => ⟨144, am_a (q17).1 rfl, (h20).1, ((h20).2 _ rfl)⟩⟩) (((((((h).2 c1)).2 c2)).1 c14))⟩, fun c14 => ⟨fun c23 => absurd c23 (by decide), fun c23 => ⟨144, am_a hf rfl, (((((((h).2 c1)).2 c2)).2 c14)).1, ((((((((h).2 c1)).2 c2)).2 c14)).2 _ rfl)⟩⟩⟩⟩⟩)

set_option maxRecDepth 100000 in
theorem v_X9_spread_6_14_93 {SP : am_S} (hs : am_Smono SP) {Q : Option Value → am_W → Prop} {w : am_W} (hf : am_fin w) (x2 : Int32) (x3 : Int32) (o4 : Option Value) (o5 : Option Value) (o6 : Option Value) (o7 : Option Value)
    (h : ((12 ≤ x3 → Q none w) ∧ (¬ 12 ≤ x3 → am_T m_X9_spread SP 168 Q 102 [some (.ref 6), some (.ref 14), some (.int x2), some (.int x3), some (.int 0), o5, o6, o7] [] w))) :
    am_T m_X9_spread SP 168 Q 93 [some (.ref 6), some (.ref 14), some (.int x2), some (.int x3), o4, o5, o6, o7] [] w :=
  am_T.wp hs (K := am_T m_X9_spread SP 168 Q) (cuts := [2, 11, 93, 102, 123]) (fun _ _ _ _ h => h) 7
    (⟨fun c1 => ⟨(hf).1, ((h).1 c1)⟩, fun c1 => ((h).2 c1)⟩)

set_option maxRecDepth 100000 in
theorem v_X9_spread_6_14_102 {SP : am_S} (hs : am_Smono SP) {Q : Option Value → am_W → Prop} {w : am_W} (hf : am_fin w) (x2 : Int32) (x3 : Int32) (x4 : Int32) (o5 : Option Value) (o6 : Option Value) (o7 : Option Value)
    (h : ((12 ≤ x4 → am_T m_X9_spread SP 168 Q 93 [some (.ref 6), some (.ref 14), some (.int x2), some (.int (x3 + 1)), some (.int x4), o5, o6, o7] [] w) ∧ (¬ 12 ≤ x4 → (vp_in ((x4 * 12) + x3) 144 ∧ am_T m_X9_spread SP 168 Q 123 [some (.ref 6), some (.ref 14), some (.int x2), some (.int x3), some (.int x4), some (.int (am_gi w 14 (Int32.toNatClampNeg ((x4 * 12) + x3)))), some (.int 0), o7] [] w)))) :
    am_T m_X9_spread SP 168 Q 102 [some (.ref 6), some (.ref 14), some (.int x2), some (.int x3), some (.int x4), o5, o6, o7] [] w :=
  am_T.wp hs (K := am_T m_X9_spread SP 168 Q) (cuts := [2, 11, 93, 102, 123]) (fun _ _ _ _ h => h) 15
    (⟨fun c1 => ((h).1 c1), fun c1 => ⟨144, am_a hf rfl, (((h).2 c1)).1, (((h).2 c1)).2⟩⟩)

set_option maxRecDepth 100000 in
theorem v_X9_spread_6_14_123 {SP : am_S} (hs : am_Smono SP) {Q : Option Value → am_W → Prop} {w : am_W} (hf : am_fin w) (x2 : Int32) (x3 : Int32) (x4 : Int32) (x5 : Int32) (x6 : Int32) (o7 : Option Value)
    (h : ((1000000 ≤ x5 → am_T m_X9_spread SP 168 Q 102 [some (.ref 6), some (.ref 14), some (.int x2), some (.int x3), some (.int (x4 + 1)), some (.int x5), some (.int x6), o7] [] w) ∧ (¬ 1000000 ≤ x5 → ((12 ≤ x6 → am_T m_X9_spread SP 168 Q 102 [some (.ref 6), some (.ref 14), some (.int x2), some (.int x3), some (.int (x4 + 1)), some (.int x5), some (.int x6), o7] [] w) ∧ (¬ 12 ≤ x6 → (vp_in ((x3 * 12) + x6) 144 ∧ (vp_in ((x4 * 12) + x6) 144 ∧ (vp_in ((x4 * 12) + x6) 144 ∧ ∀ w3 : am_W, w3 = am_si w 14 (Int32.toNatClampNeg ((x4 * 12) + x6)) (if (x5 + (am_gi w 14 (Int32.toNatClampNeg ((x3 * 12) + x6)))) < (am_gi w 14 (Int32.toNatClampNeg ((x4 * 12) + x6))) then (x5 + (am_gi w 14 (Int32.toNatClampNeg ((x3 * 12) + x6)))) else (am_gi w 14 (Int32.toNatClampNeg ((x4 * 12) + x6)))) → am_T m_X9_spread SP 168 Q 123 [some (.ref 6), some (.ref 14), some (.int x2), some (.int x3), some (.int x4), some (.int x5), some (.int (x6 + 1)), some (.int (x5 + (am_gi w 14 (Int32.toNatClampNeg ((x3 * 12) + x6)))))] [] w3)))))))) :
    am_T m_X9_spread SP 168 Q 123 [some (.ref 6), some (.ref 14), some (.int x2), some (.int x3), some (.int x4), some (.int x5), some (.int x6), o7] [] w :=
  am_T.wp hs (K := am_T m_X9_spread SP 168 Q) (cuts := [2, 11, 93, 102, 123]) (fun _ _ _ _ h => h) 36
    (⟨fun c1 => ((h).1 c1), fun c1 => ⟨fun c2 => ((((h).2 c1)).1 c2), fun c2 => ⟨144, am_a hf rfl, (((((h).2 c1)).2 c2)).1, ⟨144, am_a hf rfl, ((((((h).2 c1)).2 c2)).2).1, ⟨Nat.le_of_ble_eq_true rfl, ⟨144, am_a hf rfl, (((((((h).2 c1)).2 c2)).2).2).1, ((((((((h).2 c1)).2 c2)).2).2).2 _ rfl)⟩⟩⟩⟩⟩⟩)

set_option maxRecDepth 100000 in
theorem v_X9_spread_6_15_e {SP : am_S} (hs : am_Smono SP) {Q : Option Value → am_W → Prop} {w : am_W} (hf : am_fin w) (p2 : Int32)
    (h : am_T m_X9_spread SP 168 Q 2 [some (.ref 6), some (.ref 15), some (.int p2), some (.int 0), none, none, none, none] [] w) :
    am_T m_X9_spread SP 168 Q 0 [some (.ref 6), some (.ref 15), some (.int p2), none, none, none, none, none] [] w :=
  am_T.wp hs (K := am_T m_X9_spread SP 168 Q) (cuts := [2, 11, 93, 102, 123]) (fun _ _ _ _ h => h) 4
    (h)

set_option maxRecDepth 100000 in
theorem v_X9_spread_6_15_2 {SP : am_S} (hs : am_Smono SP) {Q : Option Value → am_W → Prop} {w : am_W} (hf : am_fin w) (x2 : Int32) (x3 : Int32) (o4 : Option Value) (o5 : Option Value) (o6 : Option Value)
    (h : ((12 ≤ x3 → am_T m_X9_spread SP 168 Q 93 [some (.ref 6), some (.ref 15), some (.int x2), some (.int 0), o4, o5, o6, none] [] w) ∧ (¬ 12 ≤ x3 → am_T m_X9_spread SP 168 Q 11 [some (.ref 6), some (.ref 15), some (.int x2), some (.int x3), some (.int 0), o5, o6, none] [] w))) :
    am_T m_X9_spread SP 168 Q 2 [some (.ref 6), some (.ref 15), some (.int x2), some (.int x3), o4, o5, o6, none] [] w :=
  am_T.wp hs (K := am_T m_X9_spread SP 168 Q) (cuts := [2, 11, 93, 102, 123]) (fun _ _ _ _ h => h) 7
    (⟨fun c1 => ((h).1 c1), fun c1 => ((h).2 c1)⟩)

set_option maxRecDepth 100000 in
theorem v_X9_spread_6_15_11 {SP : am_S} (hs : am_Smono SP) {Q : Option Value → am_W → Prop} {w : am_W} (hf : am_fin w) (x2 : Int32) (x3 : Int32) (x4 : Int32) (o5 : Option Value) (o6 : Option Value)
    (h : ((12 ≤ x4 → am_T m_X9_spread SP 168 Q 2 [some (.ref 6), some (.ref 15), some (.int x2), some (.int (x3 + 1)), some (.int x4), o5, o6, none] [] w) ∧ (¬ 12 ≤ x4 → ((¬ (((x2 >>> (x3 &&& 31)) &&& (x2 >>> (x4 &&& 31))) &&& 1) = 1 → ((¬ x3 = x4 → SP 123 [(.ref 6), (.int x3), (.int x4)] w (fun y4 w5 => am_fin w5 ∧ ∃ z8 : Int32, y4 = some (.int z8) ∧ (vp_in ((x3 * 12) + x4) 144 ∧ ∀ w11 : am_W, w11 = am_si w5 15 (Int32.toNatClampNeg ((x3 * 12) + x4)) 1000000 → am_T m_X9_spread SP 168 Q 11 [some (.ref 6), some (.ref 15), some (.int x2), some (.int x3), some (.int (x4 + 1)), some (.int 0), some (.int z8), none] [] w11))) ∧ (x3 = x4 → (vp_in ((x3 * 12) + x4) 144 ∧ ∀ w13 : am_W, w13 = am_si w 15 (Int32.toNatClampNeg ((x3 * 12) + x4)) 1000000 → am_T m_X9_spread SP 168 Q 11 [some (.ref 6), some (.ref 15), some (.int x2), some (.int x3), some (.int (x4 + 1)), some (.int 0), some (.int 0), none] [] w13)))) ∧ ((((x2 >>> (x3 &&& 31)) &&& (x2 >>> (x4 &&& 31))) &&& 1) = 1 → ((¬ x3 = x4 → SP 123 [(.ref 6), (.int x3), (.int x4)] w (fun y15 w16 => am_fin w16 ∧ ∃ z19 : Int32, y15 = some (.int z19) ∧ (vp_in ((x3 * 12) + x4) 144 ∧ ∀ w22 : am_W, w22 = am_si w16 15 (Int32.toNatClampNeg ((x3 * 12) + x4)) z19 → am_T m_X9_spread SP 168 Q 11 [some (.ref 6), some (.ref 15), some (.int x2), some (.int x3), some (.int (x4 + 1)), some (.int 1), some (.int z19), none] [] w22))) ∧ (x3 = x4 → (vp_in ((x3 * 12) + x4) 144 ∧ ∀ w24 : am_W, w24 = am_si w 15 (Int32.toNatClampNeg ((x3 * 12) + x4)) 0 → am_T m_X9_spread SP 168 Q 11 [some (.ref 6), some (.ref 15), some (.int x2), some (.int x3), some (.int (x4 + 1)), some (.int 1), some (.int 0), none] [] w24)))))))) :
    am_T m_X9_spread SP 168 Q 11 [some (.ref 6), some (.ref 15), some (.int x2), some (.int x3), some (.int x4), o5, o6, none] [] w :=
  am_T.wp hs (K := am_T m_X9_spread SP 168 Q) (cuts := [2, 11, 93, 102, 123]) (fun _ _ _ _ h => h) 40
    (⟨fun c1 => ((h).1 c1), fun c1 => ⟨fun c2 => ⟨fun c3 => ⟨Nat.le_of_ble_eq_true rfl, am_a hf rfl, hs _ _ _ _ _ (fun y4 w5 q6 e7 => am_ci (q6).2 fun z8 h9 => ⟨fun c10 => ⟨144, am_a (q6).1 rfl, (h9).1, ((h9).2 _ rfl)⟩, fun c10 => absurd c10 (by decide)⟩) (((((((h).2 c1)).1 c2)).1 c3))⟩, fun c3 => ⟨fun c12 => ⟨144, am_a hf rfl, (((((((h).2 c1)).1 c2)).2 c3)).1, ((((((((h).2 c1)).1 c2)).2 c3)).2 _ rfl)⟩, fun c12 => absurd c12 (by decide)⟩⟩, fun c2 => ⟨fun c14 => ⟨Nat.le_of_ble_eq_true rfl, am_a hf rfl, hs _ _ _ _ _ (fun y15 w16 q17 e18 => am_ci (q17).2 fun z19 h20 => ⟨fun c21 => absurd c21 (by decide), fun c21 => ⟨144, am_a (q17).1 rfl, (h20).1, ((h20).2 _ rfl)⟩⟩) (((((((h).2 c1)).2 c2)).1 c14))⟩, fun c14 => ⟨fun c23 => absurd c23 (by decide), fun c23 => ⟨144, am_a hf rfl, (((((((h).2 c1)).2 c2)).2 c14)).1, ((((((((h).2 c1)).2 c2)).2 c14)).2 _ rfl)⟩⟩⟩⟩⟩)

set_option maxRecDepth 100000 in
theorem v_X9_spread_6_15_93 {SP : am_S} (hs : am_Smono SP) {Q : Option Value → am_W → Prop} {w : am_W} (hf : am_fin w) (x2 : Int32) (x3 : Int32) (o4 : Option Value) (o5 : Option Value) (o6 : Option Value) (o7 : Option Value)
    (h : ((12 ≤ x3 → Q none w) ∧ (¬ 12 ≤ x3 → am_T m_X9_spread SP 168 Q 102 [some (.ref 6), some (.ref 15), some (.int x2), some (.int x3), some (.int 0), o5, o6, o7] [] w))) :
    am_T m_X9_spread SP 168 Q 93 [some (.ref 6), some (.ref 15), some (.int x2), some (.int x3), o4, o5, o6, o7] [] w :=
  am_T.wp hs (K := am_T m_X9_spread SP 168 Q) (cuts := [2, 11, 93, 102, 123]) (fun _ _ _ _ h => h) 7
    (⟨fun c1 => ⟨(hf).1, ((h).1 c1)⟩, fun c1 => ((h).2 c1)⟩)

set_option maxRecDepth 100000 in
theorem v_X9_spread_6_15_102 {SP : am_S} (hs : am_Smono SP) {Q : Option Value → am_W → Prop} {w : am_W} (hf : am_fin w) (x2 : Int32) (x3 : Int32) (x4 : Int32) (o5 : Option Value) (o6 : Option Value) (o7 : Option Value)
    (h : ((12 ≤ x4 → am_T m_X9_spread SP 168 Q 93 [some (.ref 6), some (.ref 15), some (.int x2), some (.int (x3 + 1)), some (.int x4), o5, o6, o7] [] w) ∧ (¬ 12 ≤ x4 → (vp_in ((x4 * 12) + x3) 144 ∧ am_T m_X9_spread SP 168 Q 123 [some (.ref 6), some (.ref 15), some (.int x2), some (.int x3), some (.int x4), some (.int (am_gi w 15 (Int32.toNatClampNeg ((x4 * 12) + x3)))), some (.int 0), o7] [] w)))) :
    am_T m_X9_spread SP 168 Q 102 [some (.ref 6), some (.ref 15), some (.int x2), some (.int x3), some (.int x4), o5, o6, o7] [] w :=
  am_T.wp hs (K := am_T m_X9_spread SP 168 Q) (cuts := [2, 11, 93, 102, 123]) (fun _ _ _ _ h => h) 15
    (⟨fun c1 => ((h).1 c1), fun c1 => ⟨144, am_a hf rfl, (((h).2 c1)).1, (((h).2 c1)).2⟩⟩)

set_option maxRecDepth 100000 in
theorem v_X9_spread_6_15_123 {SP : am_S} (hs : am_Smono SP) {Q : Option Value → am_W → Prop} {w : am_W} (hf : am_fin w) (x2 : Int32) (x3 : Int32) (x4 : Int32) (x5 : Int32) (x6 : Int32) (o7 : Option Value)
    (h : ((1000000 ≤ x5 → am_T m_X9_spread SP 168 Q 102 [some (.ref 6), some (.ref 15), some (.int x2), some (.int x3), some (.int (x4 + 1)), some (.int x5), some (.int x6), o7] [] w) ∧ (¬ 1000000 ≤ x5 → ((12 ≤ x6 → am_T m_X9_spread SP 168 Q 102 [some (.ref 6), some (.ref 15), some (.int x2), some (.int x3), some (.int (x4 + 1)), some (.int x5), some (.int x6), o7] [] w) ∧ (¬ 12 ≤ x6 → (vp_in ((x3 * 12) + x6) 144 ∧ (vp_in ((x4 * 12) + x6) 144 ∧ (vp_in ((x4 * 12) + x6) 144 ∧ ∀ w3 : am_W, w3 = am_si w 15 (Int32.toNatClampNeg ((x4 * 12) + x6)) (if (x5 + (am_gi w 15 (Int32.toNatClampNeg ((x3 * 12) + x6)))) < (am_gi w 15 (Int32.toNatClampNeg ((x4 * 12) + x6))) then (x5 + (am_gi w 15 (Int32.toNatClampNeg ((x3 * 12) + x6)))) else (am_gi w 15 (Int32.toNatClampNeg ((x4 * 12) + x6)))) → am_T m_X9_spread SP 168 Q 123 [some (.ref 6), some (.ref 15), some (.int x2), some (.int x3), some (.int x4), some (.int x5), some (.int (x6 + 1)), some (.int (x5 + (am_gi w 15 (Int32.toNatClampNeg ((x3 * 12) + x6)))))] [] w3)))))))) :
    am_T m_X9_spread SP 168 Q 123 [some (.ref 6), some (.ref 15), some (.int x2), some (.int x3), some (.int x4), some (.int x5), some (.int x6), o7] [] w :=
  am_T.wp hs (K := am_T m_X9_spread SP 168 Q) (cuts := [2, 11, 93, 102, 123]) (fun _ _ _ _ h => h) 36
    (⟨fun c1 => ((h).1 c1), fun c1 => ⟨fun c2 => ((((h).2 c1)).1 c2), fun c2 => ⟨144, am_a hf rfl, (((((h).2 c1)).2 c2)).1, ⟨144, am_a hf rfl, ((((((h).2 c1)).2 c2)).2).1, ⟨Nat.le_of_ble_eq_true rfl, ⟨144, am_a hf rfl, (((((((h).2 c1)).2 c2)).2).2).1, ((((((((h).2 c1)).2 c2)).2).2).2 _ rfl)⟩⟩⟩⟩⟩⟩)

set_option maxRecDepth 100000 in
theorem v_X9_joinBy_6_16_e {SP : am_S} (hs : am_Smono SP) {Q : Option Value → am_W → Prop} {w : am_W} (hf : am_fin w) (p2 : Int32)
    (h : am_T m_X9_joinBy SP 168 Q 2 [some (.ref 6), some (.ref 16), some (.int p2), some (.int 0), none, none, none] [] w) :
    am_T m_X9_joinBy SP 168 Q 0 [some (.ref 6), some (.ref 16), some (.int p2), none, none, none, none] [] w :=
  am_T.wp hs (K := am_T m_X9_joinBy SP 168 Q) (cuts := [2, 11, 25]) (fun _ _ _ _ h => h) 4
    (h)

set_option maxRecDepth 100000 in
theorem v_X9_joinBy_6_16_2 {SP : am_S} (hs : am_Smono SP) {Q : Option Value → am_W → Prop} {w : am_W} (hf : am_fin w) (x2 : Int32) (x3 : Int32) (o4 : Option Value) (o5 : Option Value) (o6 : Option Value)
    (h : ((12 ≤ x3 → Q none w) ∧ (¬ 12 ≤ x3 → am_T m_X9_joinBy SP 168 Q 11 [some (.ref 6), some (.ref 16), some (.int x2), some (.int x3), some (.int 0), o5, o6] [] w))) :
    am_T m_X9_joinBy SP 168 Q 2 [some (.ref 6), some (.ref 16), some (.int x2), some (.int x3), o4, o5, o6] [] w :=
  am_T.wp hs (K := am_T m_X9_joinBy SP 168 Q) (cuts := [2, 11, 25]) (fun _ _ _ _ h => h) 7
    (⟨fun c1 => ⟨(hf).1, ((h).1 c1)⟩, fun c1 => ((h).2 c1)⟩)

set_option maxRecDepth 100000 in
theorem v_X9_joinBy_6_16_11 {SP : am_S} (hs : am_Smono SP) {Q : Option Value → am_W → Prop} {w : am_W} (hf : am_fin w) (x2 : Int32) (x3 : Int32) (x4 : Int32) (o5 : Option Value) (o6 : Option Value)
    (h : ((12 ≤ x4 → am_T m_X9_joinBy SP 168 Q 2 [some (.ref 6), some (.ref 16), some (.int x2), some (.int (x3 + 1)), some (.int x4), o5, o6] [] w) ∧ (¬ 12 ≤ x4 → am_T m_X9_joinBy SP 168 Q 25 [some (.ref 6), some (.ref 16), some (.int x2), some (.int x3), some (.int x4), some (.int 1000000), some (.int 0)] [] w))) :
    am_T m_X9_joinBy SP 168 Q 11 [some (.ref 6), some (.ref 16), some (.int x2), some (.int x3), some (.int x4), o5, o6] [] w :=
  am_T.wp hs (K := am_T m_X9_joinBy SP 168 Q) (cuts := [2, 11, 25]) (fun _ _ _ _ h => h) 9
    (⟨fun c1 => ((h).1 c1), fun c1 => ((h).2 c1)⟩)

set_option maxRecDepth 100000 in
theorem v_X9_joinBy_6_16_25 {SP : am_S} (hs : am_Smono SP) {Q : Option Value → am_W → Prop} {w : am_W} (hf : am_fin w) (x2 : Int32) (x3 : Int32) (x4 : Int32) (x5 : Int32) (x6 : Int32)
    (h : ((12 ≤ x6 → (vp_in ((x3 * 12) + x4) 144 ∧ ∀ w2 : am_W, w2 = am_si w 16 (Int32.toNatClampNeg ((x3 * 12) + x4)) x5 → am_T m_X9_joinBy SP 168 Q 11 [some (.ref 6), some (.ref 16), some (.int x2), some (.int x3), some (.int (x4 + 1)), some (.int x5), some (.int x6)] [] w2)) ∧ (¬ 12 ≤ x6 → ((¬ ((x2 >>> (x6 &&& 31)) &&& 1) = 1 → am_T m_X9_joinBy SP 168 Q 25 [some (.ref 6), some (.ref 16), some (.int x2), some (.int x3), some (.int x4), some (.int x5), some (.int (x6 + 1))] [] w) ∧ (((x2 >>> (x6 &&& 31)) &&& 1) = 1 → SP 118 [(.ref 6), (.int x3), (.int x6)] w (fun y4 w5 => am_fin w5 ∧ ∃ z8 : Int32, y4 = some (.int z8) ∧ SP 118 [(.ref 6), (.int x6), (.int x4)] w5 (fun y10 w11 => am_fin w11 ∧ ∃ z14 : Int32, y10 = some (.int z14) ∧ am_T m_X9_joinBy SP 168 Q 25 [some (.ref 6), some (.ref 16), some (.int x2), some (.int x3), some (.int x4), some (.int (if (z8 + z14) < x5 then (z8 + z14) else x5)), some (.int (x6 + 1))] [] w11))))))) :
    am_T m_X9_joinBy SP 168 Q 25 [some (.ref 6), some (.ref 16), some (.int x2), some (.int x3), some (.int x4), some (.int x5), some (.int x6)] [] w :=
  am_T.wp hs (K := am_T m_X9_joinBy SP 168 Q) (cuts := [2, 11, 25]) (fun _ _ _ _ h => h) 26
    (⟨fun c1 => ⟨144, am_a hf rfl, (((h).1 c1)).1, ((((h).1 c1)).2 _ rfl)⟩, fun c1 => ⟨fun c3 => ((((h).2 c1)).1 c3), fun c3 => ⟨Nat.le_of_ble_eq_true rfl, am_a hf rfl, hs _ _ _ _ _ (fun y4 w5 q6 e7 => am_ci (q6).2 fun z8 h9 => ⟨Nat.le_of_ble_eq_true rfl, am_a (q6).1 rfl, hs _ _ _ _ _ (fun y10 w11 q12 e13 => am_ci (q12).2 fun z14 h15 => ⟨Nat.le_of_ble_eq_true rfl, h15⟩) (h9)⟩) (((((h).2 c1)).2 c3))⟩⟩⟩)

set_option maxRecDepth 100000 in
theorem v_X9_joinBy_6_17_e {SP : am_S} (hs : am_Smono SP) {Q : Option Value → am_W → Prop} {w : am_W} (hf : am_fin w) (p2 : Int32)
    (h : am_T m_X9_joinBy SP 168 Q 2 [some (.ref 6), some (.ref 17), some (.int p2), some (.int 0), none, none, none] [] w) :
    am_T m_X9_joinBy SP 168 Q 0 [some (.ref 6), some (.ref 17), some (.int p2), none, none, none, none] [] w :=
  am_T.wp hs (K := am_T m_X9_joinBy SP 168 Q) (cuts := [2, 11, 25]) (fun _ _ _ _ h => h) 4
    (h)

set_option maxRecDepth 100000 in
theorem v_X9_joinBy_6_17_2 {SP : am_S} (hs : am_Smono SP) {Q : Option Value → am_W → Prop} {w : am_W} (hf : am_fin w) (x2 : Int32) (x3 : Int32) (o4 : Option Value) (o5 : Option Value) (o6 : Option Value)
    (h : ((12 ≤ x3 → Q none w) ∧ (¬ 12 ≤ x3 → am_T m_X9_joinBy SP 168 Q 11 [some (.ref 6), some (.ref 17), some (.int x2), some (.int x3), some (.int 0), o5, o6] [] w))) :
    am_T m_X9_joinBy SP 168 Q 2 [some (.ref 6), some (.ref 17), some (.int x2), some (.int x3), o4, o5, o6] [] w :=
  am_T.wp hs (K := am_T m_X9_joinBy SP 168 Q) (cuts := [2, 11, 25]) (fun _ _ _ _ h => h) 7
    (⟨fun c1 => ⟨(hf).1, ((h).1 c1)⟩, fun c1 => ((h).2 c1)⟩)

set_option maxRecDepth 100000 in
theorem v_X9_joinBy_6_17_11 {SP : am_S} (hs : am_Smono SP) {Q : Option Value → am_W → Prop} {w : am_W} (hf : am_fin w) (x2 : Int32) (x3 : Int32) (x4 : Int32) (o5 : Option Value) (o6 : Option Value)
    (h : ((12 ≤ x4 → am_T m_X9_joinBy SP 168 Q 2 [some (.ref 6), some (.ref 17), some (.int x2), some (.int (x3 + 1)), some (.int x4), o5, o6] [] w) ∧ (¬ 12 ≤ x4 → am_T m_X9_joinBy SP 168 Q 25 [some (.ref 6), some (.ref 17), some (.int x2), some (.int x3), some (.int x4), some (.int 1000000), some (.int 0)] [] w))) :
    am_T m_X9_joinBy SP 168 Q 11 [some (.ref 6), some (.ref 17), some (.int x2), some (.int x3), some (.int x4), o5, o6] [] w :=
  am_T.wp hs (K := am_T m_X9_joinBy SP 168 Q) (cuts := [2, 11, 25]) (fun _ _ _ _ h => h) 9
    (⟨fun c1 => ((h).1 c1), fun c1 => ((h).2 c1)⟩)

set_option maxRecDepth 100000 in
theorem v_X9_joinBy_6_17_25 {SP : am_S} (hs : am_Smono SP) {Q : Option Value → am_W → Prop} {w : am_W} (hf : am_fin w) (x2 : Int32) (x3 : Int32) (x4 : Int32) (x5 : Int32) (x6 : Int32)
    (h : ((12 ≤ x6 → (vp_in ((x3 * 12) + x4) 144 ∧ ∀ w2 : am_W, w2 = am_si w 17 (Int32.toNatClampNeg ((x3 * 12) + x4)) x5 → am_T m_X9_joinBy SP 168 Q 11 [some (.ref 6), some (.ref 17), some (.int x2), some (.int x3), some (.int (x4 + 1)), some (.int x5), some (.int x6)] [] w2)) ∧ (¬ 12 ≤ x6 → ((¬ ((x2 >>> (x6 &&& 31)) &&& 1) = 1 → am_T m_X9_joinBy SP 168 Q 25 [some (.ref 6), some (.ref 17), some (.int x2), some (.int x3), some (.int x4), some (.int x5), some (.int (x6 + 1))] [] w) ∧ (((x2 >>> (x6 &&& 31)) &&& 1) = 1 → SP 118 [(.ref 6), (.int x3), (.int x6)] w (fun y4 w5 => am_fin w5 ∧ ∃ z8 : Int32, y4 = some (.int z8) ∧ SP 118 [(.ref 6), (.int x6), (.int x4)] w5 (fun y10 w11 => am_fin w11 ∧ ∃ z14 : Int32, y10 = some (.int z14) ∧ am_T m_X9_joinBy SP 168 Q 25 [some (.ref 6), some (.ref 17), some (.int x2), some (.int x3), some (.int x4), some (.int (if (z8 + z14) < x5 then (z8 + z14) else x5)), some (.int (x6 + 1))] [] w11))))))) :
    am_T m_X9_joinBy SP 168 Q 25 [some (.ref 6), some (.ref 17), some (.int x2), some (.int x3), some (.int x4), some (.int x5), some (.int x6)] [] w :=
  am_T.wp hs (K := am_T m_X9_joinBy SP 168 Q) (cuts := [2, 11, 25]) (fun _ _ _ _ h => h) 26
    (⟨fun c1 => ⟨144, am_a hf rfl, (((h).1 c1)).1, ((((h).1 c1)).2 _ rfl)⟩, fun c1 => ⟨fun c3 => ((((h).2 c1)).1 c3), fun c3 => ⟨Nat.le_of_ble_eq_true rfl, am_a hf rfl, hs _ _ _ _ _ (fun y4 w5 q6 e7 => am_ci (q6).2 fun z8 h9 => ⟨Nat.le_of_ble_eq_true rfl, am_a (q6).1 rfl, hs _ _ _ _ _ (fun y10 w11 q12 e13 => am_ci (q12).2 fun z14 h15 => ⟨Nat.le_of_ble_eq_true rfl, h15⟩) (h9)⟩) (((((h).2 c1)).2 c3))⟩⟩⟩)

set_option maxRecDepth 100000 in
theorem v_X9_at_14_e {SP : am_S} (hs : am_Smono SP) {Q : Option Value → am_W → Prop} {w : am_W} (hf : am_fin w) (p2 : Int32) (p3 : Int32)
    (h : ((p2 < 0 → Q (some (.int 1000000)) w) ∧ (¬ p2 < 0 → ((12 ≤ p2 → Q (some (.int 1000000)) w) ∧ (¬ 12 ≤ p2 → ((p3 < 0 → Q (some (.int 1000000)) w) ∧ (¬ p3 < 0 → ((12 ≤ p3 → Q (some (.int 1000000)) w) ∧ (¬ 12 ≤ p3 → (vp_in ((p2 * 12) + p3) 144 ∧ Q (some (.int (am_gi w 14 (Int32.toNatClampNeg ((p2 * 12) + p3))))) w)))))))))) :
    am_T m_X9_at SP 168 Q 0 [some (.ref 14), some (.int p2), some (.int p3), none] [] w :=
  am_T.wp hs (K := am_T m_X9_at SP 168 Q) (cuts := []) (fun _ _ _ _ h => h) 25
    (⟨fun c1 => ⟨fun c2 => ⟨(hf).1, ((h).1 c1)⟩, fun c2 => absurd c2 (by decide)⟩, fun c1 => ⟨fun c3 => ⟨fun c4 => ⟨(hf).1, ((((h).2 c1)).1 c3)⟩, fun c4 => absurd c4 (by decide)⟩, fun c3 => ⟨fun c5 => ⟨fun c6 => ⟨(hf).1, ((((((h).2 c1)).2 c3)).1 c5)⟩, fun c6 => absurd c6 (by decide)⟩, fun c5 => ⟨fun c7 => ⟨fun c8 => ⟨(hf).1, ((((((((h).2 c1)).2 c3)).2 c5)).1 c7)⟩, fun c8 => absurd c8 (by decide)⟩, fun c7 => ⟨fun c9 => absurd c9 (by decide), fun c9 => ⟨144, am_a hf rfl, (((((((((h).2 c1)).2 c3)).2 c5)).2 c7)).1, ⟨(hf).1, (((((((((h).2 c1)).2 c3)).2 c5)).2 c7)).2⟩⟩⟩⟩⟩⟩⟩)

set_option maxRecDepth 100000 in
theorem v_X9_at_15_e {SP : am_S} (hs : am_Smono SP) {Q : Option Value → am_W → Prop} {w : am_W} (hf : am_fin w) (p2 : Int32) (p3 : Int32)
    (h : ((p2 < 0 → Q (some (.int 1000000)) w) ∧ (¬ p2 < 0 → ((12 ≤ p2 → Q (some (.int 1000000)) w) ∧ (¬ 12 ≤ p2 → ((p3 < 0 → Q (some (.int 1000000)) w) ∧ (¬ p3 < 0 → ((12 ≤ p3 → Q (some (.int 1000000)) w) ∧ (¬ 12 ≤ p3 → (vp_in ((p2 * 12) + p3) 144 ∧ Q (some (.int (am_gi w 15 (Int32.toNatClampNeg ((p2 * 12) + p3))))) w)))))))))) :
    am_T m_X9_at SP 168 Q 0 [some (.ref 15), some (.int p2), some (.int p3), none] [] w :=
  am_T.wp hs (K := am_T m_X9_at SP 168 Q) (cuts := []) (fun _ _ _ _ h => h) 25
    (⟨fun c1 => ⟨fun c2 => ⟨(hf).1, ((h).1 c1)⟩, fun c2 => absurd c2 (by decide)⟩, fun c1 => ⟨fun c3 => ⟨fun c4 => ⟨(hf).1, ((((h).2 c1)).1 c3)⟩, fun c4 => absurd c4 (by decide)⟩, fun c3 => ⟨fun c5 => ⟨fun c6 => ⟨(hf).1, ((((((h).2 c1)).2 c3)).1 c5)⟩, fun c6 => absurd c6 (by decide)⟩, fun c5 => ⟨fun c7 => ⟨fun c8 => ⟨(hf).1, ((((((((h).2 c1)).2 c3)).2 c5)).1 c7)⟩, fun c8 => absurd c8 (by decide)⟩, fun c7 => ⟨fun c9 => absurd c9 (by decide), fun c9 => ⟨144, am_a hf rfl, (((((((((h).2 c1)).2 c3)).2 c5)).2 c7)).1, ⟨(hf).1, (((((((((h).2 c1)).2 c3)).2 c5)).2 c7)).2⟩⟩⟩⟩⟩⟩⟩)

set_option maxRecDepth 100000 in
theorem v_X9_at_16_e {SP : am_S} (hs : am_Smono SP) {Q : Option Value → am_W → Prop} {w : am_W} (hf : am_fin w) (p2 : Int32) (p3 : Int32)
    (h : ((p2 < 0 → Q (some (.int 1000000)) w) ∧ (¬ p2 < 0 → ((12 ≤ p2 → Q (some (.int 1000000)) w) ∧ (¬ 12 ≤ p2 → ((p3 < 0 → Q (some (.int 1000000)) w) ∧ (¬ p3 < 0 → ((12 ≤ p3 → Q (some (.int 1000000)) w) ∧ (¬ 12 ≤ p3 → (vp_in ((p2 * 12) + p3) 144 ∧ Q (some (.int (am_gi w 16 (Int32.toNatClampNeg ((p2 * 12) + p3))))) w)))))))))) :
    am_T m_X9_at SP 168 Q 0 [some (.ref 16), some (.int p2), some (.int p3), none] [] w :=
  am_T.wp hs (K := am_T m_X9_at SP 168 Q) (cuts := []) (fun _ _ _ _ h => h) 25
    (⟨fun c1 => ⟨fun c2 => ⟨(hf).1, ((h).1 c1)⟩, fun c2 => absurd c2 (by decide)⟩, fun c1 => ⟨fun c3 => ⟨fun c4 => ⟨(hf).1, ((((h).2 c1)).1 c3)⟩, fun c4 => absurd c4 (by decide)⟩, fun c3 => ⟨fun c5 => ⟨fun c6 => ⟨(hf).1, ((((((h).2 c1)).2 c3)).1 c5)⟩, fun c6 => absurd c6 (by decide)⟩, fun c5 => ⟨fun c7 => ⟨fun c8 => ⟨(hf).1, ((((((((h).2 c1)).2 c3)).2 c5)).1 c7)⟩, fun c8 => absurd c8 (by decide)⟩, fun c7 => ⟨fun c9 => absurd c9 (by decide), fun c9 => ⟨144, am_a hf rfl, (((((((((h).2 c1)).2 c3)).2 c5)).2 c7)).1, ⟨(hf).1, (((((((((h).2 c1)).2 c3)).2 c5)).2 c7)).2⟩⟩⟩⟩⟩⟩⟩)

set_option maxRecDepth 100000 in
theorem v_X9_at_17_e {SP : am_S} (hs : am_Smono SP) {Q : Option Value → am_W → Prop} {w : am_W} (hf : am_fin w) (p2 : Int32) (p3 : Int32)
    (h : ((p2 < 0 → Q (some (.int 1000000)) w) ∧ (¬ p2 < 0 → ((12 ≤ p2 → Q (some (.int 1000000)) w) ∧ (¬ 12 ≤ p2 → ((p3 < 0 → Q (some (.int 1000000)) w) ∧ (¬ p3 < 0 → ((12 ≤ p3 → Q (some (.int 1000000)) w) ∧ (¬ 12 ≤ p3 → (vp_in ((p2 * 12) + p3) 144 ∧ Q (some (.int (am_gi w 17 (Int32.toNatClampNeg ((p2 * 12) + p3))))) w)))))))))) :
    am_T m_X9_at SP 168 Q 0 [some (.ref 17), some (.int p2), some (.int p3), none] [] w :=
  am_T.wp hs (K := am_T m_X9_at SP 168 Q) (cuts := []) (fun _ _ _ _ h => h) 25
    (⟨fun c1 => ⟨fun c2 => ⟨(hf).1, ((h).1 c1)⟩, fun c2 => absurd c2 (by decide)⟩, fun c1 => ⟨fun c3 => ⟨fun c4 => ⟨(hf).1, ((((h).2 c1)).1 c3)⟩, fun c4 => absurd c4 (by decide)⟩, fun c3 => ⟨fun c5 => ⟨fun c6 => ⟨(hf).1, ((((((h).2 c1)).2 c3)).1 c5)⟩, fun c6 => absurd c6 (by decide)⟩, fun c5 => ⟨fun c7 => ⟨fun c8 => ⟨(hf).1, ((((((((h).2 c1)).2 c3)).2 c5)).1 c7)⟩, fun c8 => absurd c8 (by decide)⟩, fun c7 => ⟨fun c9 => absurd c9 (by decide), fun c9 => ⟨144, am_a hf rfl, (((((((((h).2 c1)).2 c3)).2 c5)).2 c7)).1, ⟨(hf).1, (((((((((h).2 c1)).2 c3)).2 c5)).2 c7)).2⟩⟩⟩⟩⟩⟩⟩)

