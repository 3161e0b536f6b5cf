set_option maxRecDepth 100000 in
theorem v_X3_chargeOn_e {SP : am_S} (hs : am_Smono SP) {Q : Option Value → am_W → Prop} {w : am_W} (hf : am_fin w) (p1 : Int32) (p2 : Int32)
    (h : SP 32 [(.ref 30), (.int p1)] w (fun y1 w2 => am_fin w2 ∧ ((∃ z5 : Nat, y1 = some (.ref z5) ∧ (am_at w2 z5 (5, 4) ∧ SP 38 [(.ref z5), (.int p2)] w2 (fun y8 w9 => am_fin w9 ∧ ∃ z12 : Int32, y8 = some (.int z12) ∧ Q (some (.int z12)) w9))) ∨ (y1 = some .null ∧ Q (some (.int 0)) w2)))) :
    am_T m_X3_chargeOn SP 168 Q 0 [some (.ref 30), some (.int p1), some (.int p2), none] [] w :=
  am_T.wp hs (K := am_T m_X3_chargeOn SP 168 Q) (cuts := []) (fun _ _ _ _ h => h) 11
    (⟨Nat.le_of_ble_eq_true rfl, am_a hf rfl, hs _ _ _ _ _ (fun y1 w2 q3 e4 => am_cr (q3).2 (fun z5 h6 => ⟨Nat.le_of_ble_eq_true rfl, (h6).1, hs _ _ _ _ _ (fun y8 w9 q10 e11 => am_ci (q10).2 fun z12 h13 => ⟨((q10).1).1, h13⟩) ((h6).2)⟩) (fun h7 => ⟨((q3).1).1, h7⟩)) (h)⟩)

set_option maxRecDepth 100000 in
theorem v_X4_clear_32_e {SP : am_S} (hs : am_Smono SP) {Q : Option Value → am_W → Prop} {w : am_W} (hf : am_fin w) (p1 : Int32)
    (h : (∀ w1 : am_W, w1 = am_si w 32 0 p1 → (∀ w2 : am_W, w2 = am_si w1 32 2 0 → (∀ w3 : am_W, w3 = am_si w2 32 5 0 → SP 299 [(.ref 36), (.int (-1))] w3 (fun y4 w5 => am_fin w5 ∧ y4 = none ∧ (∀ w8 : am_W, w8 = am_si w5 32 7 (-1) → (∀ w9 : am_W, w9 = am_si w8 32 8 (-1) → (∀ w10 : am_W, w10 = am_si w9 32 9 (-1) → (∀ w11 : am_W, w11 = am_si w10 32 10 (-1) → (∀ w12 : am_W, w12 = am_si w11 32 11 (-1) → Q none w12)))))))))) :
    am_T m_X4_clear SP 168 Q 0 [some (.ref 32), some (.int p1)] [] w :=
  am_T.wp hs (K := am_T m_X4_clear SP 168 Q) (cuts := []) (fun _ _ _ _ h => h) 30
    (⟨am_a hf rfl, ⟨am_a hf rfl, ⟨am_a hf rfl, ⟨am_a hf rfl, Or.inl ⟨36, (hf).2 32 6 36 rfl, ⟨Nat.le_of_ble_eq_true rfl, trivial, hs _ _ _ _ _ (fun y4 w5 q6 e7 => ⟨(q6).2.1, ⟨am_a (q6).1 rfl, ⟨am_a (q6).1 rfl, ⟨am_a (q6).1 rfl, ⟨am_a (q6).1 rfl, ⟨am_a (q6).1 rfl, ⟨((q6).1).1, ((((((q6).2.2 _ rfl) _ rfl) _ rfl) _ rfl) _ rfl)⟩⟩⟩⟩⟩⟩⟩) ((((h _ rfl) _ rfl) _ rfl))⟩⟩⟩⟩⟩⟩)

set_option maxRecDepth 100000 in
theorem v_X4_clear_38_e {SP : am_S} (hs : am_Smono SP) {Q : Option Value → am_W → Prop} {w : am_W} (hf : am_fin w) (p1 : Int32)
    (h : (∀ w1 : am_W, w1 = am_si w 38 0 p1 → (∀ w2 : am_W, w2 = am_si w1 38 2 0 → (∀ w3 : am_W, w3 = am_si w2 38 5 0 → SP 299 [(.ref 42), (.int (-1))] w3 (fun y4 w5 => am_fin w5 ∧ y4 = none ∧ (∀ w8 : am_W, w8 = am_si w5 38 7 (-1) → (∀ w9 : am_W, w9 = am_si w8 38 8 (-1) → (∀ w10 : am_W, w10 = am_si w9 38 9 (-1) → (∀ w11 : am_W, w11 = am_si w10 38 10 (-1) → (∀ w12 : am_W, w12 = am_si w11 38 11 (-1) → Q none w12)))))))))) :
    am_T m_X4_clear SP 168 Q 0 [some (.ref 38), some (.int p1)] [] w :=
  am_T.wp hs (K := am_T m_X4_clear SP 168 Q) (cuts := []) (fun _ _ _ _ h => h) 30
    (⟨am_a hf rfl, ⟨am_a hf rfl, ⟨am_a hf rfl, ⟨am_a hf rfl, Or.inl ⟨42, (hf).2 38 6 42 rfl, ⟨Nat.le_of_ble_eq_true rfl, trivial, hs _ _ _ _ _ (fun y4 w5 q6 e7 => ⟨(q6).2.1, ⟨am_a (q6).1 rfl, ⟨am_a (q6).1 rfl, ⟨am_a (q6).1 rfl, ⟨am_a (q6).1 rfl, ⟨am_a (q6).1 rfl, ⟨((q6).1).1, ((((((q6).2.2 _ rfl) _ rfl) _ rfl) _ rfl) _ rfl)⟩⟩⟩⟩⟩⟩⟩) ((((h _ rfl) _ rfl) _ rfl))⟩⟩⟩⟩⟩⟩)

set_option maxRecDepth 100000 in
theorem v_X4_clear_44_e {SP : am_S} (hs : am_Smono SP) {Q : Option Value → am_W → Prop} {w : am_W} (hf : am_fin w) (p1 : Int32)
    (h : (∀ w1 : am_W, w1 = am_si w 44 0 p1 → (∀ w2 : am_W, w2 = am_si w1 44 2 0 → (∀ w3 : am_W, w3 = am_si w2 44 5 0 → SP 299 [(.ref 48), (.int (-1))] w3 (fun y4 w5 => am_fin w5 ∧ y4 = none ∧ (∀ w8 : am_W, w8 = am_si w5 44 7 (-1) → (∀ w9 : am_W, w9 = am_si w8 44 8 (-1) → (∀ w10 : am_W, w10 = am_si w9 44 9 (-1) → (∀ w11 : am_W, w11 = am_si w10 44 10 (-1) → (∀ w12 : am_W, w12 = am_si w11 44 11 (-1) → Q none w12)))))))))) :
    am_T m_X4_clear SP 168 Q 0 [some (.ref 44), some (.int p1)] [] w :=
  am_T.wp hs (K := am_T m_X4_clear SP 168 Q) (cuts := []) (fun _ _ _ _ h => h) 30
    (⟨am_a hf rfl, ⟨am_a hf rfl, ⟨am_a hf rfl, ⟨am_a hf rfl, Or.inl ⟨48, (hf).2 44 6 48 rfl, ⟨Nat.le_of_ble_eq_true rfl, trivial, hs _ _ _ _ _ (fun y4 w5 q6 e7 => ⟨(q6).2.1, ⟨am_a (q6).1 rfl, ⟨am_a (q6).1 rfl, ⟨am_a (q6).1 rfl, ⟨am_a (q6).1 rfl, ⟨am_a (q6).1 rfl, ⟨((q6).1).1, ((((((q6).2.2 _ rfl) _ rfl) _ rfl) _ rfl) _ rfl)⟩⟩⟩⟩⟩⟩⟩) ((((h _ rfl) _ rfl) _ rfl))⟩⟩⟩⟩⟩⟩)

set_option maxRecDepth 100000 in
theorem v_X4_clear_50_e {SP : am_S} (hs : am_Smono SP) {Q : Option Value → am_W → Prop} {w : am_W} (hf : am_fin w) (p1 : Int32)
    (h : (∀ w1 : am_W, w1 = am_si w 50 0 p1 → (∀ w2 : am_W, w2 = am_si w1 50 2 0 → (∀ w3 : am_W, w3 = am_si w2 50 5 0 → SP 299 [(.ref 54), (.int (-1))] w3 (fun y4 w5 => am_fin w5 ∧ y4 = none ∧ (∀ w8 : am_W, w8 = am_si w5 50 7 (-1) → (∀ w9 : am_W, w9 = am_si w8 50 8 (-1) → (∀ w10 : am_W, w10 = am_si w9 50 9 (-1) → (∀ w11 : am_W, w11 = am_si w10 50 10 (-1) → (∀ w12 : am_W, w12 = am_si w11 50 11 (-1) → Q none w12)))))))))) :
    am_T m_X4_clear SP 168 Q 0 [some (.ref 50), some (.int p1)] [] w :=
  am_T.wp hs (K := am_T m_X4_clear SP 168 Q) (cuts := []) (fun _ _ _ _ h => h) 30
    (⟨am_a hf rfl, ⟨am_a hf rfl, ⟨am_a hf rfl, ⟨am_a hf rfl, Or.inl ⟨54, (hf).2 50 6 54 rfl, ⟨Nat.le_of_ble_eq_true rfl, trivial, hs _ _ _ _ _ (fun y4 w5 q6 e7 => ⟨(q6).2.1, ⟨am_a (q6).1 rfl, ⟨am_a (q6).1 rfl, ⟨am_a (q6).1 rfl, ⟨am_a (q6).1 rfl, ⟨am_a (q6).1 rfl, ⟨((q6).1).1, ((((((q6).2.2 _ rfl) _ rfl) _ rfl) _ rfl) _ rfl)⟩⟩⟩⟩⟩⟩⟩) ((((h _ rfl) _ rfl) _ rfl))⟩⟩⟩⟩⟩⟩)

set_option maxRecDepth 100000 in
theorem v_X4_clear_56_e {SP : am_S} (hs : am_Smono SP) {Q : Option Value → am_W → Prop} {w : am_W} (hf : am_fin w) (p1 : Int32)
    (h : (∀ w1 : am_W, w1 = am_si w 56 0 p1 → (∀ w2 : am_W, w2 = am_si w1 56 2 0 → (∀ w3 : am_W, w3 = am_si w2 56 5 0 → SP 299 [(.ref 60), (.int (-1))] w3 (fun y4 w5 => am_fin w5 ∧ y4 = none ∧ (∀ w8 : am_W, w8 = am_si w5 56 7 (-1) → (∀ w9 : am_W, w9 = am_si w8 56 8 (-1) → (∀ w10 : am_W, w10 = am_si w9 56 9 (-1) → (∀ w11 : am_W, w11 = am_si w10 56 10 (-1) → (∀ w12 : am_W, w12 = am_si w11 56 11 (-1) → Q none w12)))))))))) :
    am_T m_X4_clear SP 168 Q 0 [some (.ref 56), some (.int p1)] [] w :=
  am_T.wp hs (K := am_T m_X4_clear SP 168 Q) (cuts := []) (fun _ _ _ _ h => h) 30
    (⟨am_a hf rfl, ⟨am_a hf rfl, ⟨am_a hf rfl, ⟨am_a hf rfl, Or.inl ⟨60, (hf).2 56 6 60 rfl, ⟨Nat.le_of_ble_eq_true rfl, trivial, hs _ _ _ _ _ (fun y4 w5 q6 e7 => ⟨(q6).2.1, ⟨am_a (q6).1 rfl, ⟨am_a (q6).1 rfl, ⟨am_a (q6).1 rfl, ⟨am_a (q6).1 rfl, ⟨am_a (q6).1 rfl, ⟨((q6).1).1, ((((((q6).2.2 _ rfl) _ rfl) _ rfl) _ rfl) _ rfl)⟩⟩⟩⟩⟩⟩⟩) ((((h _ rfl) _ rfl) _ rfl))⟩⟩⟩⟩⟩⟩)

set_option maxRecDepth 100000 in
theorem v_X4_clear_62_e {SP : am_S} (hs : am_Smono SP) {Q : Option Value → am_W → Prop} {w : am_W} (hf : am_fin w) (p1 : Int32)
    (h : (∀ w1 : am_W, w1 = am_si w 62 0 p1 → (∀ w2 : am_W, w2 = am_si w1 62 2 0 → (∀ w3 : am_W, w3 = am_si w2 62 5 0 → SP 299 [(.ref 66), (.int (-1))] w3 (fun y4 w5 => am_fin w5 ∧ y4 = none ∧ (∀ w8 : am_W, w8 = am_si w5 62 7 (-1) → (∀ w9 : am_W, w9 = am_si w8 62 8 (-1) → (∀ w10 : am_W, w10 = am_si w9 62 9 (-1) → (∀ w11 : am_W, w11 = am_si w10 62 10 (-1) → (∀ w12 : am_W, w12 = am_si w11 62 11 (-1) → Q none w12)))))))))) :
    am_T m_X4_clear SP 168 Q 0 [some (.ref 62), some (.int p1)] [] w :=
  am_T.wp hs (K := am_T m_X4_clear SP 168 Q) (cuts := []) (fun _ _ _ _ h => h) 30
    (⟨am_a hf rfl, ⟨am_a hf rfl, ⟨am_a hf rfl, ⟨am_a hf rfl, Or.inl ⟨66, (hf).2 62 6 66 rfl, ⟨Nat.le_of_ble_eq_true rfl, trivial, hs _ _ _ _ _ (fun y4 w5 q6 e7 => ⟨(q6).2.1, ⟨am_a (q6).1 rfl, ⟨am_a (q6).1 rfl, ⟨am_a (q6).1 rfl, ⟨am_a (q6).1 rfl, ⟨am_a (q6).1 rfl, ⟨((q6).1).1, ((((((q6).2.2 _ rfl) _ rfl) _ rfl) _ rfl) _ rfl)⟩⟩⟩⟩⟩⟩⟩) ((((h _ rfl) _ rfl) _ rfl))⟩⟩⟩⟩⟩⟩)

set_option maxRecDepth 100000 in
theorem v_X4_addStep_32_e {SP : am_S} (hs : am_Smono SP) {Q : Option Value → am_W → Prop} {w : am_W} (hf : am_fin w) (p1 : Int32)
    (h : ((400 ≤ (am_gi w 32 2) → Q none w) ∧ (¬ 400 ≤ (am_gi w 32 2) → (vp_in (am_gi w 32 2) 400 ∧ ∀ w2 : am_W, w2 = am_si w 33 (Int32.toNatClampNeg (am_gi w 32 2)) p1 → (∀ w3 : am_W, w3 = am_si w2 32 2 ((am_gi w2 32 2) + 1) → Q none w3))))) :
    am_T m_X4_addStep SP 168 Q 0 [some (.ref 32), some (.int p1)] [] w :=
  am_T.wp hs (K := am_T m_X4_addStep SP 168 Q) (cuts := []) (fun _ _ _ _ h => h) 18
    (⟨am_a hf rfl, ⟨fun c1 => ⟨(hf).1, ((h).1 c1)⟩, fun c1 => ⟨am_a hf rfl, Or.inl ⟨33, (hf).2 32 1 33 rfl, ⟨am_a hf rfl, ⟨400, am_a hf rfl, (((h).2 c1)).1, ⟨am_a hf rfl, ⟨am_a hf rfl, ⟨(hf).1, (((((h).2 c1)).2 _ rfl) _ rfl)⟩⟩⟩⟩⟩⟩⟩⟩⟩)

set_option maxRecDepth 100000 in
theorem v_X4_addStep_38_e {SP : am_S} (hs : am_Smono SP) {Q : Option Value → am_W → Prop} {w : am_W} (hf : am_fin w) (p1 : Int32)
    (h : ((400 ≤ (am_gi w 38 2) → Q none w) ∧ (¬ 400 ≤ (am_gi w 38 2) → (vp_in (am_gi w 38 2) 400 ∧ ∀ w2 : am_W, w2 = am_si w 39 (Int32.toNatClampNeg (am_gi w 38 2)) p1 → (∀ w3 : am_W, w3 = am_si w2 38 2 ((am_gi w2 38 2) + 1) → Q none w3))))) :
    am_T m_X4_addStep SP 168 Q 0 [some (.ref 38), some (.int p1)] [] w :=
  am_T.wp hs (K := am_T m_X4_addStep SP 168 Q) (cuts := []) (fun _ _ _ _ h => h) 18
    (⟨am_a hf rfl, ⟨fun c1 => ⟨(hf).1, ((h).1 c1)⟩, fun c1 => ⟨am_a hf rfl, Or.inl ⟨39, (hf).2 38 1 39 rfl, ⟨am_a hf rfl, ⟨400, am_a hf rfl, (((h).2 c1)).1, ⟨am_a hf rfl, ⟨am_a hf rfl, ⟨(hf).1, (((((h).2 c1)).2 _ rfl) _ rfl)⟩⟩⟩⟩⟩⟩⟩⟩⟩)

set_option maxRecDepth 100000 in
theorem v_X4_addStep_44_e {SP : am_S} (hs : am_Smono SP) {Q : Option Value → am_W → Prop} {w : am_W} (hf : am_fin w) (p1 : Int32)
    (h : ((400 ≤ (am_gi w 44 2) → Q none w) ∧ (¬ 400 ≤ (am_gi w 44 2) → (vp_in (am_gi w 44 2) 400 ∧ ∀ w2 : am_W, w2 = am_si w 45 (Int32.toNatClampNeg (am_gi w 44 2)) p1 → (∀ w3 : am_W, w3 = am_si w2 44 2 ((am_gi w2 44 2) + 1) → Q none w3))))) :
    am_T m_X4_addStep SP 168 Q 0 [some (.ref 44), some (.int p1)] [] w :=
  am_T.wp hs (K := am_T m_X4_addStep SP 168 Q) (cuts := []) (fun _ _ _ _ h => h) 18
    (⟨am_a hf rfl, ⟨fun c1 => ⟨(hf).1, ((h).1 c1)⟩, fun c1 => ⟨am_a hf rfl, Or.inl ⟨45, (hf).2 44 1 45 rfl, ⟨am_a hf rfl, ⟨400, am_a hf rfl, (((h).2 c1)).1, ⟨am_a hf rfl, ⟨am_a hf rfl, ⟨(hf).1, (((((h).2 c1)).2 _ rfl) _ rfl)⟩⟩⟩⟩⟩⟩⟩⟩⟩)

set_option maxRecDepth 100000 in
theorem v_X4_addStep_50_e {SP : am_S} (hs : am_Smono SP) {Q : Option Value → am_W → Prop} {w : am_W} (hf : am_fin w) (p1 : Int32)
    (h : ((400 ≤ (am_gi w 50 2) → Q none w) ∧ (¬ 400 ≤ (am_gi w 50 2) → (vp_in (am_gi w 50 2) 400 ∧ ∀ w2 : am_W, w2 = am_si w 51 (Int32.toNatClampNeg (am_gi w 50 2)) p1 → (∀ w3 : am_W, w3 = am_si w2 50 2 ((am_gi w2 50 2) + 1) → Q none w3))))) :
    am_T m_X4_addStep SP 168 Q 0 [some (.ref 50), some (.int p1)] [] w :=
  am_T.wp hs (K := am_T m_X4_addStep SP 168 Q) (cuts := []) (fun _ _ _ _ h => h) 18
    (⟨am_a hf rfl, ⟨fun c1 => ⟨(hf).1, ((h).1 c1)⟩, fun c1 => ⟨am_a hf rfl, Or.inl ⟨51, (hf).2 50 1 51 rfl, ⟨am_a hf rfl, ⟨400, am_a hf rfl, (((h).2 c1)).1, ⟨am_a hf rfl, ⟨am_a hf rfl, ⟨(hf).1, (((((h).2 c1)).2 _ rfl) _ rfl)⟩⟩⟩⟩⟩⟩⟩⟩⟩)

set_option maxRecDepth 100000 in
theorem v_X4_addStep_56_e {SP : am_S} (hs : am_Smono SP) {Q : Option Value → am_W → Prop} {w : am_W} (hf : am_fin w) (p1 : Int32)
    (h : ((400 ≤ (am_gi w 56 2) → Q none w) ∧ (¬ 400 ≤ (am_gi w 56 2) → (vp_in (am_gi w 56 2) 400 ∧ ∀ w2 : am_W, w2 = am_si w 57 (Int32.toNatClampNeg (am_gi w 56 2)) p1 → (∀ w3 : am_W, w3 = am_si w2 56 2 ((am_gi w2 56 2) + 1) → Q none w3))))) :
    am_T m_X4_addStep SP 168 Q 0 [some (.ref 56), some (.int p1)] [] w :=
  am_T.wp hs (K := am_T m_X4_addStep SP 168 Q) (cuts := []) (fun _ _ _ _ h => h) 18
    (⟨am_a hf rfl, ⟨fun c1 => ⟨(hf).1, ((h).1 c1)⟩, fun c1 => ⟨am_a hf rfl, Or.inl ⟨57, (hf).2 56 1 57 rfl, ⟨am_a hf rfl, ⟨400, am_a hf rfl, (((h).2 c1)).1, ⟨am_a hf rfl, ⟨am_a hf rfl, ⟨(hf).1, (((((h).2 c1)).2 _ rfl) _ rfl)⟩⟩⟩⟩⟩⟩⟩⟩⟩)

set_option maxRecDepth 100000 in
theorem v_X4_addStep_62_e {SP : am_S} (hs : am_Smono SP) {Q : Option Value → am_W → Prop} {w : am_W} (hf : am_fin w) (p1 : Int32)
    (h : ((400 ≤ (am_gi w 62 2) → Q none w) ∧ (¬ 400 ≤ (am_gi w 62 2) → (vp_in (am_gi w 62 2) 400 ∧ ∀ w2 : am_W, w2 = am_si w 63 (Int32.toNatClampNeg (am_gi w 62 2)) p1 → (∀ w3 : am_W, w3 = am_si w2 62 2 ((am_gi w2 62 2) + 1) → Q none w3))))) :
    am_T m_X4_addStep SP 168 Q 0 [some (.ref 62), some (.int p1)] [] w :=
  am_T.wp hs (K := am_T m_X4_addStep SP 168 Q) (cuts := []) (fun _ _ _ _ h => h) 18
    (⟨am_a hf rfl, ⟨fun c1 => ⟨(hf).1, ((h).1 c1)⟩, fun c1 => ⟨am_a hf rfl, Or.inl ⟨63, (hf).2 62 1 63 rfl, ⟨am_a hf rfl, ⟨400, am_a hf rfl, (((h).2 c1)).1, ⟨am_a hf rfl, ⟨am_a hf rfl, ⟨(hf).1, (((((h).2 c1)).2 _ rfl) _ rfl)⟩⟩⟩⟩⟩⟩⟩⟩⟩)

set_option maxRecDepth 100000 in
theorem v_X4_isInHours_32_e {SP : am_S} (hs : am_Smono SP) {Q : Option Value → am_W → Prop} {w : am_W} (hf : am_fin w) (p1 : Int32)
    (h : (((am_gi w 32 8) = (-1) → Q (some (.int 1)) w) ∧ (¬ (am_gi w 32 8) = (-1) → ((p1 < (am_gi w 32 7) → Q (some (.int 0)) w) ∧ (¬ p1 < (am_gi w 32 7) → (((am_gi w 32 8) ≤ p1 → Q (some (.int 0)) w) ∧ (¬ (am_gi w 32 8) ≤ p1 → Q (some (.int 1)) w))))))) :
    am_T m_X4_isInHours SP 168 Q 0 [some (.ref 32), some (.int p1)] [] w :=
  am_T.wp hs (K := am_T m_X4_isInHours SP 168 Q) (cuts := []) (fun _ _ _ _ h => h) 16
    (⟨am_a hf rfl, ⟨fun c1 => ⟨(hf).1, Or.inr rfl, ((h).1 c1)⟩, fun c1 => ⟨am_a hf rfl, ⟨fun c2 => ⟨(hf).1, Or.inl rfl, ((((h).2 c1)).1 c2)⟩, fun c2 => ⟨am_a hf rfl, ⟨fun c3 => ⟨(hf).1, Or.inl rfl, ((((((h).2 c1)).2 c2)).1 c3)⟩, fun c3 => ⟨(hf).1, Or.inr rfl, ((((((h).2 c1)).2 c2)).2 c3)⟩⟩⟩⟩⟩⟩⟩)

set_option maxRecDepth 100000 in
theorem v_X4_isInHours_38_e {SP : am_S} (hs : am_Smono SP) {Q : Option Value → am_W → Prop} {w : am_W} (hf : am_fin w) (p1 : Int32)
    (h : (((am_gi w 38 8) = (-1) → Q (some (.int 1)) w) ∧ (¬ (am_gi w 38 8) = (-1) → ((p1 < (am_gi w 38 7) → Q (some (.int 0)) w) ∧ (¬ p1 < (am_gi w 38 7) → (((am_gi w 38 8) ≤ p1 → Q (some (.int 0)) w) ∧ (¬ (am_gi w 38 8) ≤ p1 → Q (some (.int 1)) w))))))) :
    am_T m_X4_isInHours SP 168 Q 0 [some (.ref 38), some (.int p1)] [] w :=
  am_T.wp hs (K := am_T m_X4_isInHours SP 168 Q) (cuts := []) (fun _ _ _ _ h => h) 16
    (⟨am_a hf rfl, ⟨fun c1 => ⟨(hf).1, Or.inr rfl, ((h).1 c1)⟩, fun c1 => ⟨am_a hf rfl, ⟨fun c2 => ⟨(hf).1, Or.inl rfl, ((((h).2 c1)).1 c2)⟩, fun c2 => ⟨am_a hf rfl, ⟨fun c3 => ⟨(hf).1, Or.inl rfl, ((((((h).2 c1)).2 c2)).1 c3)⟩, fun c3 => ⟨(hf).1, Or.inr rfl, ((((((h).2 c1)).2 c2)).2 c3)⟩⟩⟩⟩⟩⟩⟩)

set_option maxRecDepth 100000 in
theorem v_X4_isInHours_44_e {SP : am_S} (hs : am_Smono SP) {Q : Option Value → am_W → Prop} {w : am_W} (hf : am_fin w) (p1 : Int32)
    (h : (((am_gi w 44 8) = (-1) → Q (some (.int 1)) w) ∧ (¬ (am_gi w 44 8) = (-1) → ((p1 < (am_gi w 44 7) → Q (some (.int 0)) w) ∧ (¬ p1 < (am_gi w 44 7) → (((am_gi w 44 8) ≤ p1 → Q (some (.int 0)) w) ∧ (¬ (am_gi w 44 8) ≤ p1 → Q (some (.int 1)) w))))))) :
    am_T m_X4_isInHours SP 168 Q 0 [some (.ref 44), some (.int p1)] [] w :=
  am_T.wp hs (K := am_T m_X4_isInHours SP 168 Q) (cuts := []) (fun _ _ _ _ h => h) 16
    (⟨am_a hf rfl, ⟨fun c1 => ⟨(hf).1, Or.inr rfl, ((h).1 c1)⟩, fun c1 => ⟨am_a hf rfl, ⟨fun c2 => ⟨(hf).1, Or.inl rfl, ((((h).2 c1)).1 c2)⟩, fun c2 => ⟨am_a hf rfl, ⟨fun c3 => ⟨(hf).1, Or.inl rfl, ((((((h).2 c1)).2 c2)).1 c3)⟩, fun c3 => ⟨(hf).1, Or.inr rfl, ((((((h).2 c1)).2 c2)).2 c3)⟩⟩⟩⟩⟩⟩⟩)

set_option maxRecDepth 100000 in
theorem v_X4_isInHours_50_e {SP : am_S} (hs : am_Smono SP) {Q : Option Value → am_W → Prop} {w : am_W} (hf : am_fin w) (p1 : Int32)
    (h : (((am_gi w 50 8) = (-1) → Q (some (.int 1)) w) ∧ (¬ (am_gi w 50 8) = (-1) → ((p1 < (am_gi w 50 7) → Q (some (.int 0)) w) ∧ (¬ p1 < (am_gi w 50 7) → (((am_gi w 50 8) ≤ p1 → Q (some (.int 0)) w) ∧ (¬ (am_gi w 50 8) ≤ p1 → Q (some (.int 1)) w))))))) :
    am_T m_X4_isInHours SP 168 Q 0 [some (.ref 50), some (.int p1)] [] w :=
  am_T.wp hs (K := am_T m_X4_isInHours SP 168 Q) (cuts := []) (fun _ _ _ _ h => h) 16
    (⟨am_a hf rfl, ⟨fun c1 => ⟨(hf).1, Or.inr rfl, ((h).1 c1)⟩, fun c1 => ⟨am_a hf rfl, ⟨fun c2 => ⟨(hf).1, Or.inl rfl, ((((h).2 c1)).1 c2)⟩, fun c2 => ⟨am_a hf rfl, ⟨fun c3 => ⟨(hf).1, Or.inl rfl, ((((((h).2 c1)).2 c2)).1 c3)⟩, fun c3 => ⟨(hf).1, Or.inr rfl, ((((((h).2 c1)).2 c2)).2 c3)⟩⟩⟩⟩⟩⟩⟩)

set_option maxRecDepth 100000 in
theorem v_X4_isInHours_56_e {SP : am_S} (hs : am_Smono SP) {Q : Option Value → am_W → Prop} {w : am_W} (hf : am_fin w) (p1 : Int32)
    (h : (((am_gi w 56 8) = (-1) → Q (some (.int 1)) w) ∧ (¬ (am_gi w 56 8) = (-1) → ((p1 < (am_gi w 56 7) → Q (some (.int 0)) w) ∧ (¬ p1 < (am_gi w 56 7) → (((am_gi w 56 8) ≤ p1 → Q (some (.int 0)) w) ∧ (¬ (am_gi w 56 8) ≤ p1 → Q (some (.int 1)) w))))))) :
    am_T m_X4_isInHours SP 168 Q 0 [some (.ref 56), some (.int p1)] [] w :=
  am_T.wp hs (K := am_T m_X4_isInHours SP 168 Q) (cuts := []) (fun _ _ _ _ h => h) 16
    (⟨am_a hf rfl, ⟨fun c1 => ⟨(hf).1, Or.inr rfl, ((h).1 c1)⟩, fun c1 => ⟨am_a hf rfl, ⟨fun c2 => ⟨(hf).1, Or.inl rfl, ((((h).2 c1)).1 c2)⟩, fun c2 => ⟨am_a hf rfl, ⟨fun c3 => ⟨(hf).1, Or.inl rfl, ((((((h).2 c1)).2 c2)).1 c3)⟩, fun c3 => ⟨(hf).1, Or.inr rfl, ((((((h).2 c1)).2 c2)).2 c3)⟩⟩⟩⟩⟩⟩⟩)

set_option maxRecDepth 100000 in
theorem v_X4_isInHours_62_e {SP : am_S} (hs : am_Smono SP) {Q : Option Value → am_W → Prop} {w : am_W} (hf : am_fin w) (p1 : Int32)
    (h : (((am_gi w 62 8) = (-1) → Q (some (.int 1)) w) ∧ (¬ (am_gi w 62 8) = (-1) → ((p1 < (am_gi w 62 7) → Q (some (.int 0)) w) ∧ (¬ p1 < (am_gi w 62 7) → (((am_gi w 62 8) ≤ p1 → Q (some (.int 0)) w) ∧ (¬ (am_gi w 62 8) ≤ p1 → Q (some (.int 1)) w))))))) :
    am_T m_X4_isInHours SP 168 Q 0 [some (.ref 62), some (.int p1)] [] w :=
  am_T.wp hs (K := am_T m_X4_isInHours SP 168 Q) (cuts := []) (fun _ _ _ _ h => h) 16
    (⟨am_a hf rfl, ⟨fun c1 => ⟨(hf).1, Or.inr rfl, ((h).1 c1)⟩, fun c1 => ⟨am_a hf rfl, ⟨fun c2 => ⟨(hf).1, Or.inl rfl, ((((h).2 c1)).1 c2)⟩, fun c2 => ⟨am_a hf rfl, ⟨fun c3 => ⟨(hf).1, Or.inl rfl, ((((((h).2 c1)).2 c2)).1 c3)⟩, fun c3 => ⟨(hf).1, Or.inr rfl, ((((((h).2 c1)).2 c2)).2 c3)⟩⟩⟩⟩⟩⟩⟩)

set_option maxRecDepth 100000 in
theorem v_X4_chargeOf_32_e {SP : am_S} (hs : am_Smono SP) {Q : Option Value → am_W → Prop} {w : am_W} (hf : am_fin w) (p1 : Int32)
    (h : SP 182 [(.int p1), (.int 10)] w (fun y1 w2 => am_fin w2 ∧ ∃ z5 : Int32, y1 = some (.int z5) ∧ ((z5 = 0 → Q (some (.int 0)) w2) ∧ (¬ z5 = 0 → (vp_in p1 10 ∧ Q (some (.int (if (am_gi w2 36 (Int32.toNatClampNeg p1)) < 0 then 0 else (am_gi w2 36 (Int32.toNatClampNeg p1))))) w2))))) :
    am_T m_X4_chargeOf SP 168 Q 0 [some (.ref 32), some (.int p1)] [] w :=
  am_T.wp hs (K := am_T m_X4_chargeOf SP 168 Q) (cuts := []) (fun _ _ _ _ h => h) 13
    (⟨Nat.le_of_ble_eq_true rfl, trivial, hs _ _ _ _ _ (fun y1 w2 q3 e4 => am_ci (q3).2 fun z5 h6 => ⟨fun c7 => ⟨((q3).1).1, ((h6).1 c7)⟩, fun c7 => ⟨am_a (q3).1 rfl, Or.inl ⟨36, ((q3).1).2 32 6 36 rfl, ⟨10, am_a (q3).1 rfl, (((h6).2 c7)).1, ⟨Nat.le_of_ble_eq_true rfl, ⟨((q3).1).1, (((h6).2 c7)).2⟩⟩⟩⟩⟩⟩) (h)⟩)

set_option maxRecDepth 100000 in
theorem v_X4_chargeOf_38_e {SP : am_S} (hs : am_Smono SP) {Q : Option Value → am_W → Prop} {w : am_W} (hf : am_fin w) (p1 : Int32)
    (h : SP 182 [(.int p1), (.int 10)] w (fun y1 w2 => am_fin w2 ∧ ∃ z5 : Int32, y1 = some (.int z5) ∧ ((z5 = 0 → Q (some (.int 0)) w2) ∧ (¬ z5 = 0 → (vp_in p1 10 ∧ Q (some (.int (if (am_gi w2 42 (Int32.toNatClampNeg p1)) < 0 then 0 else (am_gi w2 42 (Int32.toNatClampNeg p1))))) w2))))) :
    am_T m_X4_chargeOf SP 168 Q 0 [some (.ref 38), some (.int p1)] [] w :=
  am_T.wp hs (K := am_T m_X4_chargeOf SP 168 Q) (cuts := []) (fun _ _ _ _ h => h) 13
    (⟨Nat.le_of_ble_eq_true rfl, trivial, hs _ _ _ _ _ (fun y1 w2 q3 e4 => am_ci (q3).2 fun z5 h6 => ⟨fun c7 => ⟨((q3).1).1, ((h6).1 c7)⟩, fun c7 => ⟨am_a (q3).1 rfl, Or.inl ⟨42, ((q3).1).2 38 6 42 rfl, ⟨10, am_a (q3).1 rfl, (((h6).2 c7)).1, ⟨Nat.le_of_ble_eq_true rfl, ⟨((q3).1).1, (((h6).2 c7)).2⟩⟩⟩⟩⟩⟩) (h)⟩)

set_option maxRecDepth 100000 in
theorem v_X4_chargeOf_44_e {SP : am_S} (hs : am_Smono SP) {Q : Option Value → am_W → Prop} {w : am_W} (hf : am_fin w) (p1 : Int32)
    (h : SP 182 [(.int p1), (.int 10)] w (fun y1 w2 => am_fin w2 ∧ ∃ z5 : Int32, y1 = some (.int z5) ∧ ((z5 = 0 → Q (some (.int 0)) w2) ∧ (¬ z5 = 0 → (vp_in p1 10 ∧ Q (some (.int (if (am_gi w2 48 (Int32.toNatClampNeg p1)) < 0 then 0 else (am_gi w2 48 (Int32.toNatClampNeg p1))))) w2))))) :
    am_T m_X4_chargeOf SP 168 Q 0 [some (.ref 44), some (.int p1)] [] w :=
  am_T.wp hs (K := am_T m_X4_chargeOf SP 168 Q) (cuts := []) (fun _ _ _ _ h => h) 13
    (⟨Nat.le_of_ble_eq_true rfl, trivial, hs _ _ _ _ _ (fun y1 w2 q3 e4 => am_ci (q3).2 fun z5 h6 => ⟨fun c7 => ⟨((q3).1).1, ((h6).1 c7)⟩, fun c7 => ⟨am_a (q3).1 rfl, Or.inl ⟨48, ((q3).1).2 44 6 48 rfl, ⟨10, am_a (q3).1 rfl, (((h6).2 c7)).1, ⟨Nat.le_of_ble_eq_true rfl, ⟨((q3).1).1, (((h6).2 c7)).2⟩⟩⟩⟩⟩⟩) (h)⟩)

set_option maxRecDepth 100000 in
theorem v_X4_chargeOf_50_e {SP : am_S} (hs : am_Smono SP) {Q : Option Value → am_W → Prop} {w : am_W} (hf : am_fin w) (p1 : Int32)
    (h : SP 182 [(.int p1), (.int 10)] w (fun y1 w2 => am_fin w2 ∧ ∃ z5 : Int32, y1 = some (.int z5) ∧ ((z5 = 0 → Q (some (.int 0)) w2) ∧ (¬ z5 = 0 → (vp_in p1 10 ∧ Q (some (.int (if (am_gi w2 54 (Int32.toNatClampNeg p1)) < 0 then 0 else (am_gi w2 54 (Int32.toNatClampNeg p1))))) w2))))) :
    am_T m_X4_chargeOf SP 168 Q 0 [some (.ref 50), some (.int p1)] [] w :=
  am_T.wp hs (K := am_T m_X4_chargeOf SP 168 Q) (cuts := []) (fun _ _ _ _ h => h) 13
    (⟨Nat.le_of_ble_eq_true rfl, trivial, hs _ _ _ _ _ (fun y1 w2 q3 e4 => am_ci (q3).2 fun z5 h6 => ⟨fun c7 => ⟨((q3).1).1, ((h6).1 c7)⟩, fun c7 => ⟨am_a (q3).1 rfl, Or.inl ⟨54, ((q3).1).2 50 6 54 rfl, ⟨10, am_a (q3).1 rfl, (((h6).2 c7)).1, ⟨Nat.le_of_ble_eq_true rfl, ⟨((q3).1).1, (((h6).2 c7)).2⟩⟩⟩⟩⟩⟩) (h)⟩)

set_option maxRecDepth 100000 in
theorem v_X4_chargeOf_56_e {SP : am_S} (hs : am_Smono SP) {Q : Option Value → am_W → Prop} {w : am_W} (hf : am_fin w) (p1 : Int32)
    (h : SP 182 [(.int p1), (.int 10)] w (fun y1 w2 => am_fin w2 ∧ ∃ z5 : Int32, y1 = some (.int z5) ∧ ((z5 = 0 → Q (some (.int 0)) w2) ∧ (¬ z5 = 0 → (vp_in p1 10 ∧ Q (some (.int (if (am_gi w2 60 (Int32.toNatClampNeg p1)) < 0 then 0 else (am_gi w2 60 (Int32.toNatClampNeg p1))))) w2))))) :
    am_T m_X4_chargeOf SP 168 Q 0 [some (.ref 56), some (.int p1)] [] w :=
  am_T.wp hs (K := am_T m_X4_chargeOf SP 168 Q) (cuts := []) (fun _ _ _ _ h => h) 13
    (⟨Nat.le_of_ble_eq_true rfl, trivial, hs _ _ _ _ _ (fun y1 w2 q3 e4 => am_ci (q3).2 fun z5 h6 => ⟨fun c7 => ⟨((q3).1).1, ((h6).1 c7)⟩, fun c7 => ⟨am_a (q3).1 rfl, Or.inl ⟨60, ((q3).1).2 56 6 60 rfl, ⟨10, am_a (q3).1 rfl, (((h6).2 c7)).1, ⟨Nat.le_of_ble_eq_true rfl, ⟨((q3).1).1, (((h6).2 c7)).2⟩⟩⟩⟩⟩⟩) (h)⟩)

set_option maxRecDepth 100000 in
theorem v_X4_chargeOf_62_e {SP : am_S} (hs : am_Smono SP) {Q : Option Value → am_W → Prop} {w : am_W} (hf : am_fin w) (p1 : Int32)
    (h : SP 182 [(.int p1), (.int 10)] w (fun y1 w2 => am_fin w2 ∧ ∃ z5 : Int32, y1 = some (.int z5) ∧ ((z5 = 0 → Q (some (.int 0)) w2) ∧ (¬ z5 = 0 → (vp_in p1 10 ∧ Q (some (.int (if (am_gi w2 66 (Int32.toNatClampNeg p1)) < 0 then 0 else (am_gi w2 66 (Int32.toNatClampNeg p1))))) w2))))) :
    am_T m_X4_chargeOf SP 168 Q 0 [some (.ref 62), some (.int p1)] [] w :=
  am_T.wp hs (K := am_T m_X4_chargeOf SP 168 Q) (cuts := []) (fun _ _ _ _ h => h) 13
    (⟨Nat.le_of_ble_eq_true rfl, trivial, hs _ _ _ _ _ (fun y1 w2 q3 e4 => am_ci (q3).2 fun z5 h6 => ⟨fun c7 => ⟨((q3).1).1, ((h6).1 c7)⟩, fun c7 => ⟨am_a (q3).1 rfl, Or.inl ⟨66, ((q3).1).2 62 6 66 rfl, ⟨10, am_a (q3).1 rfl, (((h6).2 c7)).1, ⟨Nat.le_of_ble_eq_true rfl, ⟨((q3).1).1, (((h6).2 c7)).2⟩⟩⟩⟩⟩⟩) (h)⟩)

set_option maxRecDepth 100000 in
theorem v_X4_classBy_32_e {SP : am_S} (hs : am_Smono SP) {Q : Option Value → am_W → Prop} {w : am_W} (hf : am_fin w) 
    (h : am_T m_X4_classBy SP 168 Q 2 [some (.ref 32), some (.ref 93), some (.int 0)] [] w) :
    am_T m_X4_classBy SP 168 Q 0 [some (.ref 32), some (.ref 93), none] [] w :=
  am_T.wp hs (K := am_T m_X4_classBy SP 168 Q) (cuts := [2]) (fun _ _ _ _ h => h) 4
    (h)

set_option maxRecDepth 100000 in
theorem v_X4_classBy_32_2 {SP : am_S} (hs : am_Smono SP) {Q : Option Value → am_W → Prop} {w : am_W} (hf : am_fin w) (x2 : Int32)
    (h : (((am_gi w 32 5) ≤ x2 → Q (some (.int 0)) w) ∧ (¬ (am_gi w 32 5) ≤ x2 → ((6 ≤ x2 → Q (some (.int 0)) w) ∧ (¬ 6 ≤ x2 → (vp_in x2 6 ∧ SP 42 [(.ref 32), (.int (am_gi w 35 (Int32.toNatClampNeg x2))), (.ref 93)] w (fun y3 w4 => am_fin w4 ∧ ∃ z7 : Int32, y3 = some (.int z7) ∧ ((z7 = 0 → am_T m_X4_classBy SP 168 Q 2 [some (.ref 32), some (.ref 93), some (.int (x2 + 1))] [] w4) ∧ (¬ z7 = 0 → (vp_in x2 6 ∧ Q (some (.int (am_gi w4 34 (Int32.toNatClampNeg x2)))) w4)))))))))) :
    am_T m_X4_classBy SP 168 Q 2 [some (.ref 32), some (.ref 93), some (.int x2)] [] w :=
  am_T.wp hs (K := am_T m_X4_classBy SP 168 Q) (cuts := [2]) (fun _ _ _ _ h => h) 21
    (⟨am_a hf rfl, ⟨fun c1 => ⟨(hf).1, ((h).1 c1)⟩, fun c1 => ⟨fun c2 => ⟨(hf).1, ((((h).2 c1)).1 c2)⟩, fun c2 => ⟨am_a hf rfl, Or.inl ⟨35, (hf).2 32 4 35 rfl, ⟨6, am_a hf rfl, (((((h).2 c1)).2 c2)).1, ⟨Nat.le_of_ble_eq_true rfl, am_a hf rfl, hs _ _ _ _ _ (fun y3 w4 q5 e6 => am_ci (q5).2 fun z7 h8 => ⟨fun c9 => ((h8).1 c9), fun c9 => ⟨am_a (q5).1 rfl, Or.inl ⟨34, ((q5).1).2 32 3 34 rfl, ⟨6, am_a (q5).1 rfl, (((h8).2 c9)).1, ⟨((q5).1).1, (((h8).2 c9)).2⟩⟩⟩⟩⟩) ((((((h).2 c1)).2 c2)).2)⟩⟩⟩⟩⟩⟩⟩)

set_option maxRecDepth 100000 in
theorem v_X4_classBy_38_e {SP : am_S} (hs : am_Smono SP) {Q : Option Value → am_W → Prop} {w : am_W} (hf : am_fin w) 
    (h : am_T m_X4_classBy SP 168 Q 2 [some (.ref 38), some (.ref 93), some (.int 0)] [] w) :
    am_T m_X4_classBy SP 168 Q 0 [some (.ref 38), some (.ref 93), none] [] w :=
  am_T.wp hs (K := am_T m_X4_classBy SP 168 Q) (cuts := [2]) (fun _ _ _ _ h => h) 4
    (h)

set_option maxRecDepth 100000 in
theorem v_X4_classBy_38_2 {SP : am_S} (hs : am_Smono SP) {Q : Option Value → am_W → Prop} {w : am_W} (hf : am_fin w) (x2 : Int32)
    (h : (((am_gi w 38 5) ≤ x2 → Q (some (.int 0)) w) ∧ (¬ (am_gi w 38 5) ≤ x2 → ((6 ≤ x2 → Q (some (.int 0)) w) ∧ (¬ 6 ≤ x2 → (vp_in x2 6 ∧ SP 42 [(.ref 38), (.int (am_gi w 41 (Int32.toNatClampNeg x2))), (.ref 93)] w (fun y3 w4 => am_fin w4 ∧ ∃ z7 : Int32, y3 = some (.int z7) ∧ ((z7 = 0 → am_T m_X4_classBy SP 168 Q 2 [some (.ref 38), some (.ref 93), some (.int (x2 + 1))] [] w4) ∧ (¬ z7 = 0 → (vp_in x2 6 ∧ Q (some (.int (am_gi w4 40 (Int32.toNatClampNeg x2)))) w4)))))))))) :
    am_T m_X4_classBy SP 168 Q 2 [some (.ref 38), some (.ref 93), some (.int x2)] [] w :=
  am_T.wp hs (K := am_T m_X4_classBy SP 168 Q) (cuts := [2]) (fun _ _ _ _ h => h) 21
    (⟨am_a hf rfl, ⟨fun c1 => ⟨(hf).1, ((h).1 c1)⟩, fun c1 => ⟨fun c2 => ⟨(hf).1, ((((h).2 c1)).1 c2)⟩, fun c2 => ⟨am_a hf rfl, Or.inl ⟨41, (hf).2 38 4 41 rfl, ⟨6, am_a hf rfl, (((((h).2 c1)).2 c2)).1, ⟨Nat.le_of_ble_eq_true rfl, am_a hf rfl, hs _ _ _ _ _ (fun y3 w4 q5 e6 => am_ci (q5).2 fun z7 h8 => ⟨fun c9 => ((h8).1 c9), fun c9 => ⟨am_a (q5).1 rfl, Or.inl ⟨40, ((q5).1).2 38 3 40 rfl, ⟨6, am_a (q5).1 rfl, (((h8).2 c9)).1, ⟨((q5).1).1, (((h8).2 c9)).2⟩⟩⟩⟩⟩) ((((((h).2 c1)).2 c2)).2)⟩⟩⟩⟩⟩⟩⟩)

set_option maxRecDepth 100000 in
theorem v_X4_classBy_44_e {SP : am_S} (hs : am_Smono SP) {Q : Option Value → am_W → Prop} {w : am_W} (hf : am_fin w) 
    (h : am_T m_X4_classBy SP 168 Q 2 [some (.ref 44), some (.ref 93), some (.int 0)] [] w) :
    am_T m_X4_classBy SP 168 Q 0 [some (.ref 44), some (.ref 93), none] [] w :=
  am_T.wp hs (K := am_T m_X4_classBy SP 168 Q) (cuts := [2]) (fun _ _ _ _ h => h) 4
    (h)

set_option maxRecDepth 100000 in
theorem v_X4_classBy_44_2 {SP : am_S} (hs : am_Smono SP) {Q : Option Value → am_W → Prop} {w : am_W} (hf : am_fin w) (x2 : Int32)
    (h : (((am_gi w 44 5) ≤ x2 → Q (some (.int 0)) w) ∧ (¬ (am_gi w 44 5) ≤ x2 → ((6 ≤ x2 → Q (some (.int 0)) w) ∧ (¬ 6 ≤ x2 → (vp_in x2 6 ∧ SP 42 [(.ref 44), (.int (am_gi w 47 (Int32.toNatClampNeg x2))), (.ref 93)] w (fun y3 w4 => am_fin w4 ∧ ∃ z7 : Int32, y3 = some (.int z7) ∧ ((z7 = 0 → am_T m_X4_classBy SP 168 Q 2 [some (.ref 44), some (.ref 93), some (.int (x2 + 1))] [] w4) ∧ (¬ z7 = 0 → (vp_in x2 6 ∧ Q (some (.int (am_gi w4 46 (Int32.toNatClampNeg x2)))) w4)))))))))) :
    am_T m_X4_classBy SP 168 Q 2 [some (.ref 44), some (.ref 93), some (.int x2)] [] w :=
  am_T.wp hs (K := am_T m_X4_classBy SP 168 Q) (cuts := [2]) (fun _ _ _ _ h => h) 21
    (⟨am_a hf rfl, ⟨fun c1 => ⟨(hf).1, ((h).1 c1)⟩, fun c1 => ⟨fun c2 => ⟨(hf).1, ((((h).2 c1)).1 c2)⟩, fun c2 => ⟨am_a hf rfl, Or.inl ⟨47, (hf).2 44 4 47 rfl, ⟨6, am_a hf rfl, (((((h).2 c1)).2 c2)).1, ⟨Nat.le_of_ble_eq_true rfl, am_a hf rfl, hs _ _ _ _ _ (fun y3 w4 q5 e6 => am_ci (q5).2 fun z7 h8 => ⟨fun c9 => ((h8).1 c9), fun c9 => ⟨am_a (q5).1 rfl, Or.inl ⟨46, ((q5).1).2 44 3 46 rfl, ⟨6, am_a (q5).1 rfl, (((h8).2 c9)).1, ⟨((q5).1).1, (((h8).2 c9)).2⟩⟩⟩⟩⟩) ((((((h).2 c1)).2 c2)).2)⟩⟩⟩⟩⟩⟩⟩)

set_option maxRecDepth 100000 in
theorem v_X4_classBy_50_e {SP : am_S} (hs : am_Smono SP) {Q : Option Value → am_W → Prop} {w : am_W} (hf : am_fin w) 
    (h : am_T m_X4_classBy SP 168 Q 2 [some (.ref 50), some (.ref 93), some (.int 0)] [] w) :
    am_T m_X4_classBy SP 168 Q 0 [some (.ref 50), some (.ref 93), none] [] w :=
  am_T.wp hs (K := am_T m_X4_classBy SP 168 Q) (cuts := [2]) (fun _ _ _ _ h => h) 4
    (h)

set_option maxRecDepth 100000 in
theorem v_X4_classBy_50_2 {SP : am_S} (hs : am_Smono SP) {Q : Option Value → am_W → Prop} {w : am_W} (hf : am_fin w) (x2 : Int32)
    (h : (((am_gi w 50 5) ≤ x2 → Q (some (.int 0)) w) ∧ (¬ (am_gi w 50 5) ≤ x2 → ((6 ≤ x2 → Q (some (.int 0)) w) ∧ (¬ 6 ≤ x2 → (vp_in x2 6 ∧ SP 42 [(.ref 50), (.int (am_gi w 53 (Int32.toNatClampNeg x2))), (.ref 93)] w (fun y3 w4 => am_fin w4 ∧ ∃ z7 : Int32, y3 = some (.int z7) ∧ ((z7 = 0 → am_T m_X4_classBy SP 168 Q 2 [some (.ref 50), some (.ref 93), some (.int (x2 + 1))] [] w4) ∧ (¬ z7 = 0 → (vp_in x2 6 ∧ Q (some (.int (am_gi w4 52 (Int32.toNatClampNeg x2)))) w4)))))))))) :
    am_T m_X4_classBy SP 168 Q 2 [some (.ref 50), some (.ref 93), some (.int x2)] [] w :=
  am_T.wp hs (K := am_T m_X4_classBy SP 168 Q) (cuts := [2]) (fun _ _ _ _ h => h) 21
    (⟨am_a hf rfl, ⟨fun c1 => ⟨(hf).1, ((h).1 c1)⟩, fun c1 => ⟨fun c2 => ⟨(hf).1, ((((h).2 c1)).1 c2)⟩, fun c2 => ⟨am_a hf rfl, Or.inl ⟨53, (hf).2 50 4 53 rfl, ⟨6, am_a hf rfl, (((((h).2 c1)).2 c2)).1, ⟨Nat.le_of_ble_eq_true rfl, am_a hf rfl, hs _ _ _ _ _ (fun y3 w4 q5 e6 => am_ci (q5).2 fun z7 h8 => ⟨fun c9 => ((h8).1 c9), fun c9 => ⟨am_a (q5).1 rfl, Or.inl ⟨52, ((q5).1).2 50 3 52 rfl, ⟨6, am_a (q5).1 rfl, (((h8).2 c9)).1, ⟨((q5).1).1, (((h8).2 c9)).2⟩⟩⟩⟩⟩) ((((((h).2 c1)).2 c2)).2)⟩⟩⟩⟩⟩⟩⟩)

set_option maxRecDepth 100000 in
theorem v_X4_classBy_56_e {SP : am_S} (hs : am_Smono SP) {Q : Option Value → am_W → Prop} {w : am_W} (hf : am_fin w) 
    (h : am_T m_X4_classBy SP 168 Q 2 [some (.ref 56), some (.ref 93), some (.int 0)] [] w) :
    am_T m_X4_classBy SP 168 Q 0 [some (.ref 56), some (.ref 93), none] [] w :=
  am_T.wp hs (K := am_T m_X4_classBy SP 168 Q) (cuts := [2]) (fun _ _ _ _ h => h) 4
    (h)

set_option maxRecDepth 100000 in
theorem v_X4_classBy_56_2 {SP : am_S} (hs : am_Smono SP) {Q : Option Value → am_W → Prop} {w : am_W} (hf : am_fin w) (x2 : Int32)
    (h : (((am_gi w 56 5) ≤ x2 → Q (some (.int 0)) w) ∧ (¬ (am_gi w 56 5) ≤ x2 → ((6 ≤ x2 → Q (some (.int 0)) w) ∧ (¬ 6 ≤ x2 → (vp_in x2 6 ∧ SP 42 [(.ref 56), (.int (am_gi w 59 (Int32.toNatClampNeg x2))), (.ref 93)] w (fun y3 w4 => am_fin w4 ∧ ∃ z7 : Int32, y3 = some (.int z7) ∧ ((z7 = 0 → am_T m_X4_classBy SP 168 Q 2 [some (.ref 56), some (.ref 93), some (.int (x2 + 1))] [] w4) ∧ (¬ z7 = 0 → (vp_in x2 6 ∧ Q (some (.int (am_gi w4 58 (Int32.toNatClampNeg x2)))) w4)))))))))) :
    am_T m_X4_classBy SP 168 Q 2 [some (.ref 56), some (.ref 93), some (.int x2)] [] w :=
  am_T.wp hs (K := am_T m_X4_classBy SP 168 Q) (cuts := [2]) (fun _ _ _ _ h => h) 21
    (⟨am_a hf rfl, ⟨fun c1 => ⟨(hf).1, ((h).1 c1)⟩, fun c1 => ⟨fun c2 => ⟨(hf).1, ((((h).2 c1)).1 c2)⟩, fun c2 => ⟨am_a hf rfl, Or.inl ⟨59, (hf).2 56 4 59 rfl, ⟨6, am_a hf rfl, (((((h).2 c1)).2 c2)).1, ⟨Nat.le_of_ble_eq_true rfl, am_a hf rfl, hs _ _ _ _ _ (fun y3 w4 q5 e6 => am_ci (q5).2 fun z7 h8 => ⟨fun c9 => ((h8).1 c9), fun c9 => ⟨am_a (q5).1 rfl, Or.inl ⟨58, ((q5).1).2 56 3 58 rfl, ⟨6, am_a (q5).1 rfl, (((h8).2 c9)).1, ⟨((q5).1).1, (((h8).2 c9)).2⟩⟩⟩⟩⟩) ((((((h).2 c1)).2 c2)).2)⟩⟩⟩⟩⟩⟩⟩)

set_option maxRecDepth 100000 in
theorem v_X4_classBy_62_e {SP : am_S} (hs : am_Smono SP) {Q : Option Value → am_W → Prop} {w : am_W} (hf : am_fin w) 
    (h : am_T m_X4_classBy SP 168 Q 2 [some (.ref 62), some (.ref 93), some (.int 0)] [] w) :
    am_T m_X4_classBy SP 168 Q 0 [some (.ref 62), some (.ref 93), none] [] w :=
  am_T.wp hs (K := am_T m_X4_classBy SP 168 Q) (cuts := [2]) (fun _ _ _ _ h => h) 4
    (h)

set_option maxRecDepth 100000 in
theorem v_X4_classBy_62_2 {SP : am_S} (hs : am_Smono SP) {Q : Option Value → am_W → Prop} {w : am_W} (hf : am_fin w) (x2 : Int32)
    (h : (((am_gi w 62 5) ≤ x2 → Q (some (.int 0)) w) ∧ (¬ (am_gi w 62 5) ≤ x2 → ((6 ≤ x2 → Q (some (.int 0)) w) ∧ (¬ 6 ≤ x2 → (vp_in x2 6 ∧ SP 42 [(.ref 62), (.int (am_gi w 65 (Int32.toNatClampNeg x2))), (.ref 93)] w (fun y3 w4 => am_fin w4 ∧ ∃ z7 : Int32, y3 = some (.int z7) ∧ ((z7 = 0 → am_T m_X4_classBy SP 168 Q 2 [some (.ref 62), some (.ref 93), some (.int (x2 + 1))] [] w4) ∧ (¬ z7 = 0 → (vp_in x2 6 ∧ Q (some (.int (am_gi w4 64 (Int32.toNatClampNeg x2)))) w4)))))))))) :
    am_T m_X4_classBy SP 168 Q 2 [some (.ref 62), some (.ref 93), some (.int x2)] [] w :=
  am_T.wp hs (K := am_T m_X4_classBy SP 168 Q) (cuts := [2]) (fun _ _ _ _ h => h) 21
    (⟨am_a hf rfl, ⟨fun c1 => ⟨(hf).1, ((h).1 c1)⟩, fun c1 => ⟨fun c2 => ⟨(hf).1, ((((h).2 c1)).1 c2)⟩, fun c2 => ⟨am_a hf rfl, Or.inl ⟨65, (hf).2 62 4 65 rfl, ⟨6, am_a hf rfl, (((((h).2 c1)).2 c2)).1, ⟨Nat.le_of_ble_eq_true rfl, am_a hf rfl, hs _ _ _ _ _ (fun y3 w4 q5 e6 => am_ci (q5).2 fun z7 h8 => ⟨fun c9 => ((h8).1 c9), fun c9 => ⟨am_a (q5).1 rfl, Or.inl ⟨64, ((q5).1).2 62 3 64 rfl, ⟨6, am_a (q5).1 rfl, (((h8).2 c9)).1, ⟨((q5).1).1, (((h8).2 c9)).2⟩⟩⟩⟩⟩) ((((((h).2 c1)).2 c2)).2)⟩⟩⟩⟩⟩⟩⟩)

set_option maxRecDepth 100000 in
theorem v_X4_isFree_32_e {SP : am_S} (hs : am_Smono SP) {Q : Option Value → am_W → Prop} {w : am_W} (hf : am_fin w) 
    (h : SP 42 [(.ref 32), (.int (am_gi w 32 10)), (.ref 93)] w (fun y1 w2 => am_fin w2 ∧ ∃ z5 : Int32, y1 = some (.int z5) ∧ ((z5 = 0 ∨ z5 = 1) ∧ Q (some (.int z5)) w2))) :
    am_T m_X4_isFree SP 168 Q 0 [some (.ref 32), some (.ref 93)] [] w :=
  am_T.wp hs (K := am_T m_X4_isFree SP 168 Q) (cuts := []) (fun _ _ _ _ h => h) 7
    (⟨am_a hf rfl, ⟨Nat.le_of_ble_eq_true rfl, am_a hf rfl, hs _ _ _ _ _ (fun y1 w2 q3 e4 => am_ci (q3).2 fun z5 h6 => ⟨((q3).1).1, (h6).1, (h6).2⟩) (h)⟩⟩)

set_option maxRecDepth 100000 in
theorem v_X4_isFree_38_e {SP : am_S} (hs : am_Smono SP) {Q : Option Value → am_W → Prop} {w : am_W} (hf : am_fin w) 
    (h : SP 42 [(.ref 38), (.int (am_gi w 38 10)), (.ref 93)] w (fun y1 w2 => am_fin w2 ∧ ∃ z5 : Int32, y1 = some (.int z5) ∧ ((z5 = 0 ∨ z5 = 1) ∧ Q (some (.int z5)) w2))) :
    am_T m_X4_isFree SP 168 Q 0 [some (.ref 38), some (.ref 93)] [] w :=
  am_T.wp hs (K := am_T m_X4_isFree SP 168 Q) (cuts := []) (fun _ _ _ _ h => h) 7
    (⟨am_a hf rfl, ⟨Nat.le_of_ble_eq_true rfl, am_a hf rfl, hs _ _ _ _ _ (fun y1 w2 q3 e4 => am_ci (q3).2 fun z5 h6 => ⟨((q3).1).1, (h6).1, (h6).2⟩) (h)⟩⟩)

set_option maxRecDepth 100000 in
theorem v_X4_isFree_44_e {SP : am_S} (hs : am_Smono SP) {Q : Option Value → am_W → Prop} {w : am_W} (hf : am_fin w) 
    (h : SP 42 [(.ref 44), (.int (am_gi w 44 10)), (.ref 93)] w (fun y1 w2 => am_fin w2 ∧ ∃ z5 : Int32, y1 = some (.int z5) ∧ ((z5 = 0 ∨ z5 = 1) ∧ Q (some (.int z5)) w2))) :
    am_T m_X4_isFree SP 168 Q 0 [some (.ref 44), some (.ref 93)] [] w :=
  am_T.wp hs (K := am_T m_X4_isFree SP 168 Q) (cuts := []) (fun _ _ _ _ h => h) 7
    (⟨am_a hf rfl, ⟨Nat.le_of_ble_eq_true rfl, am_a hf rfl, hs _ _ _ _ _ (fun y1 w2 q3 e4 => am_ci (q3).2 fun z5 h6 => ⟨((q3).1).1, (h6).1, (h6).2⟩) (h)⟩⟩)

set_option maxRecDepth 100000 in
theorem v_X4_isFree_50_e {SP : am_S} (hs : am_Smono SP) {Q : Option Value → am_W → Prop} {w : am_W} (hf : am_fin w) 
    (h : SP 42 [(.ref 50), (.int (am_gi w 50 10)), (.ref 93)] w (fun y1 w2 => am_fin w2 ∧ ∃ z5 : Int32, y1 = some (.int z5) ∧ ((z5 = 0 ∨ z5 = 1) ∧ Q (some (.int z5)) w2))) :
    am_T m_X4_isFree SP 168 Q 0 [some (.ref 50), some (.ref 93)] [] w :=
  am_T.wp hs (K := am_T m_X4_isFree SP 168 Q) (cuts := []) (fun _ _ _ _ h => h) 7
    (⟨am_a hf rfl, ⟨Nat.le_of_ble_eq_true rfl, am_a hf rfl, hs _ _ _ _ _ (fun y1 w2 q3 e4 => am_ci (q3).2 fun z5 h6 => ⟨((q3).1).1, (h6).1, (h6).2⟩) (h)⟩⟩)

set_option maxRecDepth 100000 in
theorem v_X4_isFree_56_e {SP : am_S} (hs : am_Smono SP) {Q : Option Value → am_W → Prop} {w : am_W} (hf : am_fin w) 
    (h : SP 42 [(.ref 56), (.int (am_gi w 56 10)), (.ref 93)] w (fun y1 w2 => am_fin w2 ∧ ∃ z5 : Int32, y1 = some (.int z5) ∧ ((z5 = 0 ∨ z5 = 1) ∧ Q (some (.int z5)) w2))) :
    am_T m_X4_isFree SP 168 Q 0 [some (.ref 56), some (.ref 93)] [] w :=
  am_T.wp hs (K := am_T m_X4_isFree SP 168 Q) (cuts := []) (fun _ _ _ _ h => h) 7
    (⟨am_a hf rfl, ⟨Nat.le_of_ble_eq_true rfl, am_a hf rfl, hs _ _ _ _ _ (fun y1 w2 q3 e4 => am_ci (q3).2 fun z5 h6 => ⟨((q3).1).1, (h6).1, (h6).2⟩) (h)⟩⟩)

set_option maxRecDepth 100000 in
theorem v_X4_isFree_62_e {SP : am_S} (hs : am_Smono SP) {Q : Option Value → am_W → Prop} {w : am_W} (hf : am_fin w) 
    (h : SP 42 [(.ref 62), (.int (am_gi w 62 10)), (.ref 93)] w (fun y1 w2 => am_fin w2 ∧ ∃ z5 : Int32, y1 = some (.int z5) ∧ ((z5 = 0 ∨ z5 = 1) ∧ Q (some (.int z5)) w2))) :
    am_T m_X4_isFree SP 168 Q 0 [some (.ref 62), some (.ref 93)] [] w :=
  am_T.wp hs (K := am_T m_X4_isFree SP 168 Q) (cuts := []) (fun _ _ _ _ h => h) 7
    (⟨am_a hf rfl, ⟨Nat.le_of_ble_eq_true rfl, am_a hf rfl, hs _ _ _ _ _ (fun y1 w2 q3 e4 => am_ci (q3).2 fun z5 h6 => ⟨((q3).1).1, (h6).1, (h6).2⟩) (h)⟩⟩)

set_option maxRecDepth 100000 in
theorem v_X4_letsOff_32_e {SP : am_S} (hs : am_Smono SP) {Q : Option Value → am_W → Prop} {w : am_W} (hf : am_fin w) 
    (h : SP 42 [(.ref 32), (.int (am_gi w 32 11)), (.ref 93)] w (fun y1 w2 => am_fin w2 ∧ ∃ z5 : Int32, y1 = some (.int z5) ∧ ((z5 = 0 ∨ z5 = 1) ∧ Q (some (.int z5)) w2))) :
    am_T m_X4_letsOff SP 168 Q 0 [some (.ref 32), some (.ref 93)] [] w :=
  am_T.wp hs (K := am_T m_X4_letsOff SP 168 Q) (cuts := []) (fun _ _ _ _ h => h) 7
    (⟨am_a hf rfl, ⟨Nat.le_of_ble_eq_true rfl, am_a hf rfl, hs _ _ _ _ _ (fun y1 w2 q3 e4 => am_ci (q3).2 fun z5 h6 => ⟨((q3).1).1, (h6).1, (h6).2⟩) (h)⟩⟩)

set_option maxRecDepth 100000 in
theorem v_X4_letsOff_38_e {SP : am_S} (hs : am_Smono SP) {Q : Option Value → am_W → Prop} {w : am_W} (hf : am_fin w) 
    (h : SP 42 [(.ref 38), (.int (am_gi w 38 11)), (.ref 93)] w (fun y1 w2 => am_fin w2 ∧ ∃ z5 : Int32, y1 = some (.int z5) ∧ ((z5 = 0 ∨ z5 = 1) ∧ Q (some (.int z5)) w2))) :
    am_T m_X4_letsOff SP 168 Q 0 [some (.ref 38), some (.ref 93)] [] w :=
  am_T.wp hs (K := am_T m_X4_letsOff SP 168 Q) (cuts := []) (fun _ _ _ _ h => h) 7
    (⟨am_a hf rfl, ⟨Nat.le_of_ble_eq_true rfl, am_a hf rfl, hs _ _ _ _ _ (fun y1 w2 q3 e4 => am_ci (q3).2 fun z5 h6 => ⟨((q3).1).1, (h6).1, (h6).2⟩) (h)⟩⟩)

set_option maxRecDepth 100000 in
theorem v_X4_letsOff_44_e {SP : am_S} (hs : am_Smono SP) {Q : Option Value → am_W → Prop} {w : am_W} (hf : am_fin w) 
    (h : SP 42 [(.ref 44), (.int (am_gi w 44 11)), (.ref 93)] w (fun y1 w2 => am_fin w2 ∧ ∃ z5 : Int32, y1 = some (.int z5) ∧ ((z5 = 0 ∨ z5 = 1) ∧ Q (some (.int z5)) w2))) :
    am_T m_X4_letsOff SP 168 Q 0 [some (.ref 44), some (.ref 93)] [] w :=
  am_T.wp hs (K := am_T m_X4_letsOff SP 168 Q) (cuts := []) (fun _ _ _ _ h => h) 7
    (⟨am_a hf rfl, ⟨Nat.le_of_ble_eq_true rfl, am_a hf rfl, hs _ _ _ _ _ (fun y1 w2 q3 e4 => am_ci (q3).2 fun z5 h6 => ⟨((q3).1).1, (h6).1, (h6).2⟩) (h)⟩⟩)

set_option maxRecDepth 100000 in
theorem v_X4_letsOff_50_e {SP : am_S} (hs : am_Smono SP) {Q : Option Value → am_W → Prop} {w : am_W} (hf : am_fin w) 
    (h : SP 42 [(.ref 50), (.int (am_gi w 50 11)), (.ref 93)] w (fun y1 w2 => am_fin w2 ∧ ∃ z5 : Int32, y1 = some (.int z5) ∧ ((z5 = 0 ∨ z5 = 1) ∧ Q (some (.int z5)) w2))) :
    am_T m_X4_letsOff SP 168 Q 0 [some (.ref 50), some (.ref 93)] [] w :=
  am_T.wp hs (K := am_T m_X4_letsOff SP 168 Q) (cuts := []) (fun _ _ _ _ h => h) 7
    (⟨am_a hf rfl, ⟨Nat.le_of_ble_eq_true rfl, am_a hf rfl, hs _ _ _ _ _ (fun y1 w2 q3 e4 => am_ci (q3).2 fun z5 h6 => ⟨((q3).1).1, (h6).1, (h6).2⟩) (h)⟩⟩)

set_option maxRecDepth 100000 in
theorem v_X4_letsOff_56_e {SP : am_S} (hs : am_Smono SP) {Q : Option Value → am_W → Prop} {w : am_W} (hf : am_fin w) 
    (h : SP 42 [(.ref 56), (.int (am_gi w 56 11)), (.ref 93)] w (fun y1 w2 => am_fin w2 ∧ ∃ z5 : Int32, y1 = some (.int z5) ∧ ((z5 = 0 ∨ z5 = 1) ∧ Q (some (.int z5)) w2))) :
    am_T m_X4_letsOff SP 168 Q 0 [some (.ref 56), some (.ref 93)] [] w :=
  am_T.wp hs (K := am_T m_X4_letsOff SP 168 Q) (cuts := []) (fun _ _ _ _ h => h) 7
    (⟨am_a hf rfl, ⟨Nat.le_of_ble_eq_true rfl, am_a hf rfl, hs _ _ _ _ _ (fun y1 w2 q3 e4 => am_ci (q3).2 fun z5 h6 => ⟨((q3).1).1, (h6).1, (h6).2⟩) (h)⟩⟩)

set_option maxRecDepth 100000 in
theorem v_X4_letsOff_62_e {SP : am_S} (hs : am_Smono SP) {Q : Option Value → am_W → Prop} {w : am_W} (hf : am_fin w) 
    (h : SP 42 [(.ref 62), (.int (am_gi w 62 11)), (.ref 93)] w (fun y1 w2 => am_fin w2 ∧ ∃ z5 : Int32, y1 = some (.int z5) ∧ ((z5 = 0 ∨ z5 = 1) ∧ Q (some (.int z5)) w2))) :
    am_T m_X4_letsOff SP 168 Q 0 [some (.ref 62), some (.ref 93)] [] w :=
  am_T.wp hs (K := am_T m_X4_letsOff SP 168 Q) (cuts := []) (fun _ _ _ _ h => h) 7
    (⟨am_a hf rfl, ⟨Nat.le_of_ble_eq_true rfl, am_a hf rfl, hs _ _ _ _ _ (fun y1 w2 q3 e4 => am_ci (q3).2 fun z5 h6 => ⟨((q3).1).1, (h6).1, (h6).2⟩) (h)⟩⟩)

set_option maxRecDepth 100000 in
theorem v_X4_holds_32_e {SP : am_S} (hs : am_Smono SP) {Q : Option Value → am_W → Prop} {w : am_W} (hf : am_fin w) (p1 : Int32)
    (h : ((0 ≤ p1 → am_T m_X4_holds SP 168 Q 11 [some (.ref 32), some (.int p1), some (.ref 93), some (.int 0), some (.int p1), none] [] w) ∧ (¬ 0 ≤ p1 → Q (some (.int 0)) w))) :
    am_T m_X4_holds SP 168 Q 0 [some (.ref 32), some (.int p1), some (.ref 93), none, none, none] [] w :=
  am_T.wp hs (K := am_T m_X4_holds SP 168 Q) (cuts := [11]) (fun _ _ _ _ h => h) 8
    (⟨fun c1 => ((h).1 c1), fun c1 => ⟨(hf).1, Or.inl rfl, ((h).2 c1)⟩⟩)

set_option maxRecDepth 100000 in
theorem v_X4_holds_32_11 {SP : am_S} (hs : am_Smono SP) {Q : Option Value → am_W → Prop} {w : am_W} (hf : am_fin w) (x1 : Int32) (x3 : Int32) (x4 : Int32) (o5 : Option Value)
    (h : (((am_gi w 32 2) ≤ x4 → ((¬ x3 = 1 → Q (some (.int 0)) w) ∧ (x3 = 1 → (vp_in 0 51 ∧ ((¬ (am_gi w 37 (Int32.toNatClampNeg 0)) = 1 → Q (some (.int 0)) w) ∧ ((am_gi w 37 (Int32.toNatClampNeg 0)) = 1 → Q (some (.int 1)) w)))))) ∧ (¬ (am_gi w 32 2) ≤ x4 → (vp_in x4 400 ∧ (((am_gi w 33 (Int32.toNatClampNeg x4)) = (-100) → ((¬ x3 = 1 → Q (some (.int 0)) w) ∧ (x3 = 1 → (vp_in 0 51 ∧ ((¬ (am_gi w 37 (Int32.toNatClampNeg 0)) = 1 → Q (some (.int 0)) w) ∧ ((am_gi w 37 (Int32.toNatClampNeg 0)) = 1 → Q (some (.int 1)) w)))))) ∧ (¬ (am_gi w 33 (Int32.toNatClampNeg x4)) = (-100) → (vp_in x4 400 ∧ SP 43 [(.int (am_gi w 33 (Int32.toNatClampNeg x4)))] w (fun y7 w8 => am_fin w8 ∧ ∃ z11 : Int32, y7 = some (.int z11) ∧ ((z11 = 0 → ((¬ (am_gi w 33 (Int32.toNatClampNeg x4)) = (-114) → ((2 ≤ x3 → (vp_in ((x3 + (-1)) - 1) 51 ∧ (vp_in (x3 + (-1)) 51 ∧ SP 45 [(.int (am_gi w 33 (Int32.toNatClampNeg x4))), (.int (am_gi w8 37 (Int32.toNatClampNeg ((x3 + (-1)) - 1)))), (.int (am_gi w8 37 (Int32.toNatClampNeg (x3 + (-1)))))] w8 (fun y16 w17 => am_fin w17 ∧ ∃ z20 : Int32, y16 = some (.int z20) ∧ (vp_in ((x3 + (-1)) - 1) 51 ∧ ∀ w22 : am_W, w22 = am_si w17 37 (Int32.toNatClampNeg ((x3 + (-1)) - 1)) z20 → am_T m_X4_holds SP 168 Q 11 [some (.ref 32), some (.int x1), some (.ref 93), some (.int (x3 + (-1))), some (.int (x4 + 1)), some (.int (am_gi w 33 (Int32.toNatClampNeg x4)))] [] w22))))) ∧ (¬ 2 ≤ x3 → Q (some (.int 0)) w8))) ∧ ((am_gi w 33 (Int32.toNatClampNeg x4)) = (-114) → ((1 ≤ x3 → (vp_in (x3 - 1) 51 ∧ (vp_in (x3 - 1) 51 ∧ ∀ w24 : am_W, w24 = am_si w8 37 (Int32.toNatClampNeg (x3 - 1)) (1 - (am_gi w8 37 (Int32.toNatClampNeg (x3 - 1)))) → am_T m_X4_holds SP 168 Q 11 [some (.ref 32), some (.int x1), some (.ref 93), some (.int x3), some (.int (x4 + 1)), some (.int (am_gi w 33 (Int32.toNatClampNeg x4)))] [] w24))) ∧ (¬ 1 ≤ x3 → Q (some (.int 0)) w8))))) ∧ (¬ z11 = 0 → ((x3 < (Int32.ofNat 51) → SP 44 [(.int (am_gi w 33 (Int32.toNatClampNeg x4))), (.ref 93)] w8 (fun y26 w27 => am_fin w27 ∧ ∃ z30 : Int32, y26 = some (.int z30) ∧ (vp_in x3 51 ∧ ∀ w32 : am_W, w32 = am_si w27 37 (Int32.toNatClampNeg x3) z30 → am_T m_X4_holds SP 168 Q 11 [some (.ref 32), some (.int x1), some (.ref 93), some (.int (x3 + 1)), some (.int (x4 + 1)), some (.int (am_gi w 33 (Int32.toNatClampNeg x4)))] [] w32))) ∧ (¬ x3 < (Int32.ofNat 51) → Q (some (.int 0)) w8)))))))))))) :
    am_T m_X4_holds SP 168 Q 11 [some (.ref 32), some (.int x1), some (.ref 93), some (.int x3), some (.int x4), o5] [] w :=
  am_T.wp hs (K := am_T m_X4_holds SP 168 Q) (cuts := [11]) (fun _ _ _ _ h => h) 47
    (⟨am_a hf rfl, ⟨fun c1 => ⟨fun c2 => ⟨(hf).1, Or.inl rfl, ((((h).1 c1)).1 c2)⟩, fun c2 => ⟨am_a hf rfl, Or.inl ⟨37, (hf).2 32 12 37 rfl, ⟨51, am_a hf rfl, (((((h).1 c1)).2 c2)).1, ⟨fun c3 => ⟨(hf).1, Or.inl rfl, (((((((h).1 c1)).2 c2)).2).1 c3)⟩, fun c3 => ⟨(hf).1, Or.inr rfl, (((((((h).1 c1)).2 c2)).2).2 c3)⟩⟩⟩⟩⟩⟩, fun c1 => ⟨am_a hf rfl, Or.inl ⟨33, (hf).2 32 1 33 rfl, ⟨400, am_a hf rfl, (((h).2 c1)).1, ⟨fun c4 => ⟨fun c5 => ⟨(hf).1, Or.inl rfl, (((((((h).2 c1)).2).1 c4)).1 c5)⟩, fun c5 => ⟨am_a hf rfl, Or.inl ⟨37, (hf).2 32 12 37 rfl, ⟨51, am_a hf rfl, ((((((((h).2 c1)).2).1 c4)).2 c5)).1, ⟨fun c6 => ⟨(hf).1, Or.inl rfl, ((((((((((h).2 c1)).2).1 c4)).2 c5)).2).1 c6)⟩, fun c6 => ⟨(hf).1, Or.inr rfl, ((((((((((h).2 c1)).2).1 c4)).2 c5)).2).2 c6)⟩⟩⟩⟩⟩⟩, fun c4 => ⟨am_a hf rfl, Or.inl ⟨33, (hf).2 32 1 33 rfl, ⟨400, am_a hf rfl, ((((((h).2 c1)).2).2 c4)).1, ⟨Nat.le_of_ble_eq_true rfl, trivial, hs _ _ _ _ _ (fun y7 w8 q9 e10 => am_ci (q9).2 fun z11 h12 => ⟨fun c13 => ⟨fun c14 => ⟨fun c15 => ⟨am_a (q9).1 rfl, Or.inl ⟨37, ((q9).1).2 32 12 37 rfl, ⟨am_a (q9).1 rfl, Or.inl ⟨37, ((q9).1).2 32 12 37 rfl, ⟨51, am_a (q9).1 rfl, (((((((h12).1 c13)).1 c14)).1 c15)).1, ⟨am_a (q9).1 rfl, Or.inl ⟨37, ((q9).1).2 32 12 37 rfl, ⟨51, am_a (q9).1 rfl, ((((((((h12).1 c13)).1 c14)).1 c15)).2).1, ⟨Nat.le_of_ble_eq_true rfl, trivial, hs _ _ _ _ _ (fun y16 w17 q18 e19 => am_ci (q18).2 fun z20 h21 => ⟨51, am_a (q18).1 rfl, (h21).1, ((h21).2 _ rfl)⟩) (((((((((h12).1 c13)).1 c14)).1 c15)).2).2)⟩⟩⟩⟩⟩⟩⟩⟩⟩, fun c15 => ⟨((q9).1).1, Or.inl rfl, ((((((h12).1 c13)).1 c14)).2 c15)⟩⟩, fun c14 => ⟨fun c23 => ⟨am_a (q9).1 rfl, Or.inl ⟨37, ((q9).1).2 32 12 37 rfl, ⟨am_a (q9).1 rfl, Or.inl ⟨37, ((q9).1).2 32 12 37 rfl, ⟨51, am_a (q9).1 rfl, (((((((h12).1 c13)).2 c14)).1 c23)).1, ⟨51, am_a (q9).1 rfl, ((((((((h12).1 c13)).2 c14)).1 c23)).2).1, (((((((((h12).1 c13)).2 c14)).1 c23)).2).2 _ rfl)⟩⟩⟩⟩⟩⟩, fun c23 => ⟨((q9).1).1, Or.inl rfl, ((((((h12).1 c13)).2 c14)).2 c23)⟩⟩⟩, fun c13 => ⟨am_a (q9).1 rfl, Or.inl ⟨37, ((q9).1).2 32 12 37 rfl, ⟨0, 51, am_a (q9).1 rfl, Nat.le_of_ble_eq_true rfl, ⟨fun c25 => ⟨am_a (q9).1 rfl, Or.inl ⟨37, ((q9).1).2 32 12 37 rfl, ⟨Nat.le_of_ble_eq_true rfl, trivial, hs _ _ _ _ _ (fun y26 w27 q28 e29 => am_ci (q28).2 fun z30 h31 => ⟨51, am_a (q28).1 rfl, (h31).1, ((h31).2 _ rfl)⟩) (((((h12).2 c13)).1 c25))⟩⟩⟩, fun c25 => ⟨((q9).1).1, Or.inl rfl, ((((h12).2 c13)).2 c25)⟩⟩⟩⟩⟩⟩) (((((((h).2 c1)).2).2 c4)).2)⟩⟩⟩⟩⟩⟩⟩⟩⟩⟩)

set_option maxRecDepth 100000 in
theorem v_X4_holds_38_e {SP : am_S} (hs : am_Smono SP) {Q : Option Value → am_W → Prop} {w : am_W} (hf : am_fin w) (p1 : Int32)
    (h : ((0 ≤ p1 → am_T m_X4_holds SP 168 Q 11 [some (.ref 38), some (.int p1), some (.ref 93), some (.int 0), some (.int p1), none] [] w) ∧ (¬ 0 ≤ p1 → Q (some (.int 0)) w))) :
    am_T m_X4_holds SP 168 Q 0 [some (.ref 38), some (.int p1), some (.ref 93), none, none, none] [] w :=
  am_T.wp hs (K := am_T m_X4_holds SP 168 Q) (cuts := [11]) (fun _ _ _ _ h => h) 8
    (⟨fun c1 => ((h).1 c1), fun c1 => ⟨(hf).1, Or.inl rfl, ((h).2 c1)⟩⟩)

set_option maxRecDepth 100000 in
theorem v_X4_holds_38_11 {SP : am_S} (hs : am_Smono SP) {Q : Option Value → am_W → Prop} {w : am_W} (hf : am_fin w) (x1 : Int32) (x3 : Int32) (x4 : Int32) (o5 : Option Value)
    (h : (((am_gi w 38 2) ≤ x4 → ((¬ x3 = 1 → Q (some (.int 0)) w) ∧ (x3 = 1 → (vp_in 0 51 ∧ ((¬ (am_gi w 43 (Int32.toNatClampNeg 0)) = 1 → Q (some (.int 0)) w) ∧ ((am_gi w 43 (Int32.toNatClampNeg 0)) = 1 → Q (some (.int 1)) w)))))) ∧ (¬ (am_gi w 38 2) ≤ x4 → (vp_in x4 400 ∧ (((am_gi w 39 (Int32.toNatClampNeg x4)) = (-100) → ((¬ x3 = 1 → Q (some (.int 0)) w) ∧ (x3 = 1 → (vp_in 0 51 ∧ ((¬ (am_gi w 43 (Int32.toNatClampNeg 0)) = 1 → Q (some (.int 0)) w) ∧ ((am_gi w 43 (Int32.toNatClampNeg 0)) = 1 → Q (some (.int 1)) w)))))) ∧ (¬ (am_gi w 39 (Int32.toNatClampNeg x4)) = (-100) → (vp_in x4 400 ∧ SP 43 [(.int (am_gi w 39 (Int32.toNatClampNeg x4)))] w (fun y7 w8 => am_fin w8 ∧ ∃ z11 : Int32, y7 = some (.int z11) ∧ ((z11 = 0 → ((¬ (am_gi w 39 (Int32.toNatClampNeg x4)) = (-114) → ((2 ≤ x3 → (vp_in ((x3 + (-1)) - 1) 51 ∧ (vp_in (x3 + (-1)) 51 ∧ SP 45 [(.int (am_gi w 39 (Int32.toNatClampNeg x4))), (.int (am_gi w8 43 (Int32.toNatClampNeg ((x3 + (-1)) - 1)))), (.int (am_gi w8 43 (Int32.toNatClampNeg (x3 + (-1)))))] w8 (fun y16 w17 => am_fin w17 ∧ ∃ z20 : Int32, y16 = some (.int z20) ∧ (vp_in ((x3 + (-1)) - 1) 51 ∧ ∀ w22 : am_W, w22 = am_si w17 43 (Int32.toNatClampNeg ((x3 + (-1)) - 1)) z20 → am_T m_X4_holds SP 168 Q 11 [some (.ref 38), some (.int x1), some (.ref 93), some (.int (x3 + (-1))), some (.int (x4 + 1)), some (.int (am_gi w 39 (Int32.toNatClampNeg x4)))] [] w22))))) ∧ (¬ 2 ≤ x3 → Q (some (.int 0)) w8))) ∧ ((am_gi w 39 (Int32.toNatClampNeg x4)) = (-114) → ((1 ≤ x3 → (vp_in (x3 - 1) 51 ∧ (vp_in (x3 - 1) 51 ∧ ∀ w24 : am_W, w24 = am_si w8 43 (Int32.toNatClampNeg (x3 - 1)) (1 - (am_gi w8 43 (Int32.toNatClampNeg (x3 - 1)))) → am_T m_X4_holds SP 168 Q 11 [some (.ref 38), some (.int x1), some (.ref 93), some (.int x3), some (.int (x4 + 1)), some (.int (am_gi w 39 (Int32.toNatClampNeg x4)))] [] w24))) ∧ (¬ 1 ≤ x3 → Q (some (.int 0)) w8))))) ∧ (¬ z11 = 0 → ((x3 < (Int32.ofNat 51) → SP 44 [(.int (am_gi w 39 (Int32.toNatClampNeg x4))), (.ref 93)] w8 (fun y26 w27 => am_fin w27 ∧ ∃ z30 : Int32, y26 = some (.int z30) ∧ (vp_in x3 51 ∧ ∀ w32 : am_W, w32 = am_si w27 43 (Int32.toNatClampNeg x3) z30 → am_T m_X4_holds SP 168 Q 11 [some (.ref 38), some (.int x1), some (.ref 93), some (.int (x3 + 1)), some (.int (x4 + 1)), some (.int (am_gi w 39 (Int32.toNatClampNeg x4)))] [] w32))) ∧ (¬ x3 < (Int32.ofNat 51) → Q (some (.int 0)) w8)))))))))))) :
    am_T m_X4_holds SP 168 Q 11 [some (.ref 38), some (.int x1), some (.ref 93), some (.int x3), some (.int x4), o5] [] w :=
  am_T.wp hs (K := am_T m_X4_holds SP 168 Q) (cuts := [11]) (fun _ _ _ _ h => h) 47
    (⟨am_a hf rfl, ⟨fun c1 => ⟨fun c2 => ⟨(hf).1, Or.inl rfl, ((((h).1 c1)).1 c2)⟩, fun c2 => ⟨am_a hf rfl, Or.inl ⟨43, (hf).2 38 12 43 rfl, ⟨51, am_a hf rfl, (((((h).1 c1)).2 c2)).1, ⟨fun c3 => ⟨(hf).1, Or.inl rfl, (((((((h).1 c1)).2 c2)).2).1 c3)⟩, fun c3 => ⟨(hf).1, Or.inr rfl, (((((((h).1 c1)).2 c2)).2).2 c3)⟩⟩⟩⟩⟩⟩, fun c1 => ⟨am_a hf rfl, Or.inl ⟨39, (hf).2 38 1 39 rfl, ⟨400, am_a hf rfl, (((h).2 c1)).1, ⟨fun c4 => ⟨fun c5 => ⟨(hf).1, Or.inl rfl, (((((((h).2 c1)).2).1 c4)).1 c5)⟩, fun c5 => ⟨am_a hf rfl, Or.inl ⟨43, (hf).2 38 12 43 rfl, ⟨51, am_a hf rfl, ((((((((h).2 c1)).2).1 c4)).2 c5)).1, ⟨fun c6 => ⟨(hf).1, Or.inl rfl, ((((((((((h).2 c1)).2).1 c4)).2 c5)).2).1 c6)⟩, fun c6 => ⟨(hf).1, Or.inr rfl, ((((((((((h).2 c1)).2).1 c4)).2 c5)).2).2 c6)⟩⟩⟩⟩⟩⟩, fun c4 => ⟨am_a hf rfl, Or.inl ⟨39, (hf).2 38 1 39 rfl, ⟨400, am_a hf rfl, ((((((h).2 c1)).2).2 c4)).1, ⟨Nat.le_of_ble_eq_true rfl, trivial, hs _ _ _ _ _ (fun y7 w8 q9 e10 => am_ci (q9).2 fun z11 h12 => ⟨fun c13 => ⟨fun c14 => ⟨fun c15 => ⟨am_a (q9).1 rfl, Or.inl ⟨43, ((q9).1).2 38 12 43 rfl, ⟨am_a (q9).1 rfl, Or.inl ⟨43, ((q9).1).2 38 12 43 rfl, ⟨51, am_a (q9).1 rfl, (((((((h12).1 c13)).1 c14)).1 c15)).1, ⟨am_a (q9).1 rfl, Or.inl ⟨43, ((q9).1).2 38 12 43 rfl, ⟨51, am_a (q9).1 rfl, ((((((((h12).1 c13)).1 c14)).1 c15)).2).1, ⟨Nat.le_of_ble_eq_true rfl, trivial, hs _ _ _ _ _ (fun y16 w17 q18 e19 => am_ci (q18).2 fun z20 h21 => ⟨51, am_a (q18).1 rfl, (h21).1, ((h21).2 _ rfl)⟩) (((((((((h12).1 c13)).1 c14)).1 c15)).2).2)⟩⟩⟩⟩⟩⟩⟩⟩⟩, fun c15 => ⟨((q9).1).1, Or.inl rfl, ((((((h12).1 c13)).1 c14)).2 c15)⟩⟩, fun c14 => ⟨fun c23 => ⟨am_a (q9).1 rfl, Or.inl ⟨43, ((q9).1).2 38 12 43 rfl, ⟨am_a (q9).1 rfl, Or.inl ⟨43, ((q9).1).2 38 12 43 rfl, ⟨51, am_a (q9).1 rfl, (((((((h12).1 c13)).2 c14)).1 c23)).1, ⟨51, am_a (q9).1 rfl, ((((((((h12).1 c13)).2 c14)).1 c23)).2).1, (((((((((h12).1 c13)).2 c14)).1 c23)).2).2 _ rfl)⟩⟩⟩⟩⟩⟩, fun c23 => ⟨((q9).1).1, Or.inl rfl, ((((((h12).1 c13)).2 c14)).2 c23)⟩⟩⟩, fun c13 => ⟨am_a (q9).1 rfl, Or.inl ⟨43, ((q9).1).2 38 12 43 rfl, ⟨0, 51, am_a (q9).1 rfl, Nat.le_of_ble_eq_true rfl, ⟨fun c25 => ⟨am_a (q9).1 rfl, Or.inl ⟨43, ((q9).1).2 38 12 43 rfl, ⟨Nat.le_of_ble_eq_true rfl, trivial, hs _ _ _ _ _ (fun y26 w27 q28 e29 => am_ci (q28).2 fun z30 h31 => ⟨51, am_a (q28).1 rfl, (h31).1, ((h31).2 _ rfl)⟩) (((((h12).2 c13)).1 c25))⟩⟩⟩, fun c25 => ⟨((q9).1).1, Or.inl rfl, ((((h12).2 c13)).2 c25)⟩⟩⟩⟩⟩⟩) (((((((h).2 c1)).2).2 c4)).2)⟩⟩⟩⟩⟩⟩⟩⟩⟩⟩)

set_option maxRecDepth 100000 in
theorem v_X4_holds_44_e {SP : am_S} (hs : am_Smono SP) {Q : Option Value → am_W → Prop} {w : am_W} (hf : am_fin w) (p1 : Int32)
    (h : ((0 ≤ p1 → am_T m_X4_holds SP 168 Q 11 [some (.ref 44), some (.int p1), some (.ref 93), some (.int 0), some (.int p1), none] [] w) ∧ (¬ 0 ≤ p1 → Q (some (.int 0)) w))) :
    am_T m_X4_holds SP 168 Q 0 [some (.ref 44), some (.int p1), some (.ref 93), none, none, none] [] w :=
  am_T.wp hs (K := am_T m_X4_holds SP 168 Q) (cuts := [11]) (fun _ _ _ _ h => h) 8
    (⟨fun c1 => ((h).1 c1), fun c1 => ⟨(hf).1, Or.inl rfl, ((h).2 c1)⟩⟩)

set_option maxRecDepth 100000 in
theorem v_X4_holds_44_11 {SP : am_S} (hs : am_Smono SP) {Q : Option Value → am_W → Prop} {w : am_W} (hf : am_fin w) (x1 : Int32) (x3 : Int32) (x4 : Int32) (o5 : Option Value)
    (h : (((am_gi w 44 2) ≤ x4 → ((¬ x3 = 1 → Q (some (.int 0)) w) ∧ (x3 = 1 → (vp_in 0 51 ∧ ((¬ (am_gi w 49 (Int32.toNatClampNeg 0)) = 1 → Q (some (.int 0)) w) ∧ ((am_gi w 49 (Int32.toNatClampNeg 0)) = 1 → Q (some (.int 1)) w)))))) ∧ (¬ (am_gi w 44 2) ≤ x4 → (vp_in x4 400 ∧ (((am_gi w 45 (Int32.toNatClampNeg x4)) = (-100) → ((¬ x3 = 1 → Q (some (.int 0)) w) ∧ (x3 = 1 → (vp_in 0 51 ∧ ((¬ (am_gi w 49 (Int32.toNatClampNeg 0)) = 1 → Q (some (.int 0)) w) ∧ ((am_gi w 49 (Int32.toNatClampNeg 0)) = 1 → Q (some (.int 1)) w)))))) ∧ (¬ (am_gi w 45 (Int32.toNatClampNeg x4)) = (-100) → (vp_in x4 400 ∧ SP 43 [(.int (am_gi w 45 (Int32.toNatClampNeg x4)))] w (fun y7 w8 => am_fin w8 ∧ ∃ z11 : Int32, y7 = some (.int z11) ∧ ((z11 = 0 → ((¬ (am_gi w 45 (Int32.toNatClampNeg x4)) = (-114) → ((2 ≤ x3 → (vp_in ((x3 + (-1)) - 1) 51 ∧ (vp_in (x3 + (-1)) 51 ∧ SP 45 [(.int (am_gi w 45 (Int32.toNatClampNeg x4))), (.int (am_gi w8 49 (Int32.toNatClampNeg ((x3 + (-1)) - 1)))), (.int (am_gi w8 49 (Int32.toNatClampNeg (x3 + (-1)))))] w8 (fun y16 w17 => am_fin w17 ∧ ∃ z20 : Int32, y16 = some (.int z20) ∧ (vp_in ((x3 + (-1)) - 1) 51 ∧ ∀ w22 : am_W, w22 = am_si w17 49 (Int32.toNatClampNeg ((x3 + (-1)) - 1)) z20 → am_T m_X4_holds SP 168 Q 11 [some (.ref 44), some (.int x1), some (.ref 93), some (.int (x3 + (-1))), some (.int (x4 + 1)), some (.int (am_gi w 45 (Int32.toNatClampNeg x4)))] [] w22))))) ∧ (¬ 2 ≤ x3 → Q (some (.int 0)) w8))) ∧ ((am_gi w 45 (Int32.toNatClampNeg x4)) = (-114) → ((1 ≤ x3 → (vp_in (x3 - 1) 51 ∧ (vp_in (x3 - 1) 51 ∧ ∀ w24 : am_W, w24 = am_si w8 49 (Int32.toNatClampNeg (x3 - 1)) (1 - (am_gi w8 49 (Int32.toNatClampNeg (x3 - 1)))) → am_T m_X4_holds SP 168 Q 11 [some (.ref 44), some (.int x1), some (.ref 93), some (.int x3), some (.int (x4 + 1)), some (.int (am_gi w 45 (Int32.toNatClampNeg x4)))] [] w24))) ∧ (¬ 1 ≤ x3 → Q (some (.int 0)) w8))))) ∧ (¬ z11 = 0 → ((x3 < (Int32.ofNat 51) → SP 44 [(.int (am_gi w 45 (Int32.toNatClampNeg x4))), (.ref 93)] w8 (fun y26 w27 => am_fin w27 ∧ ∃ z30 : Int32, y26 = some (.int z30) ∧ (vp_in x3 51 ∧ ∀ w32 : am_W, w32 = am_si w27 49 (Int32.toNatClampNeg x3) z30 → am_T m_X4_holds SP 168 Q 11 [some (.ref 44), some (.int x1), some (.ref 93), some (.int (x3 + 1)), some (.int (x4 + 1)), some (.int (am_gi w 45 (Int32.toNatClampNeg x4)))] [] w32))) ∧ (¬ x3 < (Int32.ofNat 51) → Q (some (.int 0)) w8)))))))))))) :
    am_T m_X4_holds SP 168 Q 11 [some (.ref 44), some (.int x1), some (.ref 93), some (.int x3), some (.int x4), o5] [] w :=
  am_T.wp hs (K := am_T m_X4_holds SP 168 Q) (cuts := [11]) (fun _ _ _ _ h => h) 47
    (⟨am_a hf rfl, ⟨fun c1 => ⟨fun c2 => ⟨(hf).1, Or.inl rfl, ((((h).1 c1)).1 c2)⟩, fun c2 => ⟨am_a hf rfl, Or.inl ⟨49, (hf).2 44 12 49 rfl, ⟨51, am_a hf rfl, (((((h).1 c1)).2 c2)).1, ⟨fun c3 => ⟨(hf).1, Or.inl rfl, (((((((h).1 c1)).2 c2)).2).1 c3)⟩, fun c3 => ⟨(hf).1, Or.inr rfl, (((((((h).1 c1)).2 c2)).2).2 c3)⟩⟩⟩⟩⟩⟩, fun c1 => ⟨am_a hf rfl, Or.inl ⟨45, (hf).2 44 1 45 rfl, ⟨400, am_a hf rfl, (((h).2 c1)).1, ⟨fun c4 => ⟨fun c5 => ⟨(hf).1, Or.inl rfl, (((((((h).2 c1)).2).1 c4)).1 c5)⟩, fun c5 => ⟨am_a hf rfl, Or.inl ⟨49, (hf).2 44 12 49 rfl, ⟨51, am_a hf rfl, ((((((((h).2 c1)).2).1 c4)).2 c5)).1, ⟨fun c6 => ⟨(hf).1, Or.inl rfl, ((((((((((h).2 c1)).2).1 c4)).2 c5)).2).1 c6)⟩, fun c6 => ⟨(hf).1, Or.inr rfl, ((((((((((h).2 c1)).2).1 c4)).2 c5)).2).2 c6)⟩⟩⟩⟩⟩⟩, fun c4 => ⟨am_a hf rfl, Or.inl ⟨45, (hf).2 44 1 45 rfl, ⟨400, am_a hf rfl, ((((((h).2 c1)).2).2 c4)).1, ⟨Nat.le_of_ble_eq_true rfl, trivial, hs _ _ _ _ _ (fun y7 w8 q9 e10 => am_ci (q9).2 fun z11 h12 => ⟨fun c13 => ⟨fun c14 => ⟨fun c15 => ⟨am_a (q9).1 rfl, Or.inl ⟨49, ((q9).1).2 44 12 49 rfl, ⟨am_a (q9).1 rfl, Or.inl ⟨49, ((q9).1).2 44 12 49 rfl, ⟨51, am_a (q9).1 rfl, (((((((h12).1 c13)).1 c14)).1 c15)).1, ⟨am_a (q9).1 rfl, Or.inl ⟨49, ((q9).1).2 44 12 49 rfl, ⟨51, am_a (q9).1 rfl, ((((((((h12).1 c13)).1 c14)).1 c15)).2).1, ⟨Nat.le_of_ble_eq_true rfl, trivial, hs _ _ _ _ _ (fun y16 w17 q18 e19 => am_ci (q18).2 fun z20 h21 => ⟨51, am_a (q18).1 rfl, (h21).1, ((h21).2 _ rfl)⟩) (((((((((h12).1 c13)).1 c14)).1 c15)).2).2)⟩⟩⟩⟩⟩⟩⟩⟩⟩, fun c15 => ⟨((q9).1).1, Or.inl rfl, ((((((h12).1 c13)).1 c14)).2 c15)⟩⟩, fun c14 => ⟨fun c23 => ⟨am_a (q9).1 rfl, Or.inl ⟨49, ((q9).1).2 44 12 49 rfl, ⟨am_a (q9).1 rfl, Or.inl ⟨49, ((q9).1).2 44 12 49 rfl, ⟨51, am_a (q9).1 rfl, (((((((h12).1 c13)).2 c14)).1 c23)).1, ⟨51, am_a (q9).1 rfl, ((((((((h12).1 c13)).2 c14)).1 c23)).2).1, (((((((((h12).1 c13)).2 c14)).1 c23)).2).2 _ rfl)⟩⟩⟩⟩⟩⟩, fun c23 => ⟨((q9).1).1, Or.inl rfl, ((((((h12).1 c13)).2 c14)).2 c23)⟩⟩⟩, fun c13 => ⟨am_a (q9).1 rfl, Or.inl ⟨49, ((q9).1).2 44 12 49 rfl, ⟨0, 51, am_a (q9).1 rfl, Nat.le_of_ble_eq_true rfl, ⟨fun c25 => ⟨am_a (q9).1 rfl, Or.inl ⟨49, ((q9).1).2 44 12 49 rfl, ⟨Nat.le_of_ble_eq_true rfl, trivial, hs _ _ _ _ _ (fun y26 w27 q28 e29 => am_ci (q28).2 fun z30 h31 => ⟨51, am_a (q28).1 rfl, (h31).1, ((h31).2 _ rfl)⟩) (((((h12).2 c13)).1 c25))⟩⟩⟩, fun c25 => ⟨((q9).1).1, Or.inl rfl, ((((h12).2 c13)).2 c25)⟩⟩⟩⟩⟩⟩) (((((((h).2 c1)).2).2 c4)).2)⟩⟩⟩⟩⟩⟩⟩⟩⟩⟩)

set_option maxRecDepth 100000 in
theorem v_X4_holds_50_e {SP : am_S} (hs : am_Smono SP) {Q : Option Value → am_W → Prop} {w : am_W} (hf : am_fin w) (p1 : Int32)
    (h : ((0 ≤ p1 → am_T m_X4_holds SP 168 Q 11 [some (.ref 50), some (.int p1), some (.ref 93), some (.int 0), some (.int p1), none] [] w) ∧ (¬ 0 ≤ p1 → Q (some (.int 0)) w))) :
    am_T m_X4_holds SP 168 Q 0 [some (.ref 50), some (.int p1), some (.ref 93), none, none, none] [] w :=
  am_T.wp hs (K := am_T m_X4_holds SP 168 Q) (cuts := [11]) (fun _ _ _ _ h => h) 8
    (⟨fun c1 => ((h).1 c1), fun c1 => ⟨(hf).1, Or.inl rfl, ((h).2 c1)⟩⟩)

set_option maxRecDepth 100000 in
theorem v_X4_holds_50_11 {SP : am_S} (hs : am_Smono SP) {Q : Option Value → am_W → Prop} {w : am_W} (hf : am_fin w) (x1 : Int32) (x3 : Int32) (x4 : Int32) (o5 : Option Value)
    (h : (((am_gi w 50 2) ≤ x4 → ((¬ x3 = 1 → Q (some (.int 0)) w) ∧ (x3 = 1 → (vp_in 0 51 ∧ ((¬ (am_gi w 55 (Int32.toNatClampNeg 0)) = 1 → Q (some (.int 0)) w) ∧ ((am_gi w 55 (Int32.toNatClampNeg 0)) = 1 → Q (some (.int 1)) w)))))) ∧ (¬ (am_gi w 50 2) ≤ x4 → (vp_in x4 400 ∧ (((am_gi w 51 (Int32.toNatClampNeg x4)) = (-100) → ((¬ x3 = 1 → Q (some (.int 0)) w) ∧ (x3 = 1 → (vp_in 0 51 ∧ ((¬ (am_gi w 55 (Int32.toNatClampNeg 0)) = 1 → Q (some (.int 0)) w) ∧ ((am_gi w 55 (Int32.toNatClampNeg 0)) = 1 → Q (some (.int 1)) w)))))) ∧ (¬ (am_gi w 51 (Int32.toNatClampNeg x4)) = (-100) → (vp_in x4 400 ∧ SP 43 [(.int (am_gi w 51 (Int32.toNatClampNeg x4)))] w (fun y7 w8 => am_fin w8 ∧ ∃ z11 : Int32, y7 = some (.int z11) ∧ ((z11 = 0 → ((¬ (am_gi w 51 (Int32.toNatClampNeg x4)) = (-114) → ((2 ≤ x3 → (vp_in ((x3 + (-1)) - 1) 51 ∧ (vp_in (x3 + (-1)) 51 ∧ SP 45 [(.int (am_gi w 51 (Int32.toNatClampNeg x4))), (.int (am_gi w8 55 (Int32.toNatClampNeg ((x3 + (-1)) - 1)))), (.int (am_gi w8 55 (Int32.toNatClampNeg (x3 + (-1)))))] w8 (fun y16 w17 => am_fin w17 ∧ ∃ z20 : Int32, y16 = some (.int z20) ∧ (vp_in ((x3 + (-1)) - 1) 51 ∧ ∀ w22 : am_W, w22 = am_si w17 55 (Int32.toNatClampNeg ((x3 + (-1)) - 1)) z20 → am_T m_X4_holds SP 168 Q 11 [some (.ref 50), some (.int x1), some (.ref 93), some (.int (x3 + (-1))), some (.int (x4 + 1)), some (.int (am_gi w 51 (Int32.toNatClampNeg x4)))] [] w22))))) ∧ (¬ 2 ≤ x3 → Q (some (.int 0)) w8))) ∧ ((am_gi w 51 (Int32.toNatClampNeg x4)) = (-114) → ((1 ≤ x3 → (vp_in (x3 - 1) 51 ∧ (vp_in (x3 - 1) 51 ∧ ∀ w24 : am_W, w24 = am_si w8 55 (Int32.toNatClampNeg (x3 - 1)) (1 - (am_gi w8 55 (Int32.toNatClampNeg (x3 - 1)))) → am_T m_X4_holds SP 168 Q 11 [some (.ref 50), some (.int x1), some (.ref 93), some (.int x3), some (.int (x4 + 1)), some (.int (am_gi w 51 (Int32.toNatClampNeg x4)))] [] w24))) ∧ (¬ 1 ≤ x3 → Q (some (.int 0)) w8))))) ∧ (¬ z11 = 0 → ((x3 < (Int32.ofNat 51) → SP 44 [(.int (am_gi w 51 (Int32.toNatClampNeg x4))), (.ref 93)] w8 (fun y26 w27 => am_fin w27 ∧ ∃ z30 : Int32, y26 = some (.int z30) ∧ (vp_in x3 51 ∧ ∀ w32 : am_W, w32 = am_si w27 55 (Int32.toNatClampNeg x3) z30 → am_T m_X4_holds SP 168 Q 11 [some (.ref 50), some (.int x1), some (.ref 93), some (.int (x3 + 1)), some (.int (x4 + 1)), some (.int (am_gi w 51 (Int32.toNatClampNeg x4)))] [] w32))) ∧ (¬ x3 < (Int32.ofNat 51) → Q (some (.int 0)) w8)))))))))))) :
    am_T m_X4_holds SP 168 Q 11 [some (.ref 50), some (.int x1), some (.ref 93), some (.int x3), some (.int x4), o5] [] w :=
  am_T.wp hs (K := am_T m_X4_holds SP 168 Q) (cuts := [11]) (fun _ _ _ _ h => h) 47
    (⟨am_a hf rfl, ⟨fun c1 => ⟨fun c2 => ⟨(hf).1, Or.inl rfl, ((((h).1 c1)).1 c2)⟩, fun c2 => ⟨am_a hf rfl, Or.inl ⟨55, (hf).2 50 12 55 rfl, ⟨51, am_a hf rfl, (((((h).1 c1)).2 c2)).1, ⟨fun c3 => ⟨(hf).1, Or.inl rfl, (((((((h).1 c1)).2 c2)).2).1 c3)⟩, fun c3 => ⟨(hf).1, Or.inr rfl, (((((((h).1 c1)).2 c2)).2).2 c3)⟩⟩⟩⟩⟩⟩, fun c1 => ⟨am_a hf rfl, Or.inl ⟨51, (hf).2 50 1 51 rfl, ⟨400, am_a hf rfl, (((h).2 c1)).1, ⟨fun c4 => ⟨fun c5 => ⟨(hf).1, Or.inl rfl, (((((((h).2 c1)).2).1 c4)).1 c5)⟩, fun c5 => ⟨am_a hf rfl, Or.inl ⟨55, (hf).2 50 12 55 rfl, ⟨51, am_a hf rfl, ((((((((h).2 c1)).2).1 c4)).2 c5)).1, ⟨fun c6 => ⟨(hf).1, Or.inl rfl, ((((((((((h).2 c1)).2).1 c4)).2 c5)).2).1 c6)⟩, fun c6 => ⟨(hf).1, Or.inr rfl, ((((((((((h).2 c1)).2).1 c4)).2 c5)).2).2 c6)⟩⟩⟩⟩⟩⟩, fun c4 => ⟨am_a hf rfl, Or.inl ⟨51, (hf).2 50 1 51 rfl, ⟨400, am_a hf rfl, ((((((h).2 c1)).2).2 c4)).1, ⟨Nat.le_of_ble_eq_true rfl, trivial, hs _ _ _ _ _ (fun y7 w8 q9 e10 => am_ci (q9).2 fun z11 h12 => ⟨fun c13 => ⟨fun c14 => ⟨fun c15 => ⟨am_a (q9).1 rfl, Or.inl ⟨55, ((q9).1).2 50 12 55 rfl, ⟨am_a (q9).1 rfl, Or.inl ⟨55, ((q9).1).2 50 12 55 rfl, ⟨51, am_a (q9).1 rfl, (((((((h12).1 c13)).1 c14)).1 c15)).1, ⟨am_a (q9).1 rfl, Or.inl ⟨55, ((q9).1).2 50 12 55 rfl, ⟨51, am_a (q9).1 rfl, ((((((((h12).1 c13)).1 c14)).1 c15)).2).1, ⟨Nat.le_of_ble_eq_true rfl, trivial, hs _ _ _ _ _ (fun y16 w17 q18 e19 => am_ci (q18).2 fun z20 h21 => ⟨51, am_a (q18).1 rfl, (h21).1, ((h21).2 _ rfl)⟩) (((((((((h12).1 c13)).1 c14)).1 c15)).2).2)⟩⟩⟩⟩⟩⟩⟩⟩⟩, fun c15 => ⟨((q9).1).1, Or.inl rfl, ((((((h12).1 c13)).1 c14)).2 c15)⟩⟩, fun c14 => ⟨fun c23 => ⟨am_a (q9).1 rfl, Or.inl ⟨55, ((q9).1).2 50 12 55 rfl, ⟨am_a (q9).1 rfl, Or.inl ⟨55, ((q9).1).2 50 12 55 rfl, ⟨51, am_a (q9).1 rfl, (((((((h12).1 c13)).2 c14)).1 c23)).1, ⟨51, am_a (q9).1 rfl, ((((((((h12).1 c13)).2 c14)).1 c23)).2).1, (((((((((h12).1 c13)).2 c14)).1 c23)).2).2 _ rfl)⟩⟩⟩⟩⟩⟩, fun c23 => ⟨((q9).1).1, Or.inl rfl, ((((((h12).1 c13)).2 c14)).2 c23)⟩⟩⟩, fun c13 => ⟨am_a (q9).1 rfl, Or.inl ⟨55, ((q9).1).2 50 12 55 rfl, ⟨0, 51, am_a (q9).1 rfl, Nat.le_of_ble_eq_true rfl, ⟨fun c25 => ⟨am_a (q9).1 rfl, Or.inl ⟨55, ((q9).1).2 50 12 55 rfl, ⟨Nat.le_of_ble_eq_true rfl, trivial, hs _ _ _ _ _ (fun y26 w27 q28 e29 => am_ci (q28).2 fun z30 h31 => ⟨51, am_a (q28).1 rfl, (h31).1, ((h31).2 _ rfl)⟩) (((((h12).2 c13)).1 c25))⟩⟩⟩, fun c25 => ⟨((q9).1).1, Or.inl rfl, ((((h12).2 c13)).2 c25)⟩⟩⟩⟩⟩⟩) (((((((h).2 c1)).2).2 c4)).2)⟩⟩⟩⟩⟩⟩⟩⟩⟩⟩)

set_option maxRecDepth 100000 in
theorem v_X4_holds_56_e {SP : am_S} (hs : am_Smono SP) {Q : Option Value → am_W → Prop} {w : am_W} (hf : am_fin w) (p1 : Int32)
    (h : ((0 ≤ p1 → am_T m_X4_holds SP 168 Q 11 [some (.ref 56), some (.int p1), some (.ref 93), some (.int 0), some (.int p1), none] [] w) ∧ (¬ 0 ≤ p1 → Q (some (.int 0)) w))) :
    am_T m_X4_holds SP 168 Q 0 [some (.ref 56), some (.int p1), some (.ref 93), none, none, none] [] w :=
  am_T.wp hs (K := am_T m_X4_holds SP 168 Q) (cuts := [11]) (fun _ _ _ _ h => h) 8
    (⟨fun c1 => ((h).1 c1), fun c1 => ⟨(hf).1, Or.inl rfl, ((h).2 c1)⟩⟩)

set_option maxRecDepth 100000 in
theorem v_X4_holds_56_11 {SP : am_S} (hs : am_Smono SP) {Q : Option Value → am_W → Prop} {w : am_W} (hf : am_fin w) (x1 : Int32) (x3 : Int32) (x4 : Int32) (o5 : Option Value)
    (h : (((am_gi w 56 2) ≤ x4 → ((¬ x3 = 1 → Q (some (.int 0)) w) ∧ (x3 = 1 → (vp_in 0 51 ∧ ((¬ (am_gi w 61 (Int32.toNatClampNeg 0)) = 1 → Q (some (.int 0)) w) ∧ ((am_gi w 61 (Int32.toNatClampNeg 0)) = 1 → Q (some (.int 1)) w)))))) ∧ (¬ (am_gi w 56 2) ≤ x4 → (vp_in x4 400 ∧ (((am_gi w 57 (Int32.toNatClampNeg x4)) = (-100) → ((¬ x3 = 1 → Q (some (.int 0)) w) ∧ (x3 = 1 → (vp_in 0 51 ∧ ((¬ (am_gi w 61 (Int32.toNatClampNeg 0)) = 1 → Q (some (.int 0)) w) ∧ ((am_gi w 61 (Int32.toNatClampNeg 0)) = 1 → Q (some (.int 1)) w)))))) ∧ (¬ (am_gi w 57 (Int32.toNatClampNeg x4)) = (-100) → (vp_in x4 400 ∧ SP 43 [(.int (am_gi w 57 (Int32.toNatClampNeg x4)))] w (fun y7 w8 => am_fin w8 ∧ ∃ z11 : Int32, y7 = some (.int z11) ∧ ((z11 = 0 → ((¬ (am_gi w 57 (Int32.toNatClampNeg x4)) = (-114) → ((2 ≤ x3 → (vp_in ((x3 + (-1)) - 1) 51 ∧ (vp_in (x3 + (-1)) 51 ∧ SP 45 [(.int (am_gi w 57 (Int32.toNatClampNeg x4))), (.int (am_gi w8 61 (Int32.toNatClampNeg ((x3 + (-1)) - 1)))), (.int (am_gi w8 61 (Int32.toNatClampNeg (x3 + (-1)))))] w8 (fun y16 w17 => am_fin w17 ∧ ∃ z20 : Int32, y16 = some (.int z20) ∧ (vp_in ((x3 + (-1)) - 1) 51 ∧ ∀ w22 : am_W, w22 = am_si w17 61 (Int32.toNatClampNeg ((x3 + (-1)) - 1)) z20 → am_T m_X4_holds SP 168 Q 11 [some (.ref 56), some (.int x1), some (.ref 93), some (.int (x3 + (-1))), some (.int (x4 + 1)), some (.int (am_gi w 57 (Int32.toNatClampNeg x4)))] [] w22))))) ∧ (¬ 2 ≤ x3 → Q (some (.int 0)) w8))) ∧ ((am_gi w 57 (Int32.toNatClampNeg x4)) = (-114) → ((1 ≤ x3 → (vp_in (x3 - 1) 51 ∧ (vp_in (x3 - 1) 51 ∧ ∀ w24 : am_W, w24 = am_si w8 61 (Int32.toNatClampNeg (x3 - 1)) (1 - (am_gi w8 61 (Int32.toNatClampNeg (x3 - 1)))) → am_T m_X4_holds SP 168 Q 11 [some (.ref 56), some (.int x1), some (.ref 93), some (.int x3), some (.int (x4 + 1)), some (.int (am_gi w 57 (Int32.toNatClampNeg x4)))] [] w24))) ∧ (¬ 1 ≤ x3 → Q (some (.int 0)) w8))))) ∧ (¬ z11 = 0 → ((x3 < (Int32.ofNat 51) → SP 44 [(.int (am_gi w 57 (Int32.toNatClampNeg x4))), (.ref 93)] w8 (fun y26 w27 => am_fin w27 ∧ ∃ z30 : Int32, y26 = some (.int z30) ∧ (vp_in x3 51 ∧ ∀ w32 : am_W, w32 = am_si w27 61 (Int32.toNatClampNeg x3) z30 → am_T m_X4_holds SP 168 Q 11 [some (.ref 56), some (.int x1), some (.ref 93), some (.int (x3 + 1)), some (.int (x4 + 1)), some (.int (am_gi w 57 (Int32.toNatClampNeg x4)))] [] w32))) ∧ (¬ x3 < (Int32.ofNat 51) → Q (some (.int 0)) w8)))))))))))) :
    am_T m_X4_holds SP 168 Q 11 [some (.ref 56), some (.int x1), some (.ref 93), some (.int x3), some (.int x4), o5] [] w :=
  am_T.wp hs (K := am_T m_X4_holds SP 168 Q) (cuts := [11]) (fun _ _ _ _ h => h) 47
    (⟨am_a hf rfl, ⟨fun c1 => ⟨fun c2 => ⟨(hf).1, Or.inl rfl, ((((h).1 c1)).1 c2)⟩, fun c2 => ⟨am_a hf rfl, Or.inl ⟨61, (hf).2 56 12 61 rfl, ⟨51, am_a hf rfl, (((((h).1 c1)).2 c2)).1, ⟨fun c3 => ⟨(hf).1, Or.inl rfl, (((((((h).1 c1)).2 c2)).2).1 c3)⟩, fun c3 => ⟨(hf).1, Or.inr rfl, (((((((h).1 c1)).2 c2)).2).2 c3)⟩⟩⟩⟩⟩⟩, fun c1 => ⟨am_a hf rfl, Or.inl ⟨57, (hf).2 56 1 57 rfl, ⟨400, am_a hf rfl, (((h).2 c1)).1, ⟨fun c4 => ⟨fun c5 => ⟨(hf).1, Or.inl rfl, (((((((h).2 c1)).2).1 c4)).1 c5)⟩, fun c5 => ⟨am_a hf rfl, Or.inl ⟨61, (hf).2 56 12 61 rfl, ⟨51, am_a hf rfl, ((((((((h).2 c1)).2).1 c4)).2 c5)).1, ⟨fun c6 => ⟨(hf).1, Or.inl rfl, ((((((((((h).2 c1)).2).1 c4)).2 c5)).2).1 c6)⟩, fun c6 => ⟨(hf).1, Or.inr rfl, ((((((((((h).2 c1)).2).1 c4)).2 c5)).2).2 c6)⟩⟩⟩⟩⟩⟩, fun c4 => ⟨am_a hf rfl, Or.inl ⟨57, (hf).2 56 1 57 rfl, ⟨400, am_a hf rfl, ((((((h).2 c1)).2).2 c4)).1, ⟨Nat.le_of_ble_eq_true rfl, trivial, hs _ _ _ _ _ (fun y7 w8 q9 e10 => am_ci (q9).2 fun z11 h12 => ⟨fun c13 => ⟨fun c14 => ⟨fun c15 => ⟨am_a (q9).1 rfl, Or.inl ⟨61, ((q9).1).2 56 12 61 rfl, ⟨am_a (q9).1 rfl, Or.inl ⟨61, ((q9).1).2 56 12 61 rfl, ⟨51, am_a (q9).1 rfl, (((((((h12).1 c13)).1 c14)).1 c15)).1, ⟨am_a (q9).1 rfl, Or.inl ⟨61, ((q9).1).2 56 12 61 rfl, ⟨51, am_a (q9).1 rfl, ((((((((h12).1 c13)).1 c14)).1 c15)).2).1, ⟨Nat.le_of_ble_eq_true rfl, trivial, hs _ _ _ _ _ (fun y16 w17 q18 e19 => am_ci (q18).2 fun z20 h21 => ⟨51, am_a (q18).1 rfl, (h21).1, ((h21).2 _ rfl)⟩) (((((((((h12).1 c13)).1 c14)).1 c15)).2).2)⟩⟩⟩⟩⟩⟩⟩⟩⟩, fun c15 => ⟨((q9).1).1, Or.inl rfl, ((((((h12).1 c13)).1 c14)).2 c15)⟩⟩, fun c14 => ⟨fun c23 => ⟨am_a (q9).1 rfl, Or.inl ⟨61, ((q9).1).2 56 12 61 rfl, ⟨am_a (q9).1 rfl, Or.inl ⟨61, ((q9).1).2 56 12 61 rfl, ⟨51, am_a (q9).1 rfl, (((((((h12).1 c13)).2 c14)).1 c23)).1, ⟨51, am_a (q9).1 rfl, ((((((((h12).1 c13)).2 c14)).1 c23)).2).1, (((((((((h12).1 c13)).2 c14)).1 c23)).2).2 _ rfl)⟩⟩⟩⟩⟩⟩, fun c23 => ⟨((q9).1).1, Or.inl rfl, ((((((h12).1 c13)).2 c14)).2 c23)⟩⟩⟩, fun c13 => ⟨am_a (q9).1 rfl, Or.inl ⟨61, ((q9).1).2 56 12 61 rfl, ⟨0, 51, am_a (q9).1 rfl, Nat.le_of_ble_eq_true rfl, ⟨fun c25 => ⟨am_a (q9).1 rfl, Or.inl ⟨61, ((q9).1).2 56 12 61 rfl, ⟨Nat.le_of_ble_eq_true rfl, trivial, hs _ _ _ _ _ (fun y26 w27 q28 e29 => am_ci (q28).2 fun z30 h31 => ⟨51, am_a (q28).1 rfl, (h31).1, ((h31).2 _ rfl)⟩) (((((h12).2 c13)).1 c25))⟩⟩⟩, fun c25 => ⟨((q9).1).1, Or.inl rfl, ((((h12).2 c13)).2 c25)⟩⟩⟩⟩⟩⟩) (((((((h).2 c1)).2).2 c4)).2)⟩⟩⟩⟩⟩⟩⟩⟩⟩⟩)

set_option maxRecDepth 100000 in
theorem v_X4_holds_62_e {SP : am_S} (hs : am_Smono SP) {Q : Option Value → am_W → Prop} {w : am_W} (hf : am_fin w) (p1 : Int32)
    (h : ((0 ≤ p1 → am_T m_X4_holds SP 168 Q 11 [some (.ref 62), some (.int p1), some (.ref 93), some (.int 0), some (.int p1), none] [] w) ∧ (¬ 0 ≤ p1 → Q (some (.int 0)) w))) :
    am_T m_X4_holds SP 168 Q 0 [some (.ref 62), some (.int p1), some (.ref 93), none, none, none] [] w :=
  am_T.wp hs (K := am_T m_X4_holds SP 168 Q) (cuts := [11]) (fun _ _ _ _ h => h) 8
    (⟨fun c1 => ((h).1 c1), fun c1 => ⟨(hf).1, Or.inl rfl, ((h).2 c1)⟩⟩)

set_option maxRecDepth 100000 in
theorem v_X4_holds_62_11 {SP : am_S} (hs : am_Smono SP) {Q : Option Value → am_W → Prop} {w : am_W} (hf : am_fin w) (x1 : Int32) (x3 : Int32) (x4 : Int32) (o5 : Option Value)
    (h : (((am_gi w 62 2) ≤ x4 → ((¬ x3 = 1 → Q (some (.int 0)) w) ∧ (x3 = 1 → (vp_in 0 51 ∧ ((¬ (am_gi w 67 (Int32.toNatClampNeg 0)) = 1 → Q (some (.int 0)) w) ∧ ((am_gi w 67 (Int32.toNatClampNeg 0)) = 1 → Q (some (.int 1)) w)))))) ∧ (¬ (am_gi w 62 2) ≤ x4 → (vp_in x4 400 ∧ (((am_gi w 63 (Int32.toNatClampNeg x4)) = (-100) → ((¬ x3 = 1 → Q (some (.int 0)) w) ∧ (x3 = 1 → (vp_in 0 51 ∧ ((¬ (am_gi w 67 (Int32.toNatClampNeg 0)) = 1 → Q (some (.int 0)) w) ∧ ((am_gi w 67 (Int32.toNatClampNeg 0)) = 1 → Q (some (.int 1)) w)))))) ∧ (¬ (am_gi w 63 (Int32.toNatClampNeg x4)) = (-100) → (vp_in x4 400 ∧ SP 43 [(.int (am_gi w 63 (Int32.toNatClampNeg x4)))] w (fun y7 w8 => am_fin w8 ∧ ∃ z11 : Int32, y7 = some (.int z11) ∧ ((z11 = 0 → ((¬ (am_gi w 63 (Int32.toNatClampNeg x4)) = (-114) → ((2 ≤ x3 → (vp_in ((x3 + (-1)) - 1) 51 ∧ (vp_in (x3 + (-1)) 51 ∧ SP 45 [(.int (am_gi w 63 (Int32.toNatClampNeg x4))), (.int (am_gi w8 67 (Int32.toNatClampNeg ((x3 + (-1)) - 1)))), (.int (am_gi w8 67 (Int32.toNatClampNeg (x3 + (-1)))))] w8 (fun y16 w17 => am_fin w17 ∧ ∃ z20 : Int32, y16 = some (.int z20) ∧ (vp_in ((x3 + (-1)) - 1) 51 ∧ ∀ w22 : am_W, w22 = am_si w17 67 (Int32.toNatClampNeg ((x3 + (-1)) - 1)) z20 → am_T m_X4_holds SP 168 Q 11 [some (.ref 62), some (.int x1), some (.ref 93), some (.int (x3 + (-1))), some (.int (x4 + 1)), some (.int (am_gi w 63 (Int32.toNatClampNeg x4)))] [] w22))))) ∧ (¬ 2 ≤ x3 → Q (some (.int 0)) w8))) ∧ ((am_gi w 63 (Int32.toNatClampNeg x4)) = (-114) → ((1 ≤ x3 → (vp_in (x3 - 1) 51 ∧ (vp_in (x3 - 1) 51 ∧ ∀ w24 : am_W, w24 = am_si w8 67 (Int32.toNatClampNeg (x3 - 1)) (1 - (am_gi w8 67 (Int32.toNatClampNeg (x3 - 1)))) → am_T m_X4_holds SP 168 Q 11 [some (.ref 62), some (.int x1), some (.ref 93), some (.int x3), some (.int (x4 + 1)), some (.int (am_gi w 63 (Int32.toNatClampNeg x4)))] [] w24))) ∧ (¬ 1 ≤ x3 → Q (some (.int 0)) w8))))) ∧ (¬ z11 = 0 → ((x3 < (Int32.ofNat 51) → SP 44 [(.int (am_gi w 63 (Int32.toNatClampNeg x4))), (.ref 93)] w8 (fun y26 w27 => am_fin w27 ∧ ∃ z30 : Int32, y26 = some (.int z30) ∧ (vp_in x3 51 ∧ ∀ w32 : am_W, w32 = am_si w27 67 (Int32.toNatClampNeg x3) z30 → am_T m_X4_holds SP 168 Q 11 [some (.ref 62), some (.int x1), some (.ref 93), some (.int (x3 + 1)), some (.int (x4 + 1)), some (.int (am_gi w 63 (Int32.toNatClampNeg x4)))] [] w32))) ∧ (¬ x3 < (Int32.ofNat 51) → Q (some (.int 0)) w8)))))))))))) :
    am_T m_X4_holds SP 168 Q 11 [some (.ref 62), some (.int x1), some (.ref 93), some (.int x3), some (.int x4), o5] [] w :=
  am_T.wp hs (K := am_T m_X4_holds SP 168 Q) (cuts := [11]) (fun _ _ _ _ h => h) 47
    (⟨am_a hf rfl, ⟨fun c1 => ⟨fun c2 => ⟨(hf).1, Or.inl rfl, ((((h).1 c1)).1 c2)⟩, fun c2 => ⟨am_a hf rfl, Or.inl ⟨67, (hf).2 62 12 67 rfl, ⟨51, am_a hf rfl, (((((h).1 c1)).2 c2)).1, ⟨fun c3 => ⟨(hf).1, Or.inl rfl, (((((((h).1 c1)).2 c2)).2).1 c3)⟩, fun c3 => ⟨(hf).1, Or.inr rfl, (((((((h).1 c1)).2 c2)).2).2 c3)⟩⟩⟩⟩⟩⟩, fun c1 => ⟨am_a hf rfl, Or.inl ⟨63, (hf).2 62 1 63 rfl, ⟨400, am_a hf rfl, (((h).2 c1)).1, ⟨fun c4 => ⟨fun c5 => ⟨(hf).1, Or.inl rfl, (((((((h).2 c1)).2).1 c4)).1 c5)⟩, fun c5 => ⟨am_a hf rfl, Or.inl ⟨67, (hf).2 62 12 67 rfl, ⟨51, am_a hf rfl, ((((((((h).2 c1)).2).1 c4)).2 c5)).1, ⟨fun c6 => ⟨(hf).1, Or.inl rfl, ((((((((((h).2 c1)).2).1 c4)).2 c5)).2).1 c6)⟩, fun c6 => ⟨(hf).1, Or.inr rfl, ((((((((((h).2 c1)).2).1 c4)).2 c5)).2).2 c6)⟩⟩⟩⟩⟩⟩, fun c4 => ⟨am_a hf rfl, Or.inl ⟨63, (hf).2 62 1 63 rfl, ⟨400, am_a hf rfl, ((((((h).2 c1)).2).2 c4)).1, ⟨Nat.le_of_ble_eq_true rfl, trivial, hs _ _ _ _ _ (fun y7 w8 q9 e10 => am_ci (q9).2 fun z11 h12 => ⟨fun c13 => ⟨fun c14 => ⟨fun c15 => ⟨am_a (q9).1 rfl, Or.inl ⟨67, ((q9).1).2 62 12 67 rfl, ⟨am_a (q9).1 rfl, Or.inl ⟨67, ((q9).1).2 62 12 67 rfl, ⟨51, am_a (q9).1 rfl, (((((((h12).1 c13)).1 c14)).1 c15)).1, ⟨am_a (q9).1 rfl, Or.inl ⟨67, ((q9).1).2 62 12 67 rfl, ⟨51, am_a (q9).1 rfl, ((((((((h12).1 c13)).1 c14)).1 c15)).2).1, ⟨Nat.le_of_ble_eq_true rfl, trivial, hs _ _ _ _ _ (fun y16 w17 q18 e19 => am_ci (q18).2 fun z20 h21 => ⟨51, am_a (q18).1 rfl, (h21).1, ((h21).2 _ rfl)⟩) (((((((((h12).1 c13)).1 c14)).1 c15)).2).2)⟩⟩⟩⟩⟩⟩⟩⟩⟩, fun c15 => ⟨((q9).1).1, Or.inl rfl, ((((((h12).1 c13)).1 c14)).2 c15)⟩⟩, fun c14 => ⟨fun c23 => ⟨am_a (q9).1 rfl, Or.inl ⟨67, ((q9).1).2 62 12 67 rfl, ⟨am_a (q9).1 rfl, Or.inl ⟨67, ((q9).1).2 62 12 67 rfl, ⟨51, am_a (q9).1 rfl, (((((((h12).1 c13)).2 c14)).1 c23)).1, ⟨51, am_a (q9).1 rfl, ((((((((h12).1 c13)).2 c14)).1 c23)).2).1, (((((((((h12).1 c13)).2 c14)).1 c23)).2).2 _ rfl)⟩⟩⟩⟩⟩⟩, fun c23 => ⟨((q9).1).1, Or.inl rfl, ((((((h12).1 c13)).2 c14)).2 c23)⟩⟩⟩, fun c13 => ⟨am_a (q9).1 rfl, Or.inl ⟨67, ((q9).1).2 62 12 67 rfl, ⟨0, 51, am_a (q9).1 rfl, Nat.le_of_ble_eq_true rfl, ⟨fun c25 => ⟨am_a (q9).1 rfl, Or.inl ⟨67, ((q9).1).2 62 12 67 rfl, ⟨Nat.le_of_ble_eq_true rfl, trivial, hs _ _ _ _ _ (fun y26 w27 q28 e29 => am_ci (q28).2 fun z30 h31 => ⟨51, am_a (q28).1 rfl, (h31).1, ((h31).2 _ rfl)⟩) (((((h12).2 c13)).1 c25))⟩⟩⟩, fun c25 => ⟨((q9).1).1, Or.inl rfl, ((((h12).2 c13)).2 c25)⟩⟩⟩⟩⟩⟩) (((((((h).2 c1)).2).2 c4)).2)⟩⟩⟩⟩⟩⟩⟩⟩⟩⟩)

set_option maxRecDepth 100000 in
theorem v_X4_isPush_e {SP : am_S} (hs : am_Smono SP) {Q : Option Value → am_W → Prop} {w : am_W} (hf : am_fin w) (p1 : Int32)
    (h : ((p1 ≤ (-9) → Q (some (.int 0)) w) ∧ (¬ p1 ≤ (-9) → Q (some (.int 1)) w))) :
    am_T m_X4_isPush SP 168 Q 0 [some (.int p1)] [] w :=
  am_T.wp hs (K := am_T m_X4_isPush SP 168 Q) (cuts := []) (fun _ _ _ _ h => h) 7
    (⟨fun c1 => ⟨(hf).1, Or.inl rfl, ((h).1 c1)⟩, fun c1 => ⟨(hf).1, Or.inr rfl, ((h).2 c1)⟩⟩)

set_option maxRecDepth 100000 in
theorem v_X4_pushed_e {SP : am_S} (hs : am_Smono SP) {Q : Option Value → am_W → Prop} {w : am_W} (hf : am_fin w) (p1 : Int32)
    (h : ((((-1) - p1) < 0 → Q (some (.int p1)) w) ∧ (¬ ((-1) - p1) < 0 → (((Int32.ofNat 8) ≤ ((-1) - p1) → Q (some (.int p1)) w) ∧ (¬ (Int32.ofNat 8) ≤ ((-1) - p1) → (vp_in ((-1) - p1) 8 ∧ Q (some (.int (am_gi w 93 (Int32.toNatClampNeg ((-1) - p1))))) w)))))) :
    am_T m_X4_pushed SP 168 Q 0 [some (.int p1), some (.ref 93), none] [] w :=
  am_T.wp hs (K := am_T m_X4_pushed SP 168 Q) (cuts := []) (fun _ _ _ _ h => h) 16
    (⟨fun c1 => ⟨(hf).1, ((h).1 c1)⟩, fun c1 => ⟨0, 8, am_a hf rfl, Nat.le_of_ble_eq_true rfl, ⟨fun c2 => ⟨(hf).1, ((((h).2 c1)).1 c2)⟩, fun c2 => ⟨8, am_a hf rfl, (((((h).2 c1)).2 c2)).1, ⟨(hf).1, (((((h).2 c1)).2 c2)).2⟩⟩⟩⟩⟩)

set_option maxRecDepth 100000 in
theorem v_X4_joined_e {SP : am_S} (hs : am_Smono SP) {Q : Option Value → am_W → Prop} {w : am_W} (hf : am_fin w) (p1 : Int32) (p2 : Int32) (p3 : Int32)
    (h : (((-p1) = 43 → Q (some (.int (p2 + p3))) w) ∧ (¬ (-p1) = 43 → (((-p1) = 45 → Q (some (.int (p2 - p3))) w) ∧ (¬ (-p1) = 45 → (((-p1) = 60 → ((p3 ≤ p2 → Q (some (.int 0)) w) ∧ (¬ p3 ≤ p2 → Q (some (.int 1)) w))) ∧ (¬ (-p1) = 60 → (((-p1) = 61 → ((¬ p2 = p3 → Q (some (.int 0)) w) ∧ (p2 = p3 → Q (some (.int 1)) w))) ∧ (¬ (-p1) = 61 → (((-p1) = 62 → ((p2 ≤ p3 → Q (some (.int 0)) w) ∧ (¬ p2 ≤ p3 → Q (some (.int 1)) w))) ∧ (¬ (-p1) = 62 → (((-p1) = 112 → Q (some (.int (p2 ||| p3))) w) ∧ (¬ (-p1) = 112 → (((-p1) = 113 → Q (some (.int (p2 &&& p3))) w) ∧ (¬ (-p1) = 113 → Q (some (.int 0)) w))))))))))))))) :
    am_T m_X4_joined SP 168 Q 0 [some (.int p1), some (.int p2), some (.int p3)] [] w :=
  am_T.wp hs (K := am_T m_X4_joined SP 168 Q) (cuts := []) (fun _ _ _ _ h => h) 10
    (⟨fun c1 => ⟨(hf).1, ((h).1 c1)⟩, fun c1 => ⟨fun c2 => ⟨(hf).1, ((((h).2 c1)).1 c2)⟩, fun c2 => ⟨fun c3 => ⟨fun c4 => ⟨(hf).1, ((((((((h).2 c1)).2 c2)).1 c3)).1 c4)⟩, fun c4 => ⟨(hf).1, ((((((((h).2 c1)).2 c2)).1 c3)).2 c4)⟩⟩, fun c3 => ⟨fun c5 => ⟨fun c6 => ⟨(hf).1, ((((((((((h).2 c1)).2 c2)).2 c3)).1 c5)).1 c6)⟩, fun c6 => ⟨(hf).1, ((((((((((h).2 c1)).2 c2)).2 c3)).1 c5)).2 c6)⟩⟩, fun c5 => ⟨fun c7 => ⟨fun c8 => ⟨(hf).1, ((((((((((((h).2 c1)).2 c2)).2 c3)).2 c5)).1 c7)).1 c8)⟩, fun c8 => ⟨(hf).1, ((((((((((((h).2 c1)).2 c2)).2 c3)).2 c5)).1 c7)).2 c8)⟩⟩, fun c7 => ⟨fun c9 => ⟨(hf).1, ((((((((((((h).2 c1)).2 c2)).2 c3)).2 c5)).2 c7)).1 c9)⟩, fun c9 => ⟨fun c10 => ⟨(hf).1, ((((((((((((((h).2 c1)).2 c2)).2 c3)).2 c5)).2 c7)).2 c9)).1 c10)⟩, fun c10 => ⟨(hf).1, ((((((((((((((h).2 c1)).2 c2)).2 c3)).2 c5)).2 c7)).2 c9)).2 c10)⟩⟩⟩⟩⟩⟩⟩⟩)

