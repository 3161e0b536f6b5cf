/-! ===== constructors: worlds that compute ===== -/
theorem am_weq {P : am_W → Prop} {w1 w2 : am_W} (h : w1 = w2) (k : P w2) : P w1 := h ▸ k
def F_X8_init_1 (w : am_W) : am_W :=
  let w1 := am_nw w;
  let w2 := am_sr w1 1 0 (some 2);
  let w3 := am_nw w2;
  let w4 := am_sr w3 1 1 (some 3);
  let w5 := am_nw w4;
  let w6 := am_sr w5 1 2 (some 4);
  let w7 := am_nw w6;
  let w8 := am_sr w7 1 3 (some 5);
  let w9 := am_si w8 1 8 (-1);
  w9
set_option maxRecDepth 100000 in
theorem v_X8_init_1 {SP : am_S} (hs : am_Smono SP) {Q : Option Value → am_W → Prop} (i : Nat → Nat → Int32) (l : Nat → Nat → Int64) (r : Nat → Nat → Option Nat)
    (h : (∀ w1 : am_W, w1 = am_nw (2, i, l, r) → (∀ w2 : am_W, w2 = am_sr w1 1 0 (some 2) → (∀ w3 : am_W, w3 = am_nw w2 → (∀ w4 : am_W, w4 = am_sr w3 1 1 (some 3) → (∀ w5 : am_W, w5 = am_nw w4 → (∀ w6 : am_W, w6 = am_sr w5 1 2 (some 4) → (∀ w7 : am_W, w7 = am_nw w6 → (∀ w8 : am_W, w8 = am_sr w7 1 3 (some 5) → (∀ w9 : am_W, w9 = am_si w8 1 8 (-1) → Q none w9)))))))))) :
    am_T m_X8_init SP 6 Q 0 [some (.ref 1)] [] (2, i, l, r) :=
  am_T.wp hs (K := am_T m_X8_init SP 6 Q) (cuts := []) (fun _ _ _ _ h => h) 23
    (⟨Nat.le_of_ble_eq_true rfl, ⟨⟨rfl, Nat.le_of_ble_eq_true rfl, Nat.le_of_ble_eq_true rfl, by decide⟩, ⟨⟨rfl, Nat.le_of_ble_eq_true rfl⟩, ⟨⟨rfl, Nat.le_of_ble_eq_true rfl, Nat.le_of_ble_eq_true rfl, by decide⟩, ⟨⟨rfl, Nat.le_of_ble_eq_true rfl⟩, ⟨⟨rfl, Nat.le_of_ble_eq_true rfl, Nat.le_of_ble_eq_true rfl, by decide⟩, ⟨⟨rfl, Nat.le_of_ble_eq_true rfl⟩, ⟨⟨rfl, Nat.le_of_ble_eq_true rfl, Nat.le_of_ble_eq_true rfl, by decide⟩, ⟨⟨rfl, Nat.le_of_ble_eq_true rfl⟩, ⟨⟨rfl, Nat.le_of_ble_eq_true rfl⟩, ⟨rfl, (((((((((h _ rfl) _ rfl) _ rfl) _ rfl) _ rfl) _ rfl) _ rfl) _ rfl) _ rfl)⟩⟩⟩⟩⟩⟩⟩⟩⟩⟩⟩)
def F_X9_init_6 (w : am_W) : am_W :=
  let w1 := am_nw w;
  let w2 := am_sr w1 6 0 (some 7);
  let w3 := am_nw w2;
  let w4 := am_sr w3 6 1 (some 8);
  let w5 := am_nw w4;
  let w6 := am_sr w5 6 2 (some 9);
  let w7 := am_nw w6;
  let w8 := am_sr w7 6 5 (some 10);
  let w9 := am_nw w8;
  let w10 := am_sr w9 6 6 (some 11);
  let w11 := am_nw w10;
  let w12 := am_sr w11 6 7 (some 12);
  let w13 := am_nw w12;
  let w14 := am_sr w13 6 10 (some 13);
  let w15 := am_nw w14;
  let w16 := am_sr w15 6 11 (some 14);
  let w17 := am_nw w16;
  let w18 := am_sr w17 6 12 (some 15);
  let w19 := am_nw w18;
  let w20 := am_sr w19 6 13 (some 16);
  let w21 := am_nw w20;
  let w22 := am_sr w21 6 14 (some 17);
  w22
set_option maxRecDepth 100000 in
theorem v_X9_init_6 {SP : am_S} (hs : am_Smono SP) {Q : Option Value → am_W → Prop} (i : Nat → Nat → Int32) (l : Nat → Nat → Int64) (r : Nat → Nat → Option Nat)
    (h : (∀ w1 : am_W, w1 = am_nw (7, i, l, r) → (∀ w2 : am_W, w2 = am_sr w1 6 0 (some 7) → (∀ w3 : am_W, w3 = am_nw w2 → (∀ w4 : am_W, w4 = am_sr w3 6 1 (some 8) → (∀ w5 : am_W, w5 = am_nw w4 → (∀ w6 : am_W, w6 = am_sr w5 6 2 (some 9) → (∀ w7 : am_W, w7 = am_nw w6 → (∀ w8 : am_W, w8 = am_sr w7 6 5 (some 10) → (∀ w9 : am_W, w9 = am_nw w8 → (∀ w10 : am_W, w10 = am_sr w9 6 6 (some 11) → (∀ w11 : am_W, w11 = am_nw w10 → (∀ w12 : am_W, w12 = am_sr w11 6 7 (some 12) → (∀ w13 : am_W, w13 = am_nw w12 → (∀ w14 : am_W, w14 = am_sr w13 6 10 (some 13) → (∀ w15 : am_W, w15 = am_nw w14 → (∀ w16 : am_W, w16 = am_sr w15 6 11 (some 14) → (∀ w17 : am_W, w17 = am_nw w16 → (∀ w18 : am_W, w18 = am_sr w17 6 12 (some 15) → (∀ w19 : am_W, w19 = am_nw w18 → (∀ w20 : am_W, w20 = am_sr w19 6 13 (some 16) → (∀ w21 : am_W, w21 = am_nw w20 → (∀ w22 : am_W, w22 = am_sr w21 6 14 (some 17) → Q none w22))))))))))))))))))))))) :
    am_T m_X9_init SP 18 Q 0 [some (.ref 6)] [] (7, i, l, r) :=
  am_T.wp hs (K := am_T m_X9_init SP 18 Q) (cuts := []) (fun _ _ _ _ h => h) 48
    (⟨Nat.le_of_ble_eq_true rfl, ⟨⟨rfl, Nat.le_of_ble_eq_true rfl, Nat.le_of_ble_eq_true rfl, by decide⟩, ⟨⟨rfl, Nat.le_of_ble_eq_true rfl⟩, ⟨⟨rfl, Nat.le_of_ble_eq_true rfl, Nat.le_of_ble_eq_true rfl, by decide⟩, ⟨⟨rfl, Nat.le_of_ble_eq_true rfl⟩, ⟨⟨rfl, Nat.le_of_ble_eq_true rfl, Nat.le_of_ble_eq_true rfl, by decide⟩, ⟨⟨rfl, Nat.le_of_ble_eq_true rfl⟩, ⟨⟨rfl, Nat.le_of_ble_eq_true rfl, Nat.le_of_ble_eq_true rfl, by decide⟩, ⟨⟨rfl, Nat.le_of_ble_eq_true rfl⟩, ⟨⟨rfl, Nat.le_of_ble_eq_true rfl, Nat.le_of_ble_eq_true rfl, by decide⟩, ⟨⟨rfl, Nat.le_of_ble_eq_true rfl⟩, ⟨⟨rfl, Nat.le_of_ble_eq_true rfl, Nat.le_of_ble_eq_true rfl, by decide⟩, ⟨⟨rfl, Nat.le_of_ble_eq_true rfl⟩, ⟨⟨rfl, Nat.le_of_ble_eq_true rfl, Nat.le_of_ble_eq_true rfl, by decide⟩, ⟨⟨rfl, Nat.le_of_ble_eq_true rfl⟩, ⟨⟨rfl, Nat.le_of_ble_eq_true rfl, Nat.le_of_ble_eq_true rfl, by decide⟩, ⟨⟨rfl, Nat.le_of_ble_eq_true rfl⟩, ⟨⟨rfl, Nat.le_of_ble_eq_true rfl, Nat.le_of_ble_eq_true rfl, by decide⟩, ⟨⟨rfl, Nat.le_of_ble_eq_true rfl⟩, ⟨⟨rfl, Nat.le_of_ble_eq_true rfl, Nat.le_of_ble_eq_true rfl, by decide⟩, ⟨⟨rfl, Nat.le_of_ble_eq_true rfl⟩, ⟨⟨rfl, Nat.le_of_ble_eq_true rfl, Nat.le_of_ble_eq_true rfl, by decide⟩, ⟨⟨rfl, Nat.le_of_ble_eq_true rfl⟩, ⟨rfl, ((((((((((((((((((((((h _ rfl) _ rfl) _ rfl) _ rfl) _ rfl) _ rfl) _ rfl) _ rfl) _ rfl) _ rfl) _ rfl) _ rfl) _ rfl) _ rfl) _ rfl) _ rfl) _ rfl) _ rfl) _ rfl) _ rfl) _ rfl) _ rfl)⟩⟩⟩⟩⟩⟩⟩⟩⟩⟩⟩⟩⟩⟩⟩⟩⟩⟩⟩⟩⟩⟩⟩⟩)
def F_X9_init_18 (w : am_W) : am_W :=
  let w1 := am_nw w;
  let w2 := am_sr w1 18 0 (some 19);
  let w3 := am_nw w2;
  let w4 := am_sr w3 18 1 (some 20);
  let w5 := am_nw w4;
  let w6 := am_sr w5 18 2 (some 21);
  let w7 := am_nw w6;
  let w8 := am_sr w7 18 5 (some 22);
  let w9 := am_nw w8;
  let w10 := am_sr w9 18 6 (some 23);
  let w11 := am_nw w10;
  let w12 := am_sr w11 18 7 (some 24);
  let w13 := am_nw w12;
  let w14 := am_sr w13 18 10 (some 25);
  let w15 := am_nw w14;
  let w16 := am_sr w15 18 11 (some 26);
  let w17 := am_nw w16;
  let w18 := am_sr w17 18 12 (some 27);
  let w19 := am_nw w18;
  let w20 := am_sr w19 18 13 (some 28);
  let w21 := am_nw w20;
  let w22 := am_sr w21 18 14 (some 29);
  w22
set_option maxRecDepth 100000 in
theorem v_X9_init_18 {SP : am_S} (hs : am_Smono SP) {Q : Option Value → am_W → Prop} (i : Nat → Nat → Int32) (l : Nat → Nat → Int64) (r : Nat → Nat → Option Nat)
    (h : (∀ w1 : am_W, w1 = am_nw (19, i, l, r) → (∀ w2 : am_W, w2 = am_sr w1 18 0 (some 19) → (∀ w3 : am_W, w3 = am_nw w2 → (∀ w4 : am_W, w4 = am_sr w3 18 1 (some 20) → (∀ w5 : am_W, w5 = am_nw w4 → (∀ w6 : am_W, w6 = am_sr w5 18 2 (some 21) → (∀ w7 : am_W, w7 = am_nw w6 → (∀ w8 : am_W, w8 = am_sr w7 18 5 (some 22) → (∀ w9 : am_W, w9 = am_nw w8 → (∀ w10 : am_W, w10 = am_sr w9 18 6 (some 23) → (∀ w11 : am_W, w11 = am_nw w10 → (∀ w12 : am_W, w12 = am_sr w11 18 7 (some 24) → (∀ w13 : am_W, w13 = am_nw w12 → (∀ w14 : am_W, w14 = am_sr w13 18 10 (some 25) → (∀ w15 : am_W, w15 = am_nw w14 → (∀ w16 : am_W, w16 = am_sr w15 18 11 (some 26) → (∀ w17 : am_W, w17 = am_nw w16 → (∀ w18 : am_W, w18 = am_sr w17 18 12 (some 27) → (∀ w19 : am_W, w19 = am_nw w18 → (∀ w20 : am_W, w20 = am_sr w19 18 13 (some 28) → (∀ w21 : am_W, w21 = am_nw w20 → (∀ w22 : am_W, w22 = am_sr w21 18 14 (some 29) → Q none w22))))))))))))))))))))))) :
    am_T m_X9_init SP 30 Q 0 [some (.ref 18)] [] (19, i, l, r) :=
  am_T.wp hs (K := am_T m_X9_init SP 30 Q) (cuts := []) (fun _ _ _ _ h => h) 48
    (⟨Nat.le_of_ble_eq_true rfl, ⟨⟨rfl, Nat.le_of_ble_eq_true rfl, Nat.le_of_ble_eq_true rfl, by decide⟩, ⟨⟨rfl, Nat.le_of_ble_eq_true rfl⟩, ⟨⟨rfl, Nat.le_of_ble_eq_true rfl, Nat.le_of_ble_eq_true rfl, by decide⟩, ⟨⟨rfl, Nat.le_of_ble_eq_true rfl⟩, ⟨⟨rfl, Nat.le_of_ble_eq_true rfl, Nat.le_of_ble_eq_true rfl, by decide⟩, ⟨⟨rfl, Nat.le_of_ble_eq_true rfl⟩, ⟨⟨rfl, Nat.le_of_ble_eq_true rfl, Nat.le_of_ble_eq_true rfl, by decide⟩, ⟨⟨rfl, Nat.le_of_ble_eq_true rfl⟩, ⟨⟨rfl, Nat.le_of_ble_eq_true rfl, Nat.le_of_ble_eq_true rfl, by decide⟩, ⟨⟨rfl, Nat.le_of_ble_eq_true rfl⟩, ⟨⟨rfl, Nat.le_of_ble_eq_true rfl, Nat.le_of_ble_eq_true rfl, by decide⟩, ⟨⟨rfl, Nat.le_of_ble_eq_true rfl⟩, ⟨⟨rfl, Nat.le_of_ble_eq_true rfl, Nat.le_of_ble_eq_true rfl, by decide⟩, ⟨⟨rfl, Nat.le_of_ble_eq_true rfl⟩, ⟨⟨rfl, Nat.le_of_ble_eq_true rfl, Nat.le_of_ble_eq_true rfl, by decide⟩, ⟨⟨rfl, Nat.le_of_ble_eq_true rfl⟩, ⟨⟨rfl, Nat.le_of_ble_eq_true rfl, Nat.le_of_ble_eq_true rfl, by decide⟩, ⟨⟨rfl, Nat.le_of_ble_eq_true rfl⟩, ⟨⟨rfl, Nat.le_of_ble_eq_true rfl, Nat.le_of_ble_eq_true rfl, by decide⟩, ⟨⟨rfl, Nat.le_of_ble_eq_true rfl⟩, ⟨⟨rfl, Nat.le_of_ble_eq_true rfl, Nat.le_of_ble_eq_true rfl, by decide⟩, ⟨⟨rfl, Nat.le_of_ble_eq_true rfl⟩, ⟨rfl, ((((((((((((((((((((((h _ rfl) _ rfl) _ rfl) _ rfl) _ rfl) _ rfl) _ rfl) _ rfl) _ rfl) _ rfl) _ rfl) _ rfl) _ rfl) _ rfl) _ rfl) _ rfl) _ rfl) _ rfl) _ rfl) _ rfl) _ rfl) _ rfl)⟩⟩⟩⟩⟩⟩⟩⟩⟩⟩⟩⟩⟩⟩⟩⟩⟩⟩⟩⟩⟩⟩⟩⟩)
def F_X5_init_68_1 (w : am_W) : am_W :=
  let w1 := am_sr w 68 0 (some 1);
  w1
set_option maxRecDepth 100000 in
theorem v_X5_init_68 {SP : am_S} (hs : am_Smono SP) {Q : Option Value → am_W → Prop} (i : Nat → Nat → Int32) (l : Nat → Nat → Int64) (r : Nat → Nat → Option Nat)
    (h : (∀ w1 : am_W, w1 = am_sr (69, i, l, r) 68 0 (some 1) → Q none w1)) :
    am_T m_X5_init SP 69 Q 0 [some (.ref 68), some (.ref 1)] [] (69, i, l, r) :=
  am_T.wp hs (K := am_T m_X5_init SP 69 Q) (cuts := []) (fun _ _ _ _ h => h) 7
    (⟨Nat.le_of_ble_eq_true rfl, ⟨⟨rfl, Nat.le_of_ble_eq_true rfl⟩, ⟨rfl, (h _ rfl)⟩⟩⟩)
def F_X7_init_69 (w : am_W) : am_W :=
  let w1 := am_nw w;
  let w2 := am_sr w1 69 0 (some 70);
  let w3 := am_nw w2;
  let w4 := am_sr w3 69 1 (some 71);
  w4
set_option maxRecDepth 100000 in
theorem v_X7_init_69 {SP : am_S} (hs : am_Smono SP) {Q : Option Value → am_W → Prop} (i : Nat → Nat → Int32) (l : Nat → Nat → Int64) (r : Nat → Nat → Option Nat)
    (h : (∀ w1 : am_W, w1 = am_nw (70, i, l, r) → (∀ w2 : am_W, w2 = am_sr w1 69 0 (some 70) → (∀ w3 : am_W, w3 = am_nw w2 → (∀ w4 : am_W, w4 = am_sr w3 69 1 (some 71) → Q none w4))))) :
    am_T m_X7_init SP 72 Q 0 [some (.ref 69)] [] (70, i, l, r) :=
  am_T.wp hs (K := am_T m_X7_init SP 72 Q) (cuts := []) (fun _ _ _ _ h => h) 12
    (⟨Nat.le_of_ble_eq_true rfl, ⟨⟨rfl, Nat.le_of_ble_eq_true rfl, Nat.le_of_ble_eq_true rfl, by decide⟩, ⟨⟨rfl, Nat.le_of_ble_eq_true rfl⟩, ⟨⟨rfl, Nat.le_of_ble_eq_true rfl, Nat.le_of_ble_eq_true rfl, by decide⟩, ⟨⟨rfl, Nat.le_of_ble_eq_true rfl⟩, ⟨rfl, ((((h _ rfl) _ rfl) _ rfl) _ rfl)⟩⟩⟩⟩⟩⟩)
def F_X2_init_92_30_72_69_82 (w : am_W) : am_W :=
  let w1 := am_nw w;
  let w2 := am_sr w1 92 4 (some 93);
  let w3 := am_sr w2 92 0 (some 30);
  let w4 := am_sr w3 92 1 (some 72);
  let w5 := am_sr w4 92 2 (some 69);
  let w6 := am_sr w5 92 3 (some 82);
  w6
set_option maxRecDepth 100000 in
theorem v_X2_init_92 {SP : am_S} (hs : am_Smono SP) {Q : Option Value → am_W → Prop} (i : Nat → Nat → Int32) (l : Nat → Nat → Int64) (r : Nat → Nat → Option Nat)
    (h : (∀ w1 : am_W, w1 = am_nw (93, i, l, r) → (∀ w2 : am_W, w2 = am_sr w1 92 4 (some 93) → (∀ w3 : am_W, w3 = am_sr w2 92 0 (some 30) → (∀ w4 : am_W, w4 = am_sr w3 92 1 (some 72) → (∀ w5 : am_W, w5 = am_sr w4 92 2 (some 69) → (∀ w6 : am_W, w6 = am_sr w5 92 3 (some 82) → Q none w6))))))) :
    am_T m_X2_init SP 94 Q 0 [some (.ref 92), some (.ref 30), some (.ref 72), some (.ref 69), some (.ref 82)] [] (93, i, l, r) :=
  am_T.wp hs (K := am_T m_X2_init SP 94 Q) (cuts := []) (fun _ _ _ _ h => h) 20
    (⟨Nat.le_of_ble_eq_true rfl, ⟨⟨rfl, Nat.le_of_ble_eq_true rfl, Nat.le_of_ble_eq_true rfl, by decide⟩, ⟨⟨rfl, Nat.le_of_ble_eq_true rfl⟩, ⟨⟨rfl, Nat.le_of_ble_eq_true rfl⟩, ⟨⟨rfl, Nat.le_of_ble_eq_true rfl⟩, ⟨⟨rfl, Nat.le_of_ble_eq_true rfl⟩, ⟨⟨rfl, Nat.le_of_ble_eq_true rfl⟩, ⟨rfl, ((((((h _ rfl) _ rfl) _ rfl) _ rfl) _ rfl) _ rfl)⟩⟩⟩⟩⟩⟩⟩⟩)
def F_X10_init_98_6_30 (w : am_W) : am_W :=
  let w1 := am_nw w;
  let w2 := am_sr w1 98 2 (some 99);
  let w3 := am_nw w2;
  let w4 := am_sr w3 98 3 (some 100);
  let w5 := am_nw w4;
  let w6 := am_sr w5 98 4 (some 101);
  let w7 := am_nw w6;
  let w8 := am_sr w7 98 5 (some 102);
  let w9 := am_nw w8;
  let w10 := am_sr w9 98 6 (some 103);
  let w11 := am_nw w10;
  let w12 := am_sr w11 98 8 (some 104);
  let w13 := am_nw w12;
  let w14 := am_sr w13 98 12 (some 105);
  let w15 := am_sr w14 98 0 (some 6);
  let w16 := am_sr w15 98 1 (some 30);
  w16
set_option maxRecDepth 100000 in
theorem v_X10_init_98 {SP : am_S} (hs : am_Smono SP) {Q : Option Value → am_W → Prop} (i : Nat → Nat → Int32) (l : Nat → Nat → Int64) (r : Nat → Nat → Option Nat)
    (h : (∀ w1 : am_W, w1 = am_nw (99, i, l, r) → (∀ w2 : am_W, w2 = am_sr w1 98 2 (some 99) → (∀ w3 : am_W, w3 = am_nw w2 → (∀ w4 : am_W, w4 = am_sr w3 98 3 (some 100) → (∀ w5 : am_W, w5 = am_nw w4 → (∀ w6 : am_W, w6 = am_sr w5 98 4 (some 101) → (∀ w7 : am_W, w7 = am_nw w6 → (∀ w8 : am_W, w8 = am_sr w7 98 5 (some 102) → (∀ w9 : am_W, w9 = am_nw w8 → (∀ w10 : am_W, w10 = am_sr w9 98 6 (some 103) → (∀ w11 : am_W, w11 = am_nw w10 → (∀ w12 : am_W, w12 = am_sr w11 98 8 (some 104) → (∀ w13 : am_W, w13 = am_nw w12 → (∀ w14 : am_W, w14 = am_sr w13 98 12 (some 105) → (∀ w15 : am_W, w15 = am_sr w14 98 0 (some 6) → (∀ w16 : am_W, w16 = am_sr w15 98 1 (some 30) → Q none w16))))))))))))))))) :
    am_T m_X10_init SP 106 Q 0 [some (.ref 98), some (.ref 6), some (.ref 30)] [] (99, i, l, r) :=
  am_T.wp hs (K := am_T m_X10_init SP 106 Q) (cuts := []) (fun _ _ _ _ h => h) 38
    (⟨Nat.le_of_ble_eq_true rfl, ⟨⟨rfl, Nat.le_of_ble_eq_true rfl, Nat.le_of_ble_eq_true rfl, by decide⟩, ⟨⟨rfl, Nat.le_of_ble_eq_true rfl⟩, ⟨⟨rfl, Nat.le_of_ble_eq_true rfl, Nat.le_of_ble_eq_true rfl, by decide⟩, ⟨⟨rfl, Nat.le_of_ble_eq_true rfl⟩, ⟨⟨rfl, Nat.le_of_ble_eq_true rfl, Nat.le_of_ble_eq_true rfl, by decide⟩, ⟨⟨rfl, Nat.le_of_ble_eq_true rfl⟩, ⟨⟨rfl, Nat.le_of_ble_eq_true rfl, Nat.le_of_ble_eq_true rfl, by decide⟩, ⟨⟨rfl, Nat.le_of_ble_eq_true rfl⟩, ⟨⟨rfl, Nat.le_of_ble_eq_true rfl, Nat.le_of_ble_eq_true rfl, by decide⟩, ⟨⟨rfl, Nat.le_of_ble_eq_true rfl⟩, ⟨⟨rfl, Nat.le_of_ble_eq_true rfl, Nat.le_of_ble_eq_true rfl, by decide⟩, ⟨⟨rfl, Nat.le_of_ble_eq_true rfl⟩, ⟨⟨rfl, Nat.le_of_ble_eq_true rfl, Nat.le_of_ble_eq_true rfl, by decide⟩, ⟨⟨rfl, Nat.le_of_ble_eq_true rfl⟩, ⟨⟨rfl, Nat.le_of_ble_eq_true rfl⟩, ⟨⟨rfl, Nat.le_of_ble_eq_true rfl⟩, ⟨rfl, ((((((((((((((((h _ rfl) _ rfl) _ rfl) _ rfl) _ rfl) _ rfl) _ rfl) _ rfl) _ rfl) _ rfl) _ rfl) _ rfl) _ rfl) _ rfl) _ rfl) _ rfl)⟩⟩⟩⟩⟩⟩⟩⟩⟩⟩⟩⟩⟩⟩⟩⟩⟩⟩)
def F_X4_init_32 (w : am_W) : am_W :=
  let w1 := am_nw w;
  let w2 := am_sr w1 32 1 (some 33);
  let w3 := am_nw w2;
  let w4 := am_sr w3 32 3 (some 34);
  let w5 := am_nw w4;
  let w6 := am_sr w5 32 4 (some 35);
  let w7 := am_nw w6;
  let w8 := am_sr w7 32 6 (some 36);
  let w9 := am_nw w8;
  let w10 := am_sr w9 32 12 (some 37);
  w10
set_option maxRecDepth 100000 in
theorem v_X4_init_32 {SP : am_S} (hs : am_Smono SP) {Q : Option Value → am_W → Prop} (i : Nat → Nat → Int32) (l : Nat → Nat → Int64) (r : Nat → Nat → Option Nat)
    (h : (∀ w1 : am_W, w1 = am_nw (33, i, l, r) → (∀ w2 : am_W, w2 = am_sr w1 32 1 (some 33) → (∀ w3 : am_W, w3 = am_nw w2 → (∀ w4 : am_W, w4 = am_sr w3 32 3 (some 34) → (∀ w5 : am_W, w5 = am_nw w4 → (∀ w6 : am_W, w6 = am_sr w5 32 4 (some 35) → (∀ w7 : am_W, w7 = am_nw w6 → (∀ w8 : am_W, w8 = am_sr w7 32 6 (some 36) → (∀ w9 : am_W, w9 = am_nw w8 → (∀ w10 : am_W, w10 = am_sr w9 32 12 (some 37) → Q none w10))))))))))) :
    am_T m_X4_init SP 38 Q 0 [some (.ref 32)] [] (33, i, l, r) :=
  am_T.wp hs (K := am_T m_X4_init SP 38 Q) (cuts := []) (fun _ _ _ _ h => h) 24
    (⟨Nat.le_of_ble_eq_true rfl, ⟨⟨rfl, Nat.le_of_ble_eq_true rfl, Nat.le_of_ble_eq_true rfl, by decide⟩, ⟨⟨rfl, Nat.le_of_ble_eq_true rfl⟩, ⟨⟨rfl, Nat.le_of_ble_eq_true rfl, Nat.le_of_ble_eq_true rfl, by decide⟩, ⟨⟨rfl, Nat.le_of_ble_eq_true rfl⟩, ⟨⟨rfl, Nat.le_of_ble_eq_true rfl, Nat.le_of_ble_eq_true rfl, by decide⟩, ⟨⟨rfl, Nat.le_of_ble_eq_true rfl⟩, ⟨⟨rfl, Nat.le_of_ble_eq_true rfl, Nat.le_of_ble_eq_true rfl, by decide⟩, ⟨⟨rfl, Nat.le_of_ble_eq_true rfl⟩, ⟨⟨rfl, Nat.le_of_ble_eq_true rfl, Nat.le_of_ble_eq_true rfl, by decide⟩, ⟨⟨rfl, Nat.le_of_ble_eq_true rfl⟩, ⟨rfl, ((((((((((h _ rfl) _ rfl) _ rfl) _ rfl) _ rfl) _ rfl) _ rfl) _ rfl) _ rfl) _ rfl)⟩⟩⟩⟩⟩⟩⟩⟩⟩⟩⟩⟩)
def F_X4_init_38 (w : am_W) : am_W :=
  let w1 := am_nw w;
  let w2 := am_sr w1 38 1 (some 39);
  let w3 := am_nw w2;
  let w4 := am_sr w3 38 3 (some 40);
  let w5 := am_nw w4;
  let w6 := am_sr w5 38 4 (some 41);
  let w7 := am_nw w6;
  let w8 := am_sr w7 38 6 (some 42);
  let w9 := am_nw w8;
  let w10 := am_sr w9 38 12 (some 43);
  w10
set_option maxRecDepth 100000 in
theorem v_X4_init_38 {SP : am_S} (hs : am_Smono SP) {Q : Option Value → am_W → Prop} (i : Nat → Nat → Int32) (l : Nat → Nat → Int64) (r : Nat → Nat → Option Nat)
    (h : (∀ w1 : am_W, w1 = am_nw (39, i, l, r) → (∀ w2 : am_W, w2 = am_sr w1 38 1 (some 39) → (∀ w3 : am_W, w3 = am_nw w2 → (∀ w4 : am_W, w4 = am_sr w3 38 3 (some 40) → (∀ w5 : am_W, w5 = am_nw w4 → (∀ w6 : am_W, w6 = am_sr w5 38 4 (some 41) → (∀ w7 : am_W, w7 = am_nw w6 → (∀ w8 : am_W, w8 = am_sr w7 38 6 (some 42) → (∀ w9 : am_W, w9 = am_nw w8 → (∀ w10 : am_W, w10 = am_sr w9 38 12 (some 43) → Q none w10))))))))))) :
    am_T m_X4_init SP 44 Q 0 [some (.ref 38)] [] (39, i, l, r) :=
  am_T.wp hs (K := am_T m_X4_init SP 44 Q) (cuts := []) (fun _ _ _ _ h => h) 24
    (⟨Nat.le_of_ble_eq_true rfl, ⟨⟨rfl, Nat.le_of_ble_eq_true rfl, Nat.le_of_ble_eq_true rfl, by decide⟩, ⟨⟨rfl, Nat.le_of_ble_eq_true rfl⟩, ⟨⟨rfl, Nat.le_of_ble_eq_true rfl, Nat.le_of_ble_eq_true rfl, by decide⟩, ⟨⟨rfl, Nat.le_of_ble_eq_true rfl⟩, ⟨⟨rfl, Nat.le_of_ble_eq_true rfl, Nat.le_of_ble_eq_true rfl, by decide⟩, ⟨⟨rfl, Nat.le_of_ble_eq_true rfl⟩, ⟨⟨rfl, Nat.le_of_ble_eq_true rfl, Nat.le_of_ble_eq_true rfl, by decide⟩, ⟨⟨rfl, Nat.le_of_ble_eq_true rfl⟩, ⟨⟨rfl, Nat.le_of_ble_eq_true rfl, Nat.le_of_ble_eq_true rfl, by decide⟩, ⟨⟨rfl, Nat.le_of_ble_eq_true rfl⟩, ⟨rfl, ((((((((((h _ rfl) _ rfl) _ rfl) _ rfl) _ rfl) _ rfl) _ rfl) _ rfl) _ rfl) _ rfl)⟩⟩⟩⟩⟩⟩⟩⟩⟩⟩⟩⟩)
def F_X4_init_44 (w : am_W) : am_W :=
  let w1 := am_nw w;
  let w2 := am_sr w1 44 1 (some 45);
  let w3 := am_nw w2;
  let w4 := am_sr w3 44 3 (some 46);
  let w5 := am_nw w4;
  let w6 := am_sr w5 44 4 (some 47);
  let w7 := am_nw w6;
  let w8 := am_sr w7 44 6 (some 48);
  let w9 := am_nw w8;
  let w10 := am_sr w9 44 12 (some 49);
  w10
set_option maxRecDepth 100000 in
theorem v_X4_init_44 {SP : am_S} (hs : am_Smono SP) {Q : Option Value → am_W → Prop} (i : Nat → Nat → Int32) (l : Nat → Nat → Int64) (r : Nat → Nat → Option Nat)
    (h : (∀ w1 : am_W, w1 = am_nw (45, i, l, r) → (∀ w2 : am_W, w2 = am_sr w1 44 1 (some 45) → (∀ w3 : am_W, w3 = am_nw w2 → (∀ w4 : am_W, w4 = am_sr w3 44 3 (some 46) → (∀ w5 : am_W, w5 = am_nw w4 → (∀ w6 : am_W, w6 = am_sr w5 44 4 (some 47) → (∀ w7 : am_W, w7 = am_nw w6 → (∀ w8 : am_W, w8 = am_sr w7 44 6 (some 48) → (∀ w9 : am_W, w9 = am_nw w8 → (∀ w10 : am_W, w10 = am_sr w9 44 12 (some 49) → Q none w10))))))))))) :
    am_T m_X4_init SP 50 Q 0 [some (.ref 44)] [] (45, i, l, r) :=
  am_T.wp hs (K := am_T m_X4_init SP 50 Q) (cuts := []) (fun _ _ _ _ h => h) 24
    (⟨Nat.le_of_ble_eq_true rfl, ⟨⟨rfl, Nat.le_of_ble_eq_true rfl, Nat.le_of_ble_eq_true rfl, by decide⟩, ⟨⟨rfl, Nat.le_of_ble_eq_true rfl⟩, ⟨⟨rfl, Nat.le_of_ble_eq_true rfl, Nat.le_of_ble_eq_true rfl, by decide⟩, ⟨⟨rfl, Nat.le_of_ble_eq_true rfl⟩, ⟨⟨rfl, Nat.le_of_ble_eq_true rfl, Nat.le_of_ble_eq_true rfl, by decide⟩, ⟨⟨rfl, Nat.le_of_ble_eq_true rfl⟩, ⟨⟨rfl, Nat.le_of_ble_eq_true rfl, Nat.le_of_ble_eq_true rfl, by decide⟩, ⟨⟨rfl, Nat.le_of_ble_eq_true rfl⟩, ⟨⟨rfl, Nat.le_of_ble_eq_true rfl, Nat.le_of_ble_eq_true rfl, by decide⟩, ⟨⟨rfl, Nat.le_of_ble_eq_true rfl⟩, ⟨rfl, ((((((((((h _ rfl) _ rfl) _ rfl) _ rfl) _ rfl) _ rfl) _ rfl) _ rfl) _ rfl) _ rfl)⟩⟩⟩⟩⟩⟩⟩⟩⟩⟩⟩⟩)
def F_X4_init_50 (w : am_W) : am_W :=
  let w1 := am_nw w;
  let w2 := am_sr w1 50 1 (some 51);
  let w3 := am_nw w2;
  let w4 := am_sr w3 50 3 (some 52);
  let w5 := am_nw w4;
  let w6 := am_sr w5 50 4 (some 53);
  let w7 := am_nw w6;
  let w8 := am_sr w7 50 6 (some 54);
  let w9 := am_nw w8;
  let w10 := am_sr w9 50 12 (some 55);
  w10
set_option maxRecDepth 100000 in
theorem v_X4_init_50 {SP : am_S} (hs : am_Smono SP) {Q : Option Value → am_W → Prop} (i : Nat → Nat → Int32) (l : Nat → Nat → Int64) (r : Nat → Nat → Option Nat)
    (h : (∀ w1 : am_W, w1 = am_nw (51, i, l, r) → (∀ w2 : am_W, w2 = am_sr w1 50 1 (some 51) → (∀ w3 : am_W, w3 = am_nw w2 → (∀ w4 : am_W, w4 = am_sr w3 50 3 (some 52) → (∀ w5 : am_W, w5 = am_nw w4 → (∀ w6 : am_W, w6 = am_sr w5 50 4 (some 53) → (∀ w7 : am_W, w7 = am_nw w6 → (∀ w8 : am_W, w8 = am_sr w7 50 6 (some 54) → (∀ w9 : am_W, w9 = am_nw w8 → (∀ w10 : am_W, w10 = am_sr w9 50 12 (some 55) → Q none w10))))))))))) :
    am_T m_X4_init SP 56 Q 0 [some (.ref 50)] [] (51, i, l, r) :=
  am_T.wp hs (K := am_T m_X4_init SP 56 Q) (cuts := []) (fun _ _ _ _ h => h) 24
    (⟨Nat.le_of_ble_eq_true rfl, ⟨⟨rfl, Nat.le_of_ble_eq_true rfl, Nat.le_of_ble_eq_true rfl, by decide⟩, ⟨⟨rfl, Nat.le_of_ble_eq_true rfl⟩, ⟨⟨rfl, Nat.le_of_ble_eq_true rfl, Nat.le_of_ble_eq_true rfl, by decide⟩, ⟨⟨rfl, Nat.le_of_ble_eq_true rfl⟩, ⟨⟨rfl, Nat.le_of_ble_eq_true rfl, Nat.le_of_ble_eq_true rfl, by decide⟩, ⟨⟨rfl, Nat.le_of_ble_eq_true rfl⟩, ⟨⟨rfl, Nat.le_of_ble_eq_true rfl, Nat.le_of_ble_eq_true rfl, by decide⟩, ⟨⟨rfl, Nat.le_of_ble_eq_true rfl⟩, ⟨⟨rfl, Nat.le_of_ble_eq_true rfl, Nat.le_of_ble_eq_true rfl, by decide⟩, ⟨⟨rfl, Nat.le_of_ble_eq_true rfl⟩, ⟨rfl, ((((((((((h _ rfl) _ rfl) _ rfl) _ rfl) _ rfl) _ rfl) _ rfl) _ rfl) _ rfl) _ rfl)⟩⟩⟩⟩⟩⟩⟩⟩⟩⟩⟩⟩)
def F_X4_init_56 (w : am_W) : am_W :=
  let w1 := am_nw w;
  let w2 := am_sr w1 56 1 (some 57);
  let w3 := am_nw w2;
  let w4 := am_sr w3 56 3 (some 58);
  let w5 := am_nw w4;
  let w6 := am_sr w5 56 4 (some 59);
  let w7 := am_nw w6;
  let w8 := am_sr w7 56 6 (some 60);
  let w9 := am_nw w8;
  let w10 := am_sr w9 56 12 (some 61);
  w10
set_option maxRecDepth 100000 in
theorem v_X4_init_56 {SP : am_S} (hs : am_Smono SP) {Q : Option Value → am_W → Prop} (i : Nat → Nat → Int32) (l : Nat → Nat → Int64) (r : Nat → Nat → Option Nat)
    (h : (∀ w1 : am_W, w1 = am_nw (57, i, l, r) → (∀ w2 : am_W, w2 = am_sr w1 56 1 (some 57) → (∀ w3 : am_W, w3 = am_nw w2 → (∀ w4 : am_W, w4 = am_sr w3 56 3 (some 58) → (∀ w5 : am_W, w5 = am_nw w4 → (∀ w6 : am_W, w6 = am_sr w5 56 4 (some 59) → (∀ w7 : am_W, w7 = am_nw w6 → (∀ w8 : am_W, w8 = am_sr w7 56 6 (some 60) → (∀ w9 : am_W, w9 = am_nw w8 → (∀ w10 : am_W, w10 = am_sr w9 56 12 (some 61) → Q none w10))))))))))) :
    am_T m_X4_init SP 62 Q 0 [some (.ref 56)] [] (57, i, l, r) :=
  am_T.wp hs (K := am_T m_X4_init SP 62 Q) (cuts := []) (fun _ _ _ _ h => h) 24
    (⟨Nat.le_of_ble_eq_true rfl, ⟨⟨rfl, Nat.le_of_ble_eq_true rfl, Nat.le_of_ble_eq_true rfl, by decide⟩, ⟨⟨rfl, Nat.le_of_ble_eq_true rfl⟩, ⟨⟨rfl, Nat.le_of_ble_eq_true rfl, Nat.le_of_ble_eq_true rfl, by decide⟩, ⟨⟨rfl, Nat.le_of_ble_eq_true rfl⟩, ⟨⟨rfl, Nat.le_of_ble_eq_true rfl, Nat.le_of_ble_eq_true rfl, by decide⟩, ⟨⟨rfl, Nat.le_of_ble_eq_true rfl⟩, ⟨⟨rfl, Nat.le_of_ble_eq_true rfl, Nat.le_of_ble_eq_true rfl, by decide⟩, ⟨⟨rfl, Nat.le_of_ble_eq_true rfl⟩, ⟨⟨rfl, Nat.le_of_ble_eq_true rfl, Nat.le_of_ble_eq_true rfl, by decide⟩, ⟨⟨rfl, Nat.le_of_ble_eq_true rfl⟩, ⟨rfl, ((((((((((h _ rfl) _ rfl) _ rfl) _ rfl) _ rfl) _ rfl) _ rfl) _ rfl) _ rfl) _ rfl)⟩⟩⟩⟩⟩⟩⟩⟩⟩⟩⟩⟩)
def F_X4_init_62 (w : am_W) : am_W :=
  let w1 := am_nw w;
  let w2 := am_sr w1 62 1 (some 63);
  let w3 := am_nw w2;
  let w4 := am_sr w3 62 3 (some 64);
  let w5 := am_nw w4;
  let w6 := am_sr w5 62 4 (some 65);
  let w7 := am_nw w6;
  let w8 := am_sr w7 62 6 (some 66);
  let w9 := am_nw w8;
  let w10 := am_sr w9 62 12 (some 67);
  w10
set_option maxRecDepth 100000 in
theorem v_X4_init_62 {SP : am_S} (hs : am_Smono SP) {Q : Option Value → am_W → Prop} (i : Nat → Nat → Int32) (l : Nat → Nat → Int64) (r : Nat → Nat → Option Nat)
    (h : (∀ w1 : am_W, w1 = am_nw (63, i, l, r) → (∀ w2 : am_W, w2 = am_sr w1 62 1 (some 63) → (∀ w3 : am_W, w3 = am_nw w2 → (∀ w4 : am_W, w4 = am_sr w3 62 3 (some 64) → (∀ w5 : am_W, w5 = am_nw w4 → (∀ w6 : am_W, w6 = am_sr w5 62 4 (some 65) → (∀ w7 : am_W, w7 = am_nw w6 → (∀ w8 : am_W, w8 = am_sr w7 62 6 (some 66) → (∀ w9 : am_W, w9 = am_nw w8 → (∀ w10 : am_W, w10 = am_sr w9 62 12 (some 67) → Q none w10))))))))))) :
    am_T m_X4_init SP 68 Q 0 [some (.ref 62)] [] (63, i, l, r) :=
  am_T.wp hs (K := am_T m_X4_init SP 68 Q) (cuts := []) (fun _ _ _ _ h => h) 24
    (⟨Nat.le_of_ble_eq_true rfl, ⟨⟨rfl, Nat.le_of_ble_eq_true rfl, Nat.le_of_ble_eq_true rfl, by decide⟩, ⟨⟨rfl, Nat.le_of_ble_eq_true rfl⟩, ⟨⟨rfl, Nat.le_of_ble_eq_true rfl, Nat.le_of_ble_eq_true rfl, by decide⟩, ⟨⟨rfl, Nat.le_of_ble_eq_true rfl⟩, ⟨⟨rfl, Nat.le_of_ble_eq_true rfl, Nat.le_of_ble_eq_true rfl, by decide⟩, ⟨⟨rfl, Nat.le_of_ble_eq_true rfl⟩, ⟨⟨rfl, Nat.le_of_ble_eq_true rfl, Nat.le_of_ble_eq_true rfl, by decide⟩, ⟨⟨rfl, Nat.le_of_ble_eq_true rfl⟩, ⟨⟨rfl, Nat.le_of_ble_eq_true rfl, Nat.le_of_ble_eq_true rfl, by decide⟩, ⟨⟨rfl, Nat.le_of_ble_eq_true rfl⟩, ⟨rfl, ((((((((((h _ rfl) _ rfl) _ rfl) _ rfl) _ rfl) _ rfl) _ rfl) _ rfl) _ rfl) _ rfl)⟩⟩⟩⟩⟩⟩⟩⟩⟩⟩⟩⟩)
