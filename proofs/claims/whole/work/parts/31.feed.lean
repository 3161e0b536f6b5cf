/-! ===== the tape: feed ===== -/
/-- one byte more on the class's tape -/
def tp_s (w : am_W) (z : Int32) : am_W := am_si (am_si w 2 (Int32.toNatClampNeg (am_gi w 1 4)) (Int8.toInt32 (Int32.toInt8 (Int8.toInt32 (Int32.toInt8 z))))) 1 4 (am_gi w 1 4 + 1)
def tp_4 (w : am_W) (x : Int32) : am_W := tp_s (tp_s (tp_s (tp_s w (x >>> (24 &&& 31))) (x >>> ((24 + (-8)) &&& 31))) (x >>> (((24 + (-8)) + (-8)) &&& 31))) (x >>> ((((24 + (-8)) + (-8)) + (-8)) &&& 31))
theorem tp_s_len (w : am_W) (z : Int32) : am_gi (tp_s w z) 1 4 = am_gi w 1 4 + 1 := am_gi_self
theorem tp_s_of {w w3 : am_W} {z : Int32} (h : w3 = am_si w 2 (Int32.toNatClampNeg (am_gi w 1 4)) (Int8.toInt32 (Int32.toInt8 (Int8.toInt32 (Int32.toInt8 z))))) : am_si w3 1 4 (am_gi w3 1 4 + 1) = tp_s w z := by
  have : am_gi w3 1 4 = am_gi w 1 4 := by rw [h]; exact am_gi_ne (by omega)
  rw [this, h]
  rfl
theorem tp_len {w : am_W} {n : Nat} (h : am_gi w 1 4 = nI n) (z : Int32) : am_gi (tp_s w z) 1 4 = nI (n + 1) := by rw [tp_s_len, h]; exact nI_1 n
theorem tp_4_len {w : am_W} {n : Nat} (h : am_gi w 1 4 = nI n) (x : Int32) : am_gi (tp_4 w x) 1 4 = nI (n + 4) := tp_len (tp_len (tp_len (tp_len h _) _) _) _
theorem tp_4_fin {w : am_W} (h : am_fin w) (x : Int32) : am_fin (tp_4 w x) := h
theorem tp_ok {w : am_W} {n : Nat} (h : am_gi w 1 4 = nI n) (hn : n < 900) : ¬ 900 ≤ am_gi w 1 4 ∧ vp_in (am_gi w 1 4) 900 := by
  rw [h]
  exact ⟨nI_ge (a := n) (b := 900) hn (by omega), vp_in_nI hn (by omega)⟩
/-- one byte more on the model's tape -/
def tm_s (w : am_W) (z : Int32) : am_W := am_si (am_si w 107 (Int32.toNatClampNeg (am_gi w 106 1)) (z &&& 255)) 106 1 (am_gi w 106 1 + 1)
def tm_4 (w : am_W) (x : Int32) : am_W := tm_s (tm_s (tm_s (tm_s w (x >>> (24 &&& 31))) (x >>> ((24 + (-8)) &&& 31))) (x >>> (((24 + (-8)) + (-8)) &&& 31))) (x >>> ((((24 + (-8)) + (-8)) + (-8)) &&& 31))
theorem tm_s_len (w : am_W) (z : Int32) : am_gi (tm_s w z) 106 1 = am_gi w 106 1 + 1 := am_gi_self
theorem tm_s_of {w w3 : am_W} {z : Int32} (h : w3 = am_si w 107 (Int32.toNatClampNeg (am_gi w 106 1)) (z &&& 255)) : am_si w3 106 1 (am_gi w3 106 1 + 1) = tm_s w z := by
  have : am_gi w3 106 1 = am_gi w 106 1 := by rw [h]; exact am_gi_ne (by omega)
  rw [this, h]
  rfl
theorem tm_len {w : am_W} {n : Nat} (h : am_gi w 106 1 = nI n) (z : Int32) : am_gi (tm_s w z) 106 1 = nI (n + 1) := by rw [tm_s_len, h]; exact nI_1 n
theorem tm_4_len {w : am_W} {n : Nat} (h : am_gi w 106 1 = nI n) (x : Int32) : am_gi (tm_4 w x) 106 1 = nI (n + 4) := tm_len (tm_len (tm_len (tm_len h _) _) _) _
theorem tm_4_fin {w : am_W} (h : am_fin w) (x : Int32) : am_fin (tm_4 w x) := h
theorem tm_ok {w : am_W} {n : Nat} (h : am_gi w 106 1 = nI n) (hn : n < 900) : vp_in (am_gi w 106 1) 900 := by
  rw [h]
  exact vp_in_nI hn (by omega)
def pre_X8_append (as : List Value) (w : am_W) : Prop := match as with
  | [.ref 1, .int x] => am_fin w ∧ (∃ n, n ≤ 896 ∧ am_gi w 1 4 = nI n)
  | _ => False
def post_X8_append (as : List Value) (w : am_W) (r : Option Value) (w1 : am_W) : Prop := match as with
  | [.ref 1, .int x] => am_fin w1 ∧ r = none ∧ w1 = tp_4 w x
  | _ => False
set_option maxRecDepth 100000 in
theorem u_X8_append_e {SP : am_S} (hs : am_Smono SP) {Q : Option Value → am_W → Prop} {w : am_W} (hf : am_fin w) (p1 : Int32)
    (h : ((900 ≤ (am_gi w 1 4) → Q none w) ∧ (¬ 900 ≤ (am_gi w 1 4) → (vp_in (am_gi w 1 4) 900 ∧ ∀ w3 : am_W, w3 = am_si w 2 (Int32.toNatClampNeg (am_gi w 1 4)) (Int8.toInt32 (Int32.toInt8 (Int8.toInt32 (Int32.toInt8 (p1 >>> (24 &&& 31)))))) → (∀ w4 : am_W, w4 = am_si w3 1 4 ((am_gi w3 1 4) + 1) → ((900 ≤ (am_gi w4 1 4) → Q none w4) ∧ (¬ 900 ≤ (am_gi w4 1 4) → (vp_in (am_gi w4 1 4) 900 ∧ ∀ w7 : am_W, w7 = am_si w4 2 (Int32.toNatClampNeg (am_gi w4 1 4)) (Int8.toInt32 (Int32.toInt8 (Int8.toInt32 (Int32.toInt8 (p1 >>> ((24 + (-8)) &&& 31)))))) → (∀ w8 : am_W, w8 = am_si w7 1 4 ((am_gi w7 1 4) + 1) → ((900 ≤ (am_gi w8 1 4) → Q none w8) ∧ (¬ 900 ≤ (am_gi w8 1 4) → (vp_in (am_gi w8 1 4) 900 ∧ ∀ w11 : am_W, w11 = am_si w8 2 (Int32.toNatClampNeg (am_gi w8 1 4)) (Int8.toInt32 (Int32.toInt8 (Int8.toInt32 (Int32.toInt8 (p1 >>> (((24 + (-8)) + (-8)) &&& 31)))))) → (∀ w12 : am_W, w12 = am_si w11 1 4 ((am_gi w11 1 4) + 1) → ((900 ≤ (am_gi w12 1 4) → Q none w12) ∧ (¬ 900 ≤ (am_gi w12 1 4) → (vp_in (am_gi w12 1 4) 900 ∧ ∀ w15 : am_W, w15 = am_si w12 2 (Int32.toNatClampNeg (am_gi w12 1 4)) (Int8.toInt32 (Int32.toInt8 (Int8.toInt32 (Int32.toInt8 (p1 >>> ((((24 + (-8)) + (-8)) + (-8)) &&& 31)))))) → (∀ w16 : am_W, w16 = am_si w15 1 4 ((am_gi w15 1 4) + 1) → Q none w16))))))))))))))))) :
    am_T m_X8_append SP 168 Q 0 [some (.ref 1), some (.int p1), none] [] w :=
  am_T.wp hs (K := am_T m_X8_append SP 168 Q) (cuts := []) (fun _ _ _ _ h => h) 98
    (⟨fun c1 => absurd c1 (by decide), fun c1 => ⟨am_a hf rfl, ⟨fun c2 => ⟨(hf).1, ((h).1 c2)⟩, fun c2 => ⟨am_a hf rfl, Or.inl ⟨2, (hf).2 1 0 2 rfl, ⟨am_a hf rfl, ⟨900, (((h).2 c2)).1, Or.inl ⟨am_a hf rfl, ⟨am_a hf rfl, ⟨am_a hf rfl, ⟨fun c5 => absurd c5 (by decide), fun c5 => ⟨am_a hf rfl, ⟨fun c6 => ⟨(hf).1, (((((((h).2 c2)).2 _ rfl) _ rfl)).1 c6)⟩, fun c6 => ⟨am_a hf rfl, Or.inl ⟨2, (hf).2 1 0 2 rfl, ⟨am_a hf rfl, ⟨900, ((((((((h).2 c2)).2 _ rfl) _ rfl)).2 c6)).1, Or.inl ⟨am_a hf rfl, ⟨am_a hf rfl, ⟨am_a hf rfl, ⟨fun c9 => absurd c9 (by decide), fun c9 => ⟨am_a hf rfl, ⟨fun c10 => ⟨(hf).1, ((((((((((((h).2 c2)).2 _ rfl) _ rfl)).2 c6)).2 _ rfl) _ rfl)).1 c10)⟩, fun c10 => ⟨am_a hf rfl, Or.inl ⟨2, (hf).2 1 0 2 rfl, ⟨am_a hf rfl, ⟨900, (((((((((((((h).2 c2)).2 _ rfl) _ rfl)).2 c6)).2 _ rfl) _ rfl)).2 c10)).1, Or.inl ⟨am_a hf rfl, ⟨am_a hf rfl, ⟨am_a hf rfl, ⟨fun c13 => absurd c13 (by decide), fun c13 => ⟨am_a hf rfl, ⟨fun c14 => ⟨(hf).1, (((((((((((((((((h).2 c2)).2 _ rfl) _ rfl)).2 c6)).2 _ rfl) _ rfl)).2 c10)).2 _ rfl) _ rfl)).1 c14)⟩, fun c14 => ⟨am_a hf rfl, Or.inl ⟨2, (hf).2 1 0 2 rfl, ⟨am_a hf rfl, ⟨900, ((((((((((((((((((h).2 c2)).2 _ rfl) _ rfl)).2 c6)).2 _ rfl) _ rfl)).2 c10)).2 _ rfl) _ rfl)).2 c14)).1, Or.inl ⟨am_a hf rfl, ⟨am_a hf rfl, ⟨am_a hf rfl, ⟨fun c17 => ⟨(hf).1, ((((((((((((((((((((h).2 c2)).2 _ rfl) _ rfl)).2 c6)).2 _ rfl) _ rfl)).2 c10)).2 _ rfl) _ rfl)).2 c14)).2 _ rfl) _ rfl)⟩, fun c17 => absurd c17 (by decide)⟩⟩⟩⟩⟩⟩⟩⟩⟩⟩⟩⟩⟩⟩⟩⟩⟩⟩⟩⟩⟩⟩⟩⟩⟩⟩⟩⟩⟩⟩⟩⟩⟩⟩⟩⟩⟩⟩⟩⟩⟩)

def sp_X8_append : am_S := am_spl []
theorem sm_X8_append : am_Smono sp_X8_append := am_spl_mono _
set_option maxRecDepth 100000 in
theorem k_X8_append (l : Launch) {g : am_G} (hg : am_gok g) (hlen : ∀ as w K, am_sp pre_X8_append post_X8_append as w K → (am_ea as).length ≤ 3) (hT : ∀ as w K, am_sp pre_X8_append post_X8_append as w K → am_T m_X8_append sp_X8_append (w.1 + am_mc 90) K 0 (am_ent 3 as) [] w) : am_Met l g 0 90 (am_sp pre_X8_append post_X8_append) := by
  refine am_sound (own := 8) (M := m_X8_append) (SP := sp_X8_append) hg (by decide +kernel) ok_X8_append (by decide +kernel) ?_ ?_ (am_spl_ext _ rfl g 8) hlen hT
  · intro q hq hk
    have hm : q.2.2.2.1 ∈ am_cs m_X8_append := am_cs_in hq hk
    rw [show am_cs m_X8_append = [] by decide +kernel] at hm
    cases hm
  · intro q hq hk
    exact absurd hk (am_no61 (M := m_X8_append) (by decide +kernel) q hq)
set_option maxRecDepth 100000 in
theorem c_X8_append (l : Launch) {g : am_G} (hg : am_gok g) : am_Met l g 0 90 (am_sp pre_X8_append post_X8_append) := by
  refine k_X8_append l hg ?_ ?_
  · intro as w K h
    obtain ⟨hp, -⟩ := h
    unfold pre_X8_append at hp
    split at hp
    · exact Nat.le_of_ble_eq_true rfl
    · exact hp.elim
  · intro as w K h
    obtain ⟨hp, hK⟩ := h
    unfold pre_X8_append at hp
    split at hp
    · next x =>
      obtain ⟨hf, hp⟩ := hp
      have e : w.1 + am_mc 90 = 168 := by rw [hf.1]; rfl
      rw [e]
      refine u_X8_append_e sm_X8_append hf x ?_
      obtain ⟨n, hn, hl0⟩ := hp
      have o0 := tp_ok hl0 (by omega)
      refine ⟨fun c => absurd c o0.1, fun _ => ⟨o0.2, fun w3 e3 w4 e4 => ?_⟩⟩
      rw [tp_s_of e3] at e4
      have hl1 := tp_len hl0 (x >>> (24 &&& 31))
      rw [← e4] at hl1
      have o1 := tp_ok hl1 (by omega)
      refine ⟨fun c => absurd c o1.1, fun _ => ⟨o1.2, fun w7 e7 w8 e8 => ?_⟩⟩
      rw [tp_s_of e7] at e8
      have hl2 := tp_len hl1 (x >>> ((24 + (-8)) &&& 31))
      rw [← e8] at hl2
      have o2 := tp_ok hl2 (by omega)
      refine ⟨fun c => absurd c o2.1, fun _ => ⟨o2.2, fun w11 e11 w12 e12 => ?_⟩⟩
      rw [tp_s_of e11] at e12
      have hl3 := tp_len hl2 (x >>> (((24 + (-8)) + (-8)) &&& 31))
      rw [← e12] at hl3
      have o3 := tp_ok hl3 (by omega)
      refine ⟨fun c => absurd c o3.1, fun _ => ⟨o3.2, fun w15 e15 w16 e16 => ?_⟩⟩
      rw [tp_s_of e15] at e16
      refine hK _ _ ⟨?_, rfl, ?_⟩
      · rw [e16, e12, e8, e4]
        exact hf
      · rw [e16, e12, e8, e4]
        rfl
    · exact hp.elim
def pre_X12_four (as : List Value) (w : am_W) : Prop := match as with
  | [.ref 106, .int x] => am_fin w ∧ (∃ n, n ≤ 896 ∧ am_gi w 106 1 = nI n)
  | _ => False
def post_X12_four (as : List Value) (w : am_W) (r : Option Value) (w1 : am_W) : Prop := match as with
  | [.ref 106, .int x] => am_fin w1 ∧ r = none ∧ w1 = tm_4 w x
  | _ => False
set_option maxRecDepth 100000 in
theorem u_X12_four_e {SP : am_S} (hs : am_Smono SP) {Q : Option Value → am_W → Prop} {w : am_W} (hf : am_fin w) (p1 : Int32)
    (h : (vp_in (am_gi w 106 1) 900 ∧ ∀ w2 : am_W, w2 = am_si w 107 (Int32.toNatClampNeg (am_gi w 106 1)) ((p1 >>> (24 &&& 31)) &&& 255) → (∀ w3 : am_W, w3 = am_si w2 106 1 ((am_gi w2 106 1) + 1) → (vp_in (am_gi w3 106 1) 900 ∧ ∀ w5 : am_W, w5 = am_si w3 107 (Int32.toNatClampNeg (am_gi w3 106 1)) ((p1 >>> ((24 + (-8)) &&& 31)) &&& 255) → (∀ w6 : am_W, w6 = am_si w5 106 1 ((am_gi w5 106 1) + 1) → (vp_in (am_gi w6 106 1) 900 ∧ ∀ w8 : am_W, w8 = am_si w6 107 (Int32.toNatClampNeg (am_gi w6 106 1)) ((p1 >>> (((24 + (-8)) + (-8)) &&& 31)) &&& 255) → (∀ w9 : am_W, w9 = am_si w8 106 1 ((am_gi w8 106 1) + 1) → (vp_in (am_gi w9 106 1) 900 ∧ ∀ w11 : am_W, w11 = am_si w9 107 (Int32.toNatClampNeg (am_gi w9 106 1)) ((p1 >>> ((((24 + (-8)) + (-8)) + (-8)) &&& 31)) &&& 255) → (∀ w12 : am_W, w12 = am_si w11 106 1 ((am_gi w11 106 1) + 1) → Q none w12))))))))) :
    am_T m_X12_four SP 168 Q 0 [some (.ref 106), some (.int p1), none] [] w :=
  am_T.wp hs (K := am_T m_X12_four SP 168 Q) (cuts := []) (fun _ _ _ _ h => h) 86
    (⟨fun c1 => absurd c1 (by decide), fun c1 => ⟨am_a hf rfl, Or.inl ⟨107, (hf).2 106 0 107 rfl, ⟨am_a hf rfl, ⟨900, am_a hf rfl, (h).1, ⟨am_a hf rfl, ⟨am_a hf rfl, ⟨fun c4 => absurd c4 (by decide), fun c4 => ⟨am_a hf rfl, Or.inl ⟨107, (hf).2 106 0 107 rfl, ⟨am_a hf rfl, ⟨900, am_a hf rfl, ((((h).2 _ rfl) _ rfl)).1, ⟨am_a hf rfl, ⟨am_a hf rfl, ⟨fun c7 => absurd c7 (by decide), fun c7 => ⟨am_a hf rfl, Or.inl ⟨107, (hf).2 106 0 107 rfl, ⟨am_a hf rfl, ⟨900, am_a hf rfl, (((((((h).2 _ rfl) _ rfl)).2 _ rfl) _ rfl)).1, ⟨am_a hf rfl, ⟨am_a hf rfl, ⟨fun c10 => absurd c10 (by decide), fun c10 => ⟨am_a hf rfl, Or.inl ⟨107, (hf).2 106 0 107 rfl, ⟨am_a hf rfl, ⟨900, am_a hf rfl, ((((((((((h).2 _ rfl) _ rfl)).2 _ rfl) _ rfl)).2 _ rfl) _ rfl)).1, ⟨am_a hf rfl, ⟨am_a hf rfl, ⟨fun c13 => ⟨(hf).1, ((((((((((((h).2 _ rfl) _ rfl)).2 _ rfl) _ rfl)).2 _ rfl) _ rfl)).2 _ rfl) _ rfl)⟩, fun c13 => absurd c13 (by decide)⟩⟩⟩⟩⟩⟩⟩⟩⟩⟩⟩⟩⟩⟩⟩⟩⟩⟩⟩⟩⟩⟩⟩⟩⟩⟩⟩⟩⟩)

def sp_X12_four : am_S := am_spl []
theorem sm_X12_four : am_Smono sp_X12_four := am_spl_mono _
set_option maxRecDepth 100000 in
theorem k_X12_four (l : Launch) {g : am_G} (hg : am_gok g) (hlen : ∀ as w K, am_sp pre_X12_four post_X12_four as w K → (am_ea as).length ≤ 3) (hT : ∀ as w K, am_sp pre_X12_four post_X12_four as w K → am_T m_X12_four sp_X12_four (w.1 + am_mc 185) K 0 (am_ent 3 as) [] w) : am_Met l g 0 185 (am_sp pre_X12_four post_X12_four) := by
  refine am_sound (own := 12) (M := m_X12_four) (SP := sp_X12_four) hg (by decide +kernel) ok_X12_four (by decide +kernel) ?_ ?_ (am_spl_ext _ rfl g 12) hlen hT
  · intro q hq hk
    have hm : q.2.2.2.1 ∈ am_cs m_X12_four := am_cs_in hq hk
    rw [show am_cs m_X12_four = [] by decide +kernel] at hm
    cases hm
  · intro q hq hk
    exact absurd hk (am_no61 (M := m_X12_four) (by decide +kernel) q hq)
set_option maxRecDepth 100000 in
theorem c_X12_four (l : Launch) {g : am_G} (hg : am_gok g) : am_Met l g 0 185 (am_sp pre_X12_four post_X12_four) := by
  refine k_X12_four l hg ?_ ?_
  · intro as w K h
    obtain ⟨hp, -⟩ := h
    unfold pre_X12_four at hp
    split at hp
    · exact Nat.le_of_ble_eq_true rfl
    · exact hp.elim
  · intro as w K h
    obtain ⟨hp, hK⟩ := h
    unfold pre_X12_four at hp
    split at hp
    · next x =>
      obtain ⟨hf, hp⟩ := hp
      have e : w.1 + am_mc 185 = 168 := by rw [hf.1]; rfl
      rw [e]
      refine u_X12_four_e sm_X12_four hf x ?_
      obtain ⟨n, hn, hl0⟩ := hp
      refine ⟨tm_ok hl0 (by omega), fun w3 e3 w4 e4 => ?_⟩
      rw [tm_s_of e3] at e4
      have hl1 := tm_len hl0 (x >>> (24 &&& 31))
      rw [← e4] at hl1
      refine ⟨tm_ok hl1 (by omega), fun w7 e7 w8 e8 => ?_⟩
      rw [tm_s_of e7] at e8
      have hl2 := tm_len hl1 (x >>> ((24 + (-8)) &&& 31))
      rw [← e8] at hl2
      refine ⟨tm_ok hl2 (by omega), fun w11 e11 w12 e12 => ?_⟩
      rw [tm_s_of e11] at e12
      have hl3 := tm_len hl2 (x >>> (((24 + (-8)) + (-8)) &&& 31))
      rw [← e12] at hl3
      refine ⟨tm_ok hl3 (by omega), fun w15 e15 w16 e16 => ?_⟩
      rw [tm_s_of e15] at e16
      refine hK _ _ ⟨?_, rfl, ?_⟩
      · rw [e16, e12, e8, e4]
        exact hf
      · rw [e16, e12, e8, e4]
        rfl
    · exact hp.elim
def pre_X11_feed (as : List Value) (w : am_W) : Prop := match as with
  | [.ref 0, .int p1, .int p2, .int p3, .int p4, .int p5] => am_fin w ∧ (∃ n, n ≤ 900 ∧ am_gi w 1 4 = nI n)
  | _ => False
def post_X11_feed (as : List Value) (w : am_W) (r : Option Value) (w1 : am_W) : Prop := match as with
  | [.ref 0, .int p1, .int p2, .int p3, .int p4, .int p5] => am_fin w1 ∧ r = some (.int (if am_gi w 1 4 ≤ 880 then am_gi (tp_4 (tp_4 (tp_4 (tp_4 (tp_4 w p1) p2) p3) p4) p5) 1 4 else -1)) ∧ w1 = (if am_gi w 1 4 ≤ 880 then tp_4 (tp_4 (tp_4 (tp_4 (tp_4 w p1) p2) p3) p4) p5 else w)
  | _ => False
def sp_X11_feed : am_S := am_spl [(90, pre_X8_append, post_X8_append)]
theorem sm_X11_feed : am_Smono sp_X11_feed := am_spl_mono _
set_option maxRecDepth 100000 in
theorem k_X11_feed (l : Launch) {g : am_G} (hg : am_gok g) (hlen : ∀ as w K, am_sp pre_X11_feed post_X11_feed as w K → (am_ea as).length ≤ 6) (hT : ∀ as w K, am_sp pre_X11_feed post_X11_feed as w K → am_T m_X11_feed sp_X11_feed (w.1 + am_mc 146) K 0 (am_ent 6 as) [] w) : am_Met l g 1 146 (am_sp pre_X11_feed post_X11_feed) := by
  refine am_sound (own := 11) (M := m_X11_feed) (SP := sp_X11_feed) hg (by decide +kernel) ok_X11_feed (by decide +kernel) ?_ ?_ (am_spl_ext _ rfl g 11) hlen hT
  · intro q hq hk
    have hm : q.2.2.2.1 ∈ am_cs m_X11_feed := am_cs_in hq hk
    rw [show am_cs m_X11_feed = [90, 90, 90, 90, 90] by decide +kernel] at hm
    simp only [List.mem_cons, List.not_mem_nil, or_false] at hm
    rcases hm with hm | hm | hm | hm | hm
    · rw [hm]; exact ⟨0, by omega, c_X8_append l hg⟩
    · rw [hm]; exact ⟨0, by omega, c_X8_append l hg⟩
    · rw [hm]; exact ⟨0, by omega, c_X8_append l hg⟩
    · rw [hm]; exact ⟨0, by omega, c_X8_append l hg⟩
    · rw [hm]; exact ⟨0, by omega, c_X8_append l hg⟩
  · intro q hq hk
    exact absurd hk (am_no61 (M := m_X11_feed) (by decide +kernel) q hq)
set_option maxRecDepth 100000 in
theorem c_X11_feed (l : Launch) {g : am_G} (hg : am_gok g) : am_Met l g 1 146 (am_sp pre_X11_feed post_X11_feed) := by
  refine k_X11_feed l hg ?_ ?_
  · intro as w K h
    obtain ⟨hp, -⟩ := h
    unfold pre_X11_feed at hp
    split at hp
    · exact Nat.le_of_ble_eq_true rfl
    · exact hp.elim
  · intro as w K h
    obtain ⟨hp, hK⟩ := h
    unfold pre_X11_feed at hp
    split at hp
    · next p1 p2 p3 p4 p5 =>
      obtain ⟨hf, hp⟩ := hp
      have e : w.1 + am_mc 146 = 168 := by rw [hf.1]; rfl
      rw [e]
      refine v_X11_feed_e sm_X11_feed hf p1 p2 p3 p4 p5 ?_
      obtain ⟨n, hn, hl0⟩ := hp
      refine ⟨fun c1 => ?_, fun c1 => hK _ _ ⟨hf, by simp [c1]⟩⟩
      have hn0 : n ≤ 880 := by rw [hl0] at c1; exact (nI_leI (by omega) (by omega)).mp c1
      have hl1 := tp_4_len hl0 p1
      have hl2 := tp_4_len hl1 p2
      have hl3 := tp_4_len hl2 p3
      have hl4 := tp_4_len hl3 p4
      have hl5 := tp_4_len hl4 p5
      refine ⟨⟨hf, n, by omega, hl0⟩, fun y w3 q => ?_⟩
      obtain ⟨hf3, rfl, rfl⟩ := q
      refine ⟨hf3, rfl, ⟨hf3, n + 4, by omega, hl1⟩, fun y w7 q => ?_⟩
      obtain ⟨hf7, rfl, rfl⟩ := q
      refine ⟨hf7, rfl, ⟨hf7, n + 4 + 4, by omega, hl2⟩, fun y w11 q => ?_⟩
      obtain ⟨hf11, rfl, rfl⟩ := q
      refine ⟨hf11, rfl, ⟨hf11, n + 4 + 4 + 4, by omega, hl3⟩, fun y w15 q => ?_⟩
      obtain ⟨hf15, rfl, rfl⟩ := q
      refine ⟨hf15, rfl, ⟨hf15, n + 4 + 4 + 4 + 4, by omega, hl4⟩, fun y w19 q => ?_⟩
      obtain ⟨hf19, rfl, rfl⟩ := q
      refine ⟨hf19, rfl, hK _ _ ⟨hf19, ?_⟩⟩
      rw [if_pos c1, if_pos c1]
      exact ⟨rfl, rfl⟩
    · exact hp.elim
def pre_X12_feed (as : List Value) (w : am_W) : Prop := match as with
  | [.ref 106, .int p1, .int p2, .int p3, .int p4, .int p5] => am_fin w ∧ (∃ n, n ≤ 900 ∧ am_gi w 106 1 = nI n)
  | _ => False
def post_X12_feed (as : List Value) (w : am_W) (r : Option Value) (w1 : am_W) : Prop := match as with
  | [.ref 106, .int p1, .int p2, .int p3, .int p4, .int p5] => am_fin w1 ∧ r = some (.int (if am_gi w 106 1 + 20 ≤ 900 then am_gi (tm_4 (tm_4 (tm_4 (tm_4 (tm_4 w p1) p2) p3) p4) p5) 106 1 else -1)) ∧ w1 = (if am_gi w 106 1 + 20 ≤ 900 then tm_4 (tm_4 (tm_4 (tm_4 (tm_4 w p1) p2) p3) p4) p5 else w)
  | _ => False
def sp_X12_feed : am_S := am_spl [(185, pre_X12_four, post_X12_four)]
theorem sm_X12_feed : am_Smono sp_X12_feed := am_spl_mono _
set_option maxRecDepth 100000 in
theorem k_X12_feed (l : Launch) {g : am_G} (hg : am_gok g) (hlen : ∀ as w K, am_sp pre_X12_feed post_X12_feed as w K → (am_ea as).length ≤ 6) (hT : ∀ as w K, am_sp pre_X12_feed post_X12_feed as w K → am_T m_X12_feed sp_X12_feed (w.1 + am_mc 184) K 0 (am_ent 6 as) [] w) : am_Met l g 1 184 (am_sp pre_X12_feed post_X12_feed) := by
  refine am_sound (own := 12) (M := m_X12_feed) (SP := sp_X12_feed) hg (by decide +kernel) ok_X12_feed (by decide +kernel) ?_ ?_ (am_spl_ext _ rfl g 12) hlen hT
  · intro q hq hk
    have hm : q.2.2.2.1 ∈ am_cs m_X12_feed := am_cs_in hq hk
    rw [show am_cs m_X12_feed = [185, 185, 185, 185, 185] by decide +kernel] at hm
    simp only [List.mem_cons, List.not_mem_nil, or_false] at hm
    rcases hm with hm | hm | hm | hm | hm
    · rw [hm]; exact ⟨0, by omega, c_X12_four l hg⟩
    · rw [hm]; exact ⟨0, by omega, c_X12_four l hg⟩
    · rw [hm]; exact ⟨0, by omega, c_X12_four l hg⟩
    · rw [hm]; exact ⟨0, by omega, c_X12_four l hg⟩
    · rw [hm]; exact ⟨0, by omega, c_X12_four l hg⟩
  · intro q hq hk
    exact absurd hk (am_no61 (M := m_X12_feed) (by decide +kernel) q hq)
set_option maxRecDepth 100000 in
theorem c_X12_feed (l : Launch) {g : am_G} (hg : am_gok g) : am_Met l g 1 184 (am_sp pre_X12_feed post_X12_feed) := by
  refine k_X12_feed l hg ?_ ?_
  · intro as w K h
    obtain ⟨hp, -⟩ := h
    unfold pre_X12_feed at hp
    split at hp
    · exact Nat.le_of_ble_eq_true rfl
    · exact hp.elim
  · intro as w K h
    obtain ⟨hp, hK⟩ := h
    unfold pre_X12_feed at hp
    split at hp
    · next p1 p2 p3 p4 p5 =>
      obtain ⟨hf, hp⟩ := hp
      have e : w.1 + am_mc 184 = 168 := by rw [hf.1]; rfl
      rw [e]
      refine v_X12_feed_e sm_X12_feed hf p1 p2 p3 p4 p5 ?_
      obtain ⟨n, hn, hl0⟩ := hp
      refine ⟨fun c1 => ?_, fun c1 => hK _ _ ⟨hf, by simp [c1]⟩⟩
      have hn0 : n ≤ 880 := by rw [hl0, show (20 : Int32) = nI 20 from rfl, nI_add] at c1; have := (nI_leI (b := 900) (by omega) (by omega)).mp c1; omega
      have hl1 := tm_4_len hl0 p1
      have hl2 := tm_4_len hl1 p2
      have hl3 := tm_4_len hl2 p3
      have hl4 := tm_4_len hl3 p4
      have hl5 := tm_4_len hl4 p5
      refine ⟨⟨hf, n, by omega, hl0⟩, fun y w3 q => ?_⟩
      obtain ⟨hf3, rfl, rfl⟩ := q
      refine ⟨hf3, rfl, ⟨hf3, n + 4, by omega, hl1⟩, fun y w7 q => ?_⟩
      obtain ⟨hf7, rfl, rfl⟩ := q
      refine ⟨hf7, rfl, ⟨hf7, n + 4 + 4, by omega, hl2⟩, fun y w11 q => ?_⟩
      obtain ⟨hf11, rfl, rfl⟩ := q
      refine ⟨hf11, rfl, ⟨hf11, n + 4 + 4 + 4, by omega, hl3⟩, fun y w15 q => ?_⟩
      obtain ⟨hf15, rfl, rfl⟩ := q
      refine ⟨hf15, rfl, ⟨hf15, n + 4 + 4 + 4 + 4, by omega, hl4⟩, fun y w19 q => ?_⟩
      obtain ⟨hf19, rfl, rfl⟩ := q
      refine ⟨hf19, rfl, hK _ _ ⟨hf19, ?_⟩⟩
      rw [if_pos c1, if_pos c1]
      exact ⟨rfl, rfl⟩
    · exact hp.elim
