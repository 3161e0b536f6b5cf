/-! ===== constructors ===== -/
def zz_ (m : fm_) (n : Nat) : fm_ := (am_z m.1 n 0, am_z m.2 n 0)
theorem fc_rt {a q : fm_} {n : Nat} {r : Nat → Nat → Option Nat} {Q : Option Value → am_W → Prop} (h : some a = some q) (hQ : Q none (mk_ n r q)) : Q none (mk_ n r a) := by
  cases h
  exact hQ
/-- a way in which a constructor runs: this, its arguments, cells before and behind, what must hold of the references, the references behind, the memory behind -/
abbrev cs_t : Type := Nat × List Value × Nat × Nat × ((Nat → Nat → Option Nat) → Prop) × ((Nat → Nat → Option Nat) → Nat → Nat → Option Nat) × (fm_ → Option fm_)
def cs_l (l : List cs_t) : List Value → am_W → (Option Value → am_W → Prop) → Prop := fun as w K =>
  ∃ (k : Nat) (q : cs_t), l[k]? = some q ∧ as = .ref q.1 :: q.2.1 ∧ w.1 = q.2.2.1 ∧ q.2.2.2.2.1 w.2.2.2 ∧ ∃ m1, q.2.2.2.2.2.2 (w.2.1, w.2.2.1) = some m1 ∧ K none (mk_ q.2.2.2.1 (q.2.2.2.2.2.1 w.2.2.2) m1)
def sp_m (S : List Value → am_W → (Option Value → am_W → Prop) → Prop) : Prop := ∀ (as : List Value) (w : am_W) (Y Z : Option Value → am_W → Prop), (∀ r w1, Y r w1 → Z r w1) → S as w Y → S as w Z
theorem cs_mono {l : List cs_t} : sp_m (cs_l l) := by
  intro as w Y Z h k
  obtain ⟨k, q, h1, h2, h3, h4, m1, h5, h6⟩ := k
  exact ⟨k, q, h1, h2, h3, h4, m1, h5, h _ _ h6⟩
theorem fn_s_m {F : Nat → (Nat → Nat → Option Nat) → Prop} {G : Nat → (Nat → Nat → Option Nat) → List Value → fm_ → Option (Option Value × fm_)} : sp_m (fn_s F G) := fun _ _ _ _ h k => fn_s_mono h k
theorem fn_s2_m {F : Nat → (Nat → Nat → Option Nat) → Prop} {G : Nat → (Nat → Nat → Option Nat) → List Value → fm_ → Option (Option Value × fm_)} : sp_m (fn_s2 F G) := fun _ _ _ _ h k => fn_s2_mono h k
def sp_c (k : Nat) (S : List Value → am_W → (Option Value → am_W → Prop) → Prop) (SP : am_S) : am_S := fun i => bif Nat.beq k i then S else SP i
theorem sp_c_mono {k : Nat} {S : List Value → am_W → (Option Value → am_W → Prop) → Prop} {SP : am_S} (h1 : sp_m S) (h2 : am_Smono SP) : am_Smono (sp_c k S SP) := by
  intro i as w Y Z h q
  unfold sp_c at q ⊢
  cases hb : Nat.beq k i with
  | true => rw [hb] at q; exact h1 _ _ _ _ h q
  | false => rw [hb] at q; exact h2 i as w Y Z h q
theorem am_s0_mono : am_Smono (fun _ => am_s0) := fun _ _ _ _ _ _ k => k
theorem sp_c_no {k : Nat} {S : List Value → am_W → (Option Value → am_W → Prop) → Prop} {SP : am_S} (hk : k < 900) {i : Nat} (hi : 900 ≤ i) : sp_c k S SP i = SP i := by
  unfold sp_c
  have hb : Nat.beq k i = false := by
    cases hb : Nat.beq k i with
    | false => rfl
    | true => have e := Nat.eq_of_beq_eq_true hb; omega
  rw [hb]
  rfl
theorem sp_c_ext {l : Launch} {g : am_G} {own k : Nat} {S : List Value → am_W → (Option Value → am_W → Prop) → Prop} {SP : am_S} (hk : k < 900) (h : am_ext l SP g own) : am_ext l (sp_c k S SP) g own := by
  obtain ⟨h1, h2, h3, h4, h5⟩ := h
  refine ⟨fun x j w K k => h1 x j w K ?_, fun x w K k => h2 x w K ?_, fun ix w K hi k => h3 ix w K hi ?_, fun ix w K hi k => h4 ix w K hi ?_, fun kk as w K hq k => h5 kk as w K hq ?_⟩
  · rw [sp_c_no hk (by omega)] at k; exact k
  · rw [sp_c_no hk (by omega)] at k; exact k
  · rw [sp_c_no hk (by omega)] at k; exact k
  · rw [sp_c_no hk (by omega)] at k; exact k
  · rw [sp_c_no hk (by omega)] at k; exact k
theorem am_s0_ext (l : Launch) (g : am_G) (own : Nat) : am_ext l (fun _ => am_s0) g own :=
  ⟨fun _ _ _ _ k => k.elim, fun _ _ _ k => k.elim, fun _ _ _ _ k => k.elim, fun _ _ _ _ k => k.elim, fun _ _ _ _ _ k => k.elim⟩
theorem cs_ref {l : List cs_t} {as : List Value} {w : am_W} {K : Option Value → am_W → Prop} (h : cs_l l as w K) : ∃ x t, as = .ref x :: t := by
  obtain ⟨k, q, _, h2, _⟩ := h
  exact ⟨_, _, h2⟩
theorem cs_len {n : Nat} {l : List cs_t} (h : (l.all fun q => Nat.ble (am_ea (.ref q.1 :: q.2.1)).length n) = true) {k : Nat} {q : cs_t} (hk : l[k]? = some q) : (am_ea (.ref q.1 :: q.2.1)).length ≤ n :=
  Nat.le_of_ble_eq_true (List.all_eq_true.mp h q (List.mem_of_getElem? hk))
theorem am_not61 {M : am_M} {k : Nat} (h : (M.1.all fun q => !(q.2.2.1 == 61 && Nat.beq q.2.2.2.1 k)) = true) {q : am_Row} (hq : q ∈ M.1) (hk : q.2.2.1 = 61) : ¬ q.2.2.2.1 = k := by
  intro e
  have := List.all_eq_true.mp h q hq
  rw [e, Nat.beq_refl] at this
  simp [hk] at this
/-! == X8_init == -/
def sp_X8_init : am_S := (fun _ => am_s0)
theorem sm_X8_init : am_Smono sp_X8_init := am_s0_mono
set_option maxRecDepth 100000 in
def FR_X8_init_1 (r : Nat → Nat → Option Nat) : Nat → Nat → Option Nat := (am_u (am_z (am_u (am_z (am_u (am_z (am_u (am_z r 2 none) 1 0 (some 2)) 3 none) 1 1 (some 3)) 4 none) 1 2 (some 4)) 5 none) 1 3 (some 5))
set_option maxRecDepth 100000 in
noncomputable def g_X8_init_1 (m : fm_) : Option fm_ :=
  (some (si_ (zz_ (zz_ (zz_ (zz_ m 2) 3) 4) 5) 1 8 (-1)))
set_option maxRecDepth 100000 in
theorem t_X8_init_1 {r : Nat → Nat → Option Nat} {m q : fm_} (h : g_X8_init_1 m = some q) {Q : Option Value → am_W → Prop} (hQ : Q none (mk_ 6 (FR_X8_init_1 r) q)) : am_T m_X8_init sp_X8_init 6 Q 0 [some (.ref 1)] [] (mk_ 2 r m) :=
  am_T.wp sm_X8_init (K := am_T m_X8_init sp_X8_init 6 Q) (cuts := []) (fun _ _ _ _ h => h) 23
    (⟨Nat.le_of_ble_eq_true rfl, ⟨⟨rfl, Nat.le_of_ble_eq_true rfl, Nat.le_of_ble_eq_true rfl, by decide⟩, ⟨⟨rfl, Nat.le_of_ble_eq_true rfl⟩, ⟨⟨rfl, Nat.le_of_ble_eq_true rfl, Nat.le_of_ble_eq_true rfl, by decide⟩, ⟨⟨rfl, Nat.le_of_ble_eq_true rfl⟩, ⟨⟨rfl, Nat.le_of_ble_eq_true rfl, Nat.le_of_ble_eq_true rfl, by decide⟩, ⟨⟨rfl, Nat.le_of_ble_eq_true rfl⟩, ⟨⟨rfl, Nat.le_of_ble_eq_true rfl, Nat.le_of_ble_eq_true rfl, by decide⟩, ⟨⟨rfl, Nat.le_of_ble_eq_true rfl⟩, ⟨⟨rfl, Nat.le_of_ble_eq_true rfl⟩, ⟨rfl, fc_rt h hQ⟩⟩⟩⟩⟩⟩⟩⟩⟩⟩⟩)
noncomputable def cl_X8_init : List cs_t := [(1, [], 2, 6, (fun _ => True), FR_X8_init_1, g_X8_init_1)]
set_option maxRecDepth 100000 in
theorem ok_X8_init : am_mok 8 89 m_X8_init = true := by decide +kernel
set_option maxRecDepth 100000 in
theorem c_X8_init (l : Launch) {g : am_G} (hg : fx_ l g) : am_Met l g 0 89 (cs_l cl_X8_init) := by
  refine am_sound (own := 8) (M := m_X8_init) (SP := sp_X8_init) hg.1 (by decide +kernel) ok_X8_init (by decide +kernel) ?_ ?_ (am_s0_ext l g 8) (Or.inl (by decide +kernel)) ?_ ?_
  · intro q hq hk
    have hm : q.2.2.2.1 ∈ am_cs m_X8_init := am_cs_in hq hk
    rw [show am_cs m_X8_init = [] by decide +kernel] at hm
    cases hm
  · intro q hq hk
    have hm : q.2.2.2.1 ∈ am_cs m_X8_init := am_cs_in hq (Or.inr hk)
    rw [show am_cs m_X8_init = [] by decide +kernel] at hm
    cases hm
  · intro as w K h
    obtain ⟨k, q, hk, rfl, -⟩ := h
    exact cs_len (n := am_nL 89) (l := cl_X8_init) (by decide +kernel) hk
  · intro as w K h
    obtain ⟨n, i0, l0, r⟩ := w
    obtain ⟨k, q, hk, rfl, hn, hp, m1, hm1, hK⟩ := h
    match k, hk with
    | 0, hk =>
      obtain rfl := (Option.some.inj (show some _ = some q from hk))
      obtain rfl : n = 2 := hn
      exact t_X8_init_1 (m := (i0, l0)) hm1 hK
    | k + 1, hk => cases hk
/-! == X9_init == -/
def sp_X9_init : am_S := (fun _ => am_s0)
theorem sm_X9_init : am_Smono sp_X9_init := am_s0_mono
set_option maxRecDepth 100000 in
def FR_X9_init_6 (r : Nat → Nat → Option Nat) : Nat → Nat → Option Nat := (am_u (am_z (am_u (am_z (am_u (am_z (am_u (am_z (am_u (am_z (am_u (am_z (am_u (am_z (am_u (am_z (am_u (am_z (am_u (am_z (am_u (am_z r 7 none) 6 0 (some 7)) 8 none) 6 1 (some 8)) 9 none) 6 2 (some 9)) 10 none) 6 5 (some 10)) 11 none) 6 6 (some 11)) 12 none) 6 7 (some 12)) 13 none) 6 10 (some 13)) 14 none) 6 11 (some 14)) 15 none) 6 12 (some 15)) 16 none) 6 13 (some 16)) 17 none) 6 14 (some 17))
set_option maxRecDepth 100000 in
noncomputable def g_X9_init_6 (m : fm_) : Option fm_ :=
  (some (zz_ (zz_ (zz_ (zz_ (zz_ (zz_ (zz_ (zz_ (zz_ (zz_ (zz_ m 7) 8) 9) 10) 11) 12) 13) 14) 15) 16) 17))
set_option maxRecDepth 100000 in
theorem t_X9_init_6 {r : Nat → Nat → Option Nat} {m q : fm_} (h : g_X9_init_6 m = some q) {Q : Option Value → am_W → Prop} (hQ : Q none (mk_ 18 (FR_X9_init_6 r) q)) : am_T m_X9_init sp_X9_init 18 Q 0 [some (.ref 6)] [] (mk_ 7 r m) :=
  am_T.wp sm_X9_init (K := am_T m_X9_init sp_X9_init 18 Q) (cuts := []) (fun _ _ _ _ h => h) 48
    (⟨Nat.le_of_ble_eq_true rfl, ⟨⟨rfl, Nat.le_of_ble_eq_true rfl, Nat.le_of_ble_eq_true rfl, by decide⟩, ⟨⟨rfl, Nat.le_of_ble_eq_true rfl⟩, ⟨⟨rfl, Nat.le_of_ble_eq_true rfl, Nat.le_of_ble_eq_true rfl, by decide⟩, ⟨⟨rfl, Nat.le_of_ble_eq_true rfl⟩, ⟨⟨rfl, Nat.le_of_ble_eq_true rfl, Nat.le_of_ble_eq_true rfl, by decide⟩, ⟨⟨rfl, Nat.le_of_ble_eq_true rfl⟩, ⟨⟨rfl, Nat.le_of_ble_eq_true rfl, Nat.le_of_ble_eq_true rfl, by decide⟩, ⟨⟨rfl, Nat.le_of_ble_eq_true rfl⟩, ⟨⟨rfl, Nat.le_of_ble_eq_true rfl, Nat.le_of_ble_eq_true rfl, by decide⟩, ⟨⟨rfl, Nat.le_of_ble_eq_true rfl⟩, ⟨⟨rfl, Nat.le_of_ble_eq_true rfl, Nat.le_of_ble_eq_true rfl, by decide⟩, ⟨⟨rfl, Nat.le_of_ble_eq_true rfl⟩, ⟨⟨rfl, Nat.le_of_ble_eq_true rfl, Nat.le_of_ble_eq_true rfl, by decide⟩, ⟨⟨rfl, Nat.le_of_ble_eq_true rfl⟩, ⟨⟨rfl, Nat.le_of_ble_eq_true rfl, Nat.le_of_ble_eq_true rfl, by decide⟩, ⟨⟨rfl, Nat.le_of_ble_eq_true rfl⟩, ⟨⟨rfl, Nat.le_of_ble_eq_true rfl, Nat.le_of_ble_eq_true rfl, by decide⟩, ⟨⟨rfl, Nat.le_of_ble_eq_true rfl⟩, ⟨⟨rfl, Nat.le_of_ble_eq_true rfl, Nat.le_of_ble_eq_true rfl, by decide⟩, ⟨⟨rfl, Nat.le_of_ble_eq_true rfl⟩, ⟨⟨rfl, Nat.le_of_ble_eq_true rfl, Nat.le_of_ble_eq_true rfl, by decide⟩, ⟨⟨rfl, Nat.le_of_ble_eq_true rfl⟩, ⟨rfl, fc_rt h hQ⟩⟩⟩⟩⟩⟩⟩⟩⟩⟩⟩⟩⟩⟩⟩⟩⟩⟩⟩⟩⟩⟩⟩⟩)
set_option maxRecDepth 100000 in
def FR_X9_init_18 (r : Nat → Nat → Option Nat) : Nat → Nat → Option Nat := (am_u (am_z (am_u (am_z (am_u (am_z (am_u (am_z (am_u (am_z (am_u (am_z (am_u (am_z (am_u (am_z (am_u (am_z (am_u (am_z (am_u (am_z r 19 none) 18 0 (some 19)) 20 none) 18 1 (some 20)) 21 none) 18 2 (some 21)) 22 none) 18 5 (some 22)) 23 none) 18 6 (some 23)) 24 none) 18 7 (some 24)) 25 none) 18 10 (some 25)) 26 none) 18 11 (some 26)) 27 none) 18 12 (some 27)) 28 none) 18 13 (some 28)) 29 none) 18 14 (some 29))
set_option maxRecDepth 100000 in
noncomputable def g_X9_init_18 (m : fm_) : Option fm_ :=
  (some (zz_ (zz_ (zz_ (zz_ (zz_ (zz_ (zz_ (zz_ (zz_ (zz_ (zz_ m 19) 20) 21) 22) 23) 24) 25) 26) 27) 28) 29))
set_option maxRecDepth 100000 in
theorem t_X9_init_18 {r : Nat → Nat → Option Nat} {m q : fm_} (h : g_X9_init_18 m = some q) {Q : Option Value → am_W → Prop} (hQ : Q none (mk_ 30 (FR_X9_init_18 r) q)) : am_T m_X9_init sp_X9_init 30 Q 0 [some (.ref 18)] [] (mk_ 19 r m) :=
  am_T.wp sm_X9_init (K := am_T m_X9_init sp_X9_init 30 Q) (cuts := []) (fun _ _ _ _ h => h) 48
    (⟨Nat.le_of_ble_eq_true rfl, ⟨⟨rfl, Nat.le_of_ble_eq_true rfl, Nat.le_of_ble_eq_true rfl, by decide⟩, ⟨⟨rfl, Nat.le_of_ble_eq_true rfl⟩, ⟨⟨rfl, Nat.le_of_ble_eq_true rfl, Nat.le_of_ble_eq_true rfl, by decide⟩, ⟨⟨rfl, Nat.le_of_ble_eq_true rfl⟩, ⟨⟨rfl, Nat.le_of_ble_eq_true rfl, Nat.le_of_ble_eq_true rfl, by decide⟩, ⟨⟨rfl, Nat.le_of_ble_eq_true rfl⟩, ⟨⟨rfl, Nat.le_of_ble_eq_true rfl, Nat.le_of_ble_eq_true rfl, by decide⟩, ⟨⟨rfl, Nat.le_of_ble_eq_true rfl⟩, ⟨⟨rfl, Nat.le_of_ble_eq_true rfl, Nat.le_of_ble_eq_true rfl, by decide⟩, ⟨⟨rfl, Nat.le_of_ble_eq_true rfl⟩, ⟨⟨rfl, Nat.le_of_ble_eq_true rfl, Nat.le_of_ble_eq_true rfl, by decide⟩, ⟨⟨rfl, Nat.le_of_ble_eq_true rfl⟩, ⟨⟨rfl, Nat.le_of_ble_eq_true rfl, Nat.le_of_ble_eq_true rfl, by decide⟩, ⟨⟨rfl, Nat.le_of_ble_eq_true rfl⟩, ⟨⟨rfl, Nat.le_of_ble_eq_true rfl, Nat.le_of_ble_eq_true rfl, by decide⟩, ⟨⟨rfl, Nat.le_of_ble_eq_true rfl⟩, ⟨⟨rfl, Nat.le_of_ble_eq_true rfl, Nat.le_of_ble_eq_true rfl, by decide⟩, ⟨⟨rfl, Nat.le_of_ble_eq_true rfl⟩, ⟨⟨rfl, Nat.le_of_ble_eq_true rfl, Nat.le_of_ble_eq_true rfl, by decide⟩, ⟨⟨rfl, Nat.le_of_ble_eq_true rfl⟩, ⟨⟨rfl, Nat.le_of_ble_eq_true rfl, Nat.le_of_ble_eq_true rfl, by decide⟩, ⟨⟨rfl, Nat.le_of_ble_eq_true rfl⟩, ⟨rfl, fc_rt h hQ⟩⟩⟩⟩⟩⟩⟩⟩⟩⟩⟩⟩⟩⟩⟩⟩⟩⟩⟩⟩⟩⟩⟩⟩)
noncomputable def cl_X9_init : List cs_t := [(6, [], 7, 18, (fun _ => True), FR_X9_init_6, g_X9_init_6), (18, [], 19, 30, (fun _ => True), FR_X9_init_18, g_X9_init_18)]
set_option maxRecDepth 100000 in
theorem ok_X9_init : am_mok 9 115 m_X9_init = true := by decide +kernel
set_option maxRecDepth 100000 in
theorem c_X9_init (l : Launch) {g : am_G} (hg : fx_ l g) : am_Met l g 0 115 (cs_l cl_X9_init) := by
  refine am_sound (own := 9) (M := m_X9_init) (SP := sp_X9_init) hg.1 (by decide +kernel) ok_X9_init (by decide +kernel) ?_ ?_ (am_s0_ext l g 9) (Or.inl (by decide +kernel)) ?_ ?_
  · intro q hq hk
    have hm : q.2.2.2.1 ∈ am_cs m_X9_init := am_cs_in hq hk
    rw [show am_cs m_X9_init = [] by decide +kernel] at hm
    cases hm
  · intro q hq hk
    have hm : q.2.2.2.1 ∈ am_cs m_X9_init := am_cs_in hq (Or.inr hk)
    rw [show am_cs m_X9_init = [] by decide +kernel] at hm
    cases hm
  · intro as w K h
    obtain ⟨k, q, hk, rfl, -⟩ := h
    exact cs_len (n := am_nL 115) (l := cl_X9_init) (by decide +kernel) hk
  · intro as w K h
    obtain ⟨n, i0, l0, r⟩ := w
    obtain ⟨k, q, hk, rfl, hn, hp, m1, hm1, hK⟩ := h
    match k, hk with
    | 0, hk =>
      obtain rfl := (Option.some.inj (show some _ = some q from hk))
      obtain rfl : n = 7 := hn
      exact t_X9_init_6 (m := (i0, l0)) hm1 hK
    | 1, hk =>
      obtain rfl := (Option.some.inj (show some _ = some q from hk))
      obtain rfl : n = 19 := hn
      exact t_X9_init_18 (m := (i0, l0)) hm1 hK
    | k + 2, hk => cases hk
/-! == X4_init == -/
def sp_X4_init : am_S := (fun _ => am_s0)
theorem sm_X4_init : am_Smono sp_X4_init := am_s0_mono
set_option maxRecDepth 100000 in
def FR_X4_init_32 (r : Nat → Nat → Option Nat) : Nat → Nat → Option Nat := (am_u (am_z (am_u (am_z (am_u (am_z (am_u (am_z (am_u (am_z r 33 none) 32 1 (some 33)) 34 none) 32 3 (some 34)) 35 none) 32 4 (some 35)) 36 none) 32 6 (some 36)) 37 none) 32 12 (some 37))
set_option maxRecDepth 100000 in
noncomputable def g_X4_init_32 (m : fm_) : Option fm_ :=
  (some (zz_ (zz_ (zz_ (zz_ (zz_ m 33) 34) 35) 36) 37))
set_option maxRecDepth 100000 in
theorem t_X4_init_32 {r : Nat → Nat → Option Nat} {m q : fm_} (h : g_X4_init_32 m = some q) {Q : Option Value → am_W → Prop} (hQ : Q none (mk_ 38 (FR_X4_init_32 r) q)) : am_T m_X4_init sp_X4_init 38 Q 0 [some (.ref 32)] [] (mk_ 33 r m) :=
  am_T.wp sm_X4_init (K := am_T m_X4_init sp_X4_init 38 Q) (cuts := []) (fun _ _ _ _ h => h) 24
    (⟨Nat.le_of_ble_eq_true rfl, ⟨⟨rfl, Nat.le_of_ble_eq_true rfl, Nat.le_of_ble_eq_true rfl, by decide⟩, ⟨⟨rfl, Nat.le_of_ble_eq_true rfl⟩, ⟨⟨rfl, Nat.le_of_ble_eq_true rfl, Nat.le_of_ble_eq_true rfl, by decide⟩, ⟨⟨rfl, Nat.le_of_ble_eq_true rfl⟩, ⟨⟨rfl, Nat.le_of_ble_eq_true rfl, Nat.le_of_ble_eq_true rfl, by decide⟩, ⟨⟨rfl, Nat.le_of_ble_eq_true rfl⟩, ⟨⟨rfl, Nat.le_of_ble_eq_true rfl, Nat.le_of_ble_eq_true rfl, by decide⟩, ⟨⟨rfl, Nat.le_of_ble_eq_true rfl⟩, ⟨⟨rfl, Nat.le_of_ble_eq_true rfl, Nat.le_of_ble_eq_true rfl, by decide⟩, ⟨⟨rfl, Nat.le_of_ble_eq_true rfl⟩, ⟨rfl, fc_rt h hQ⟩⟩⟩⟩⟩⟩⟩⟩⟩⟩⟩⟩)
set_option maxRecDepth 100000 in
def FR_X4_init_38 (r : Nat → Nat → Option Nat) : Nat → Nat → Option Nat := (am_u (am_z (am_u (am_z (am_u (am_z (am_u (am_z (am_u (am_z r 39 none) 38 1 (some 39)) 40 none) 38 3 (some 40)) 41 none) 38 4 (some 41)) 42 none) 38 6 (some 42)) 43 none) 38 12 (some 43))
set_option maxRecDepth 100000 in
noncomputable def g_X4_init_38 (m : fm_) : Option fm_ :=
  (some (zz_ (zz_ (zz_ (zz_ (zz_ m 39) 40) 41) 42) 43))
set_option maxRecDepth 100000 in
theorem t_X4_init_38 {r : Nat → Nat → Option Nat} {m q : fm_} (h : g_X4_init_38 m = some q) {Q : Option Value → am_W → Prop} (hQ : Q none (mk_ 44 (FR_X4_init_38 r) q)) : am_T m_X4_init sp_X4_init 44 Q 0 [some (.ref 38)] [] (mk_ 39 r m) :=
  am_T.wp sm_X4_init (K := am_T m_X4_init sp_X4_init 44 Q) (cuts := []) (fun _ _ _ _ h => h) 24
    (⟨Nat.le_of_ble_eq_true rfl, ⟨⟨rfl, Nat.le_of_ble_eq_true rfl, Nat.le_of_ble_eq_true rfl, by decide⟩, ⟨⟨rfl, Nat.le_of_ble_eq_true rfl⟩, ⟨⟨rfl, Nat.le_of_ble_eq_true rfl, Nat.le_of_ble_eq_true rfl, by decide⟩, ⟨⟨rfl, Nat.le_of_ble_eq_true rfl⟩, ⟨⟨rfl, Nat.le_of_ble_eq_true rfl, Nat.le_of_ble_eq_true rfl, by decide⟩, ⟨⟨rfl, Nat.le_of_ble_eq_true rfl⟩, ⟨⟨rfl, Nat.le_of_ble_eq_true rfl, Nat.le_of_ble_eq_true rfl, by decide⟩, ⟨⟨rfl, Nat.le_of_ble_eq_true rfl⟩, ⟨⟨rfl, Nat.le_of_ble_eq_true rfl, Nat.le_of_ble_eq_true rfl, by decide⟩, ⟨⟨rfl, Nat.le_of_ble_eq_true rfl⟩, ⟨rfl, fc_rt h hQ⟩⟩⟩⟩⟩⟩⟩⟩⟩⟩⟩⟩)
set_option maxRecDepth 100000 in
def FR_X4_init_44 (r : Nat → Nat → Option Nat) : Nat → Nat → Option Nat := (am_u (am_z (am_u (am_z (am_u (am_z (am_u (am_z (am_u (am_z r 45 none) 44 1 (some 45)) 46 none) 44 3 (some 46)) 47 none) 44 4 (some 47)) 48 none) 44 6 (some 48)) 49 none) 44 12 (some 49))
set_option maxRecDepth 100000 in
noncomputable def g_X4_init_44 (m : fm_) : Option fm_ :=
  (some (zz_ (zz_ (zz_ (zz_ (zz_ m 45) 46) 47) 48) 49))
set_option maxRecDepth 100000 in
theorem t_X4_init_44 {r : Nat → Nat → Option Nat} {m q : fm_} (h : g_X4_init_44 m = some q) {Q : Option Value → am_W → Prop} (hQ : Q none (mk_ 50 (FR_X4_init_44 r) q)) : am_T m_X4_init sp_X4_init 50 Q 0 [some (.ref 44)] [] (mk_ 45 r m) :=
  am_T.wp sm_X4_init (K := am_T m_X4_init sp_X4_init 50 Q) (cuts := []) (fun _ _ _ _ h => h) 24
    (⟨Nat.le_of_ble_eq_true rfl, ⟨⟨rfl, Nat.le_of_ble_eq_true rfl, Nat.le_of_ble_eq_true rfl, by decide⟩, ⟨⟨rfl, Nat.le_of_ble_eq_true rfl⟩, ⟨⟨rfl, Nat.le_of_ble_eq_true rfl, Nat.le_of_ble_eq_true rfl, by decide⟩, ⟨⟨rfl, Nat.le_of_ble_eq_true rfl⟩, ⟨⟨rfl, Nat.le_of_ble_eq_true rfl, Nat.le_of_ble_eq_true rfl, by decide⟩, ⟨⟨rfl, Nat.le_of_ble_eq_true rfl⟩, ⟨⟨rfl, Nat.le_of_ble_eq_true rfl, Nat.le_of_ble_eq_true rfl, by decide⟩, ⟨⟨rfl, Nat.le_of_ble_eq_true rfl⟩, ⟨⟨rfl, Nat.le_of_ble_eq_true rfl, Nat.le_of_ble_eq_true rfl, by decide⟩, ⟨⟨rfl, Nat.le_of_ble_eq_true rfl⟩, ⟨rfl, fc_rt h hQ⟩⟩⟩⟩⟩⟩⟩⟩⟩⟩⟩⟩)
set_option maxRecDepth 100000 in
def FR_X4_init_50 (r : Nat → Nat → Option Nat) : Nat → Nat → Option Nat := (am_u (am_z (am_u (am_z (am_u (am_z (am_u (am_z (am_u (am_z r 51 none) 50 1 (some 51)) 52 none) 50 3 (some 52)) 53 none) 50 4 (some 53)) 54 none) 50 6 (some 54)) 55 none) 50 12 (some 55))
set_option maxRecDepth 100000 in
noncomputable def g_X4_init_50 (m : fm_) : Option fm_ :=
  (some (zz_ (zz_ (zz_ (zz_ (zz_ m 51) 52) 53) 54) 55))
set_option maxRecDepth 100000 in
theorem t_X4_init_50 {r : Nat → Nat → Option Nat} {m q : fm_} (h : g_X4_init_50 m = some q) {Q : Option Value → am_W → Prop} (hQ : Q none (mk_ 56 (FR_X4_init_50 r) q)) : am_T m_X4_init sp_X4_init 56 Q 0 [some (.ref 50)] [] (mk_ 51 r m) :=
  am_T.wp sm_X4_init (K := am_T m_X4_init sp_X4_init 56 Q) (cuts := []) (fun _ _ _ _ h => h) 24
    (⟨Nat.le_of_ble_eq_true rfl, ⟨⟨rfl, Nat.le_of_ble_eq_true rfl, Nat.le_of_ble_eq_true rfl, by decide⟩, ⟨⟨rfl, Nat.le_of_ble_eq_true rfl⟩, ⟨⟨rfl, Nat.le_of_ble_eq_true rfl, Nat.le_of_ble_eq_true rfl, by decide⟩, ⟨⟨rfl, Nat.le_of_ble_eq_true rfl⟩, ⟨⟨rfl, Nat.le_of_ble_eq_true rfl, Nat.le_of_ble_eq_true rfl, by decide⟩, ⟨⟨rfl, Nat.le_of_ble_eq_true rfl⟩, ⟨⟨rfl, Nat.le_of_ble_eq_true rfl, Nat.le_of_ble_eq_true rfl, by decide⟩, ⟨⟨rfl, Nat.le_of_ble_eq_true rfl⟩, ⟨⟨rfl, Nat.le_of_ble_eq_true rfl, Nat.le_of_ble_eq_true rfl, by decide⟩, ⟨⟨rfl, Nat.le_of_ble_eq_true rfl⟩, ⟨rfl, fc_rt h hQ⟩⟩⟩⟩⟩⟩⟩⟩⟩⟩⟩⟩)
set_option maxRecDepth 100000 in
def FR_X4_init_56 (r : Nat → Nat → Option Nat) : Nat → Nat → Option Nat := (am_u (am_z (am_u (am_z (am_u (am_z (am_u (am_z (am_u (am_z r 57 none) 56 1 (some 57)) 58 none) 56 3 (some 58)) 59 none) 56 4 (some 59)) 60 none) 56 6 (some 60)) 61 none) 56 12 (some 61))
set_option maxRecDepth 100000 in
noncomputable def g_X4_init_56 (m : fm_) : Option fm_ :=
  (some (zz_ (zz_ (zz_ (zz_ (zz_ m 57) 58) 59) 60) 61))
set_option maxRecDepth 100000 in
theorem t_X4_init_56 {r : Nat → Nat → Option Nat} {m q : fm_} (h : g_X4_init_56 m = some q) {Q : Option Value → am_W → Prop} (hQ : Q none (mk_ 62 (FR_X4_init_56 r) q)) : am_T m_X4_init sp_X4_init 62 Q 0 [some (.ref 56)] [] (mk_ 57 r m) :=
  am_T.wp sm_X4_init (K := am_T m_X4_init sp_X4_init 62 Q) (cuts := []) (fun _ _ _ _ h => h) 24
    (⟨Nat.le_of_ble_eq_true rfl, ⟨⟨rfl, Nat.le_of_ble_eq_true rfl, Nat.le_of_ble_eq_true rfl, by decide⟩, ⟨⟨rfl, Nat.le_of_ble_eq_true rfl⟩, ⟨⟨rfl, Nat.le_of_ble_eq_true rfl, Nat.le_of_ble_eq_true rfl, by decide⟩, ⟨⟨rfl, Nat.le_of_ble_eq_true rfl⟩, ⟨⟨rfl, Nat.le_of_ble_eq_true rfl, Nat.le_of_ble_eq_true rfl, by decide⟩, ⟨⟨rfl, Nat.le_of_ble_eq_true rfl⟩, ⟨⟨rfl, Nat.le_of_ble_eq_true rfl, Nat.le_of_ble_eq_true rfl, by decide⟩, ⟨⟨rfl, Nat.le_of_ble_eq_true rfl⟩, ⟨⟨rfl, Nat.le_of_ble_eq_true rfl, Nat.le_of_ble_eq_true rfl, by decide⟩, ⟨⟨rfl, Nat.le_of_ble_eq_true rfl⟩, ⟨rfl, fc_rt h hQ⟩⟩⟩⟩⟩⟩⟩⟩⟩⟩⟩⟩)
set_option maxRecDepth 100000 in
def FR_X4_init_62 (r : Nat → Nat → Option Nat) : Nat → Nat → Option Nat := (am_u (am_z (am_u (am_z (am_u (am_z (am_u (am_z (am_u (am_z r 63 none) 62 1 (some 63)) 64 none) 62 3 (some 64)) 65 none) 62 4 (some 65)) 66 none) 62 6 (some 66)) 67 none) 62 12 (some 67))
set_option maxRecDepth 100000 in
noncomputable def g_X4_init_62 (m : fm_) : Option fm_ :=
  (some (zz_ (zz_ (zz_ (zz_ (zz_ m 63) 64) 65) 66) 67))
set_option maxRecDepth 100000 in
theorem t_X4_init_62 {r : Nat → Nat → Option Nat} {m q : fm_} (h : g_X4_init_62 m = some q) {Q : Option Value → am_W → Prop} (hQ : Q none (mk_ 68 (FR_X4_init_62 r) q)) : am_T m_X4_init sp_X4_init 68 Q 0 [some (.ref 62)] [] (mk_ 63 r m) :=
  am_T.wp sm_X4_init (K := am_T m_X4_init sp_X4_init 68 Q) (cuts := []) (fun _ _ _ _ h => h) 24
    (⟨Nat.le_of_ble_eq_true rfl, ⟨⟨rfl, Nat.le_of_ble_eq_true rfl, Nat.le_of_ble_eq_true rfl, by decide⟩, ⟨⟨rfl, Nat.le_of_ble_eq_true rfl⟩, ⟨⟨rfl, Nat.le_of_ble_eq_true rfl, Nat.le_of_ble_eq_true rfl, by decide⟩, ⟨⟨rfl, Nat.le_of_ble_eq_true rfl⟩, ⟨⟨rfl, Nat.le_of_ble_eq_true rfl, Nat.le_of_ble_eq_true rfl, by decide⟩, ⟨⟨rfl, Nat.le_of_ble_eq_true rfl⟩, ⟨⟨rfl, Nat.le_of_ble_eq_true rfl, Nat.le_of_ble_eq_true rfl, by decide⟩, ⟨⟨rfl, Nat.le_of_ble_eq_true rfl⟩, ⟨⟨rfl, Nat.le_of_ble_eq_true rfl, Nat.le_of_ble_eq_true rfl, by decide⟩, ⟨⟨rfl, Nat.le_of_ble_eq_true rfl⟩, ⟨rfl, fc_rt h hQ⟩⟩⟩⟩⟩⟩⟩⟩⟩⟩⟩⟩)
noncomputable def cl_X4_init : List cs_t := [(32, [], 33, 38, (fun _ => True), FR_X4_init_32, g_X4_init_32), (38, [], 39, 44, (fun _ => True), FR_X4_init_38, g_X4_init_38), (44, [], 45, 50, (fun _ => True), FR_X4_init_44, g_X4_init_44), (50, [], 51, 56, (fun _ => True), FR_X4_init_50, g_X4_init_50), (56, [], 57, 62, (fun _ => True), FR_X4_init_56, g_X4_init_56), (62, [], 63, 68, (fun _ => True), FR_X4_init_62, g_X4_init_62)]
set_option maxRecDepth 100000 in
theorem ok_X4_init : am_mok 4 34 m_X4_init = true := by decide +kernel
set_option maxRecDepth 100000 in
theorem c_X4_init (l : Launch) {g : am_G} (hg : fx_ l g) : am_Met l g 0 34 (cs_l cl_X4_init) := by
  refine am_sound (own := 4) (M := m_X4_init) (SP := sp_X4_init) hg.1 (by decide +kernel) ok_X4_init (by decide +kernel) ?_ ?_ (am_s0_ext l g 4) (Or.inl (by decide +kernel)) ?_ ?_
  · intro q hq hk
    have hm : q.2.2.2.1 ∈ am_cs m_X4_init := am_cs_in hq hk
    rw [show am_cs m_X4_init = [] by decide +kernel] at hm
    cases hm
  · intro q hq hk
    have hm : q.2.2.2.1 ∈ am_cs m_X4_init := am_cs_in hq (Or.inr hk)
    rw [show am_cs m_X4_init = [] by decide +kernel] at hm
    cases hm
  · intro as w K h
    obtain ⟨k, q, hk, rfl, -⟩ := h
    exact cs_len (n := am_nL 34) (l := cl_X4_init) (by decide +kernel) hk
  · intro as w K h
    obtain ⟨n, i0, l0, r⟩ := w
    obtain ⟨k, q, hk, rfl, hn, hp, m1, hm1, hK⟩ := h
    match k, hk with
    | 0, hk =>
      obtain rfl := (Option.some.inj (show some _ = some q from hk))
      obtain rfl : n = 33 := hn
      exact t_X4_init_32 (m := (i0, l0)) hm1 hK
    | 1, hk =>
      obtain rfl := (Option.some.inj (show some _ = some q from hk))
      obtain rfl : n = 39 := hn
      exact t_X4_init_38 (m := (i0, l0)) hm1 hK
    | 2, hk =>
      obtain rfl := (Option.some.inj (show some _ = some q from hk))
      obtain rfl : n = 45 := hn
      exact t_X4_init_44 (m := (i0, l0)) hm1 hK
    | 3, hk =>
      obtain rfl := (Option.some.inj (show some _ = some q from hk))
      obtain rfl : n = 51 := hn
      exact t_X4_init_50 (m := (i0, l0)) hm1 hK
    | 4, hk =>
      obtain rfl := (Option.some.inj (show some _ = some q from hk))
      obtain rfl : n = 57 := hn
      exact t_X4_init_56 (m := (i0, l0)) hm1 hK
    | 5, hk =>
      obtain rfl := (Option.some.inj (show some _ = some q from hk))
      obtain rfl : n = 63 := hn
      exact t_X4_init_62 (m := (i0, l0)) hm1 hK
    | k + 6, hk => cases hk
/-! == X3_init == -/
def sp_X3_init : am_S := sp_c 34 (cs_l cl_X4_init) ((fun _ => am_s0))
theorem sm_X3_init : am_Smono sp_X3_init := sp_c_mono (cs_mono) (am_s0_mono)
set_option maxRecDepth 100000 in
def FR_X3_init_30 (r : Nat → Nat → Option Nat) : Nat → Nat → Option Nat := (am_u (FR_X4_init_62 (am_z (am_u (FR_X4_init_56 (am_z (am_u (FR_X4_init_50 (am_z (am_u (FR_X4_init_44 (am_z (am_u (FR_X4_init_38 (am_z (am_u (FR_X4_init_32 (am_z (am_u (am_z r 31 none) 30 0 (some 31)) 32 none)) 31 (Int32.toNatClampNeg 0) (some 32)) 38 none)) 31 (Int32.toNatClampNeg (0 + 1)) (some 38)) 44 none)) 31 (Int32.toNatClampNeg ((0 + 1) + 1)) (some 44)) 50 none)) 31 (Int32.toNatClampNeg (((0 + 1) + 1) + 1)) (some 50)) 56 none)) 31 (Int32.toNatClampNeg ((((0 + 1) + 1) + 1) + 1)) (some 56)) 62 none)) 31 (Int32.toNatClampNeg (((((0 + 1) + 1) + 1) + 1) + 1)) (some 62))
set_option maxRecDepth 100000 in
noncomputable def g_X3_init_30 (m : fm_) : Option fm_ :=
  (Option.bind (g_X4_init_32 (zz_ (zz_ m 31) 32)) fun q2 =>
(Option.bind (g_X4_init_38 (zz_ q2 38)) fun q6 =>
(Option.bind (g_X4_init_44 (zz_ q6 44)) fun q10 =>
(Option.bind (g_X4_init_50 (zz_ q10 50)) fun q14 =>
(Option.bind (g_X4_init_56 (zz_ q14 56)) fun q18 =>
(Option.bind (g_X4_init_62 (zz_ q18 62)) fun q22 =>
(some q22)))))))
set_option maxRecDepth 100000 in
theorem t_X3_init_30 {r : Nat → Nat → Option Nat} {m q : fm_} (h : g_X3_init_30 m = some q) {Q : Option Value → am_W → Prop} (hQ : Q none (mk_ 68 (FR_X3_init_30 r) q)) : am_T m_X3_init sp_X3_init 68 Q 0 [some (.ref 30), none] [] (mk_ 31 r m) :=
  am_T.wp sm_X3_init (K := am_T m_X3_init sp_X3_init 68 Q) (cuts := []) (fun _ _ _ _ h => h) 85
    (⟨Nat.le_of_ble_eq_true rfl, ⟨⟨rfl, Nat.le_of_ble_eq_true rfl, by decide⟩, ⟨⟨rfl, Nat.le_of_ble_eq_true rfl⟩, ⟨fun c1 => absurd c1 (by decide), fun c1 => ⟨⟨rfl, Nat.le_of_ble_eq_true rfl⟩, Or.inl ⟨_, rfl, ⟨⟨rfl, Nat.le_of_ble_eq_true rfl⟩, fh_bd h fun q2 e3 h4 => ⟨Nat.le_of_ble_eq_true rfl, ⟨Nat.le_of_ble_eq_true rfl, (show am_ss 38 = am_ss 33 + 473 by decide +kernel)⟩, 0, _, rfl, rfl, rfl, trivial, q2, e3, fun _ => ⟨rfl, ⟨6, ⟨rfl, Nat.le_of_ble_eq_true rfl⟩, ⟨rfl, Nat.le_of_ble_eq_true rfl⟩, ix_t (by decide), ⟨fun c5 => absurd c5 (by decide), fun c5 => ⟨⟨rfl, Nat.le_of_ble_eq_true rfl⟩, Or.inl ⟨_, rfl, ⟨⟨rfl, Nat.le_of_ble_eq_true rfl⟩, fh_bd h4 fun q6 e7 h8 => ⟨Nat.le_of_ble_eq_true rfl, ⟨Nat.le_of_ble_eq_true rfl, (show am_ss 44 = am_ss 39 + 473 by decide +kernel)⟩, 1, _, rfl, rfl, rfl, trivial, q6, e7, fun _ => ⟨rfl, ⟨6, ⟨rfl, Nat.le_of_ble_eq_true rfl⟩, ⟨rfl, Nat.le_of_ble_eq_true rfl⟩, ix_t (by decide), ⟨fun c9 => absurd c9 (by decide), fun c9 => ⟨⟨rfl, Nat.le_of_ble_eq_true rfl⟩, Or.inl ⟨_, rfl, ⟨⟨rfl, Nat.le_of_ble_eq_true rfl⟩, fh_bd h8 fun q10 e11 h12 => ⟨Nat.le_of_ble_eq_true rfl, ⟨Nat.le_of_ble_eq_true rfl, (show am_ss 50 = am_ss 45 + 473 by decide +kernel)⟩, 2, _, rfl, rfl, rfl, trivial, q10, e11, fun _ => ⟨rfl, ⟨6, ⟨rfl, Nat.le_of_ble_eq_true rfl⟩, ⟨rfl, Nat.le_of_ble_eq_true rfl⟩, ix_t (by decide), ⟨fun c13 => absurd c13 (by decide), fun c13 => ⟨⟨rfl, Nat.le_of_ble_eq_true rfl⟩, Or.inl ⟨_, rfl, ⟨⟨rfl, Nat.le_of_ble_eq_true rfl⟩, fh_bd h12 fun q14 e15 h16 => ⟨Nat.le_of_ble_eq_true rfl, ⟨Nat.le_of_ble_eq_true rfl, (show am_ss 56 = am_ss 51 + 473 by decide +kernel)⟩, 3, _, rfl, rfl, rfl, trivial, q14, e15, fun _ => ⟨rfl, ⟨6, ⟨rfl, Nat.le_of_ble_eq_true rfl⟩, ⟨rfl, Nat.le_of_ble_eq_true rfl⟩, ix_t (by decide), ⟨fun c17 => absurd c17 (by decide), fun c17 => ⟨⟨rfl, Nat.le_of_ble_eq_true rfl⟩, Or.inl ⟨_, rfl, ⟨⟨rfl, Nat.le_of_ble_eq_true rfl⟩, fh_bd h16 fun q18 e19 h20 => ⟨Nat.le_of_ble_eq_true rfl, ⟨Nat.le_of_ble_eq_true rfl, (show am_ss 62 = am_ss 57 + 473 by decide +kernel)⟩, 4, _, rfl, rfl, rfl, trivial, q18, e19, fun _ => ⟨rfl, ⟨6, ⟨rfl, Nat.le_of_ble_eq_true rfl⟩, ⟨rfl, Nat.le_of_ble_eq_true rfl⟩, ix_t (by decide), ⟨fun c21 => absurd c21 (by decide), fun c21 => ⟨⟨rfl, Nat.le_of_ble_eq_true rfl⟩, Or.inl ⟨_, rfl, ⟨⟨rfl, Nat.le_of_ble_eq_true rfl⟩, fh_bd h20 fun q22 e23 h24 => ⟨Nat.le_of_ble_eq_true rfl, ⟨Nat.le_of_ble_eq_true rfl, (show am_ss 68 = am_ss 63 + 473 by decide +kernel)⟩, 5, _, rfl, rfl, rfl, trivial, q22, e23, fun _ => ⟨rfl, ⟨6, ⟨rfl, Nat.le_of_ble_eq_true rfl⟩, ⟨rfl, Nat.le_of_ble_eq_true rfl⟩, ix_t (by decide), ⟨fun c25 => ⟨rfl, fc_rt h24 hQ⟩, fun c25 => absurd c25 (by decide)⟩⟩⟩⟩⟩⟩⟩⟩⟩⟩⟩⟩⟩⟩⟩⟩⟩⟩⟩⟩⟩⟩⟩⟩⟩⟩⟩⟩⟩⟩⟩⟩⟩⟩⟩⟩⟩⟩⟩⟩⟩⟩⟩⟩⟩⟩)
noncomputable def cl_X3_init : List cs_t := [(30, [], 31, 68, (fun _ => True), FR_X3_init_30, g_X3_init_30)]
set_option maxRecDepth 100000 in
theorem ok_X3_init : am_mok 3 31 m_X3_init = true := by decide +kernel
set_option maxRecDepth 100000 in
theorem c_X3_init (l : Launch) {g : am_G} (hg : fx_ l g) : am_Met l g 1 31 (cs_l cl_X3_init) := by
  refine am_sound (own := 3) (M := m_X3_init) (SP := sp_X3_init) hg.1 (by decide +kernel) ok_X3_init (by decide +kernel) ?_ ?_ (sp_c_ext (Nat.le_of_ble_eq_true rfl) (am_s0_ext l g 3)) (Or.inl (by decide +kernel)) ?_ ?_
  · intro q hq hk
    have hm : q.2.2.2.1 ∈ am_cs m_X3_init := am_cs_in hq hk
    rw [show am_cs m_X3_init = [34] by decide +kernel] at hm
    have hm : q.2.2.2.1 ∈ [34] := (List.all_eq_true.mp (show ([34] : List Nat).all (fun a => decide (a ∈ ([34] : List Nat))) = true by decide +kernel) _ hm |> of_decide_eq_true)
    simp only [List.mem_cons, List.not_mem_nil, or_false] at hm
    rcases hm with hm
    · rw [hm]; exact ⟨0, by omega, c_X4_init l hg⟩
  · intro q hq hk
    have hm : q.2.2.2.1 ∈ am_cs m_X3_init := am_cs_in hq (Or.inr hk)
    rw [show am_cs m_X3_init = [34] by decide +kernel] at hm
    have hm : q.2.2.2.1 ∈ [34] := (List.all_eq_true.mp (show ([34] : List Nat).all (fun a => decide (a ∈ ([34] : List Nat))) = true by decide +kernel) _ hm |> of_decide_eq_true)
    simp only [List.mem_cons, List.not_mem_nil, or_false] at hm
    rcases hm with hm
    · rw [hm]; exact fun as w K h => cs_ref h
  · intro as w K h
    obtain ⟨k, q, hk, rfl, -⟩ := h
    exact cs_len (n := am_nL 31) (l := cl_X3_init) (by decide +kernel) hk
  · intro as w K h
    obtain ⟨n, i0, l0, r⟩ := w
    obtain ⟨k, q, hk, rfl, hn, hp, m1, hm1, hK⟩ := h
    match k, hk with
    | 0, hk =>
      obtain rfl := (Option.some.inj (show some _ = some q from hk))
      obtain rfl : n = 31 := hn
      exact t_X3_init_30 (m := (i0, l0)) hm1 hK
    | k + 1, hk => cases hk
/-! == X5_init == -/
def sp_X5_init : am_S := (fun _ => am_s0)
theorem sm_X5_init : am_Smono sp_X5_init := am_s0_mono
set_option maxRecDepth 100000 in
def FR_X5_init_68 (r : Nat → Nat → Option Nat) : Nat → Nat → Option Nat := (am_u r 68 0 (some 1))
set_option maxRecDepth 100000 in
noncomputable def g_X5_init_68 (m : fm_) : Option fm_ :=
  (some m)
set_option maxRecDepth 100000 in
theorem t_X5_init_68 {r : Nat → Nat → Option Nat} {m q : fm_} (h : g_X5_init_68 m = some q) {Q : Option Value → am_W → Prop} (hQ : Q none (mk_ 69 (FR_X5_init_68 r) q)) : am_T m_X5_init sp_X5_init 69 Q 0 [some (.ref 68), some (.ref 1)] [] (mk_ 69 r m) :=
  am_T.wp sm_X5_init (K := am_T m_X5_init sp_X5_init 69 Q) (cuts := []) (fun _ _ _ _ h => h) 7
    (⟨Nat.le_of_ble_eq_true rfl, ⟨⟨rfl, Nat.le_of_ble_eq_true rfl⟩, ⟨rfl, fc_rt h hQ⟩⟩⟩)
noncomputable def cl_X5_init : List cs_t := [(68, [.ref 1], 69, 69, (fun _ => True), FR_X5_init_68, g_X5_init_68)]
set_option maxRecDepth 100000 in
theorem ok_X5_init : am_mok 5 46 m_X5_init = true := by decide +kernel
set_option maxRecDepth 100000 in
theorem c_X5_init (l : Launch) {g : am_G} (hg : fx_ l g) : am_Met l g 0 46 (cs_l cl_X5_init) := by
  refine am_sound (own := 5) (M := m_X5_init) (SP := sp_X5_init) hg.1 (by decide +kernel) ok_X5_init (by decide +kernel) ?_ ?_ (am_s0_ext l g 5) (Or.inl (by decide +kernel)) ?_ ?_
  · intro q hq hk
    have hm : q.2.2.2.1 ∈ am_cs m_X5_init := am_cs_in hq hk
    rw [show am_cs m_X5_init = [] by decide +kernel] at hm
    cases hm
  · intro q hq hk
    have hm : q.2.2.2.1 ∈ am_cs m_X5_init := am_cs_in hq (Or.inr hk)
    rw [show am_cs m_X5_init = [] by decide +kernel] at hm
    cases hm
  · intro as w K h
    obtain ⟨k, q, hk, rfl, -⟩ := h
    exact cs_len (n := am_nL 46) (l := cl_X5_init) (by decide +kernel) hk
  · intro as w K h
    obtain ⟨n, i0, l0, r⟩ := w
    obtain ⟨k, q, hk, rfl, hn, hp, m1, hm1, hK⟩ := h
    match k, hk with
    | 0, hk =>
      obtain rfl := (Option.some.inj (show some _ = some q from hk))
      obtain rfl : n = 69 := hn
      exact t_X5_init_68 (m := (i0, l0)) hm1 hK
    | k + 1, hk => cases hk
/-! == X7_init == -/
def sp_X7_init : am_S := (fun _ => am_s0)
theorem sm_X7_init : am_Smono sp_X7_init := am_s0_mono
set_option maxRecDepth 100000 in
def FR_X7_init_69 (r : Nat → Nat → Option Nat) : Nat → Nat → Option Nat := (am_u (am_z (am_u (am_z r 70 none) 69 0 (some 70)) 71 none) 69 1 (some 71))
set_option maxRecDepth 100000 in
noncomputable def g_X7_init_69 (m : fm_) : Option fm_ :=
  (some (zz_ (zz_ m 70) 71))
set_option maxRecDepth 100000 in
theorem t_X7_init_69 {r : Nat → Nat → Option Nat} {m q : fm_} (h : g_X7_init_69 m = some q) {Q : Option Value → am_W → Prop} (hQ : Q none (mk_ 72 (FR_X7_init_69 r) q)) : am_T m_X7_init sp_X7_init 72 Q 0 [some (.ref 69)] [] (mk_ 70 r m) :=
  am_T.wp sm_X7_init (K := am_T m_X7_init sp_X7_init 72 Q) (cuts := []) (fun _ _ _ _ h => h) 12
    (⟨Nat.le_of_ble_eq_true rfl, ⟨⟨rfl, Nat.le_of_ble_eq_true rfl, Nat.le_of_ble_eq_true rfl, by decide⟩, ⟨⟨rfl, Nat.le_of_ble_eq_true rfl⟩, ⟨⟨rfl, Nat.le_of_ble_eq_true rfl, Nat.le_of_ble_eq_true rfl, by decide⟩, ⟨⟨rfl, Nat.le_of_ble_eq_true rfl⟩, ⟨rfl, fc_rt h hQ⟩⟩⟩⟩⟩⟩)
noncomputable def cl_X7_init : List cs_t := [(69, [], 70, 72, (fun _ => True), FR_X7_init_69, g_X7_init_69)]
set_option maxRecDepth 100000 in
theorem ok_X7_init : am_mok 7 83 m_X7_init = true := by decide +kernel
set_option maxRecDepth 100000 in
theorem c_X7_init (l : Launch) {g : am_G} (hg : fx_ l g) : am_Met l g 0 83 (cs_l cl_X7_init) := by
  refine am_sound (own := 7) (M := m_X7_init) (SP := sp_X7_init) hg.1 (by decide +kernel) ok_X7_init (by decide +kernel) ?_ ?_ (am_s0_ext l g 7) (Or.inl (by decide +kernel)) ?_ ?_
  · intro q hq hk
    have hm : q.2.2.2.1 ∈ am_cs m_X7_init := am_cs_in hq hk
    rw [show am_cs m_X7_init = [] by decide +kernel] at hm
    cases hm
  · intro q hq hk
    have hm : q.2.2.2.1 ∈ am_cs m_X7_init := am_cs_in hq (Or.inr hk)
    rw [show am_cs m_X7_init = [] by decide +kernel] at hm
    cases hm
  · intro as w K h
    obtain ⟨k, q, hk, rfl, -⟩ := h
    exact cs_len (n := am_nL 83) (l := cl_X7_init) (by decide +kernel) hk
  · intro as w K h
    obtain ⟨n, i0, l0, r⟩ := w
    obtain ⟨k, q, hk, rfl, hn, hp, m1, hm1, hK⟩ := h
    match k, hk with
    | 0, hk =>
      obtain rfl := (Option.some.inj (show some _ = some q from hk))
      obtain rfl : n = 70 := hn
      exact t_X7_init_69 (m := (i0, l0)) hm1 hK
    | k + 1, hk => cases hk
/-! == X1_init == -/
def sp_X1_init : am_S := (fun _ => am_s0)
theorem sm_X1_init : am_Smono sp_X1_init := am_s0_mono
set_option maxRecDepth 100000 in
def FR_X1_init_72 (r : Nat → Nat → Option Nat) : Nat → Nat → Option Nat := (am_u (am_z (am_u (am_z (am_u (am_z (am_u (am_z (am_u (am_z (am_u (am_z (am_u (am_z (am_u (am_z (am_u (am_z r 73 none) 72 0 (some 73)) 74 none) 72 1 (some 74)) 75 none) 72 2 (some 75)) 76 none) 72 3 (some 76)) 77 none) 72 4 (some 77)) 78 none) 72 5 (some 78)) 79 none) 72 6 (some 79)) 80 none) 72 9 (some 80)) 81 none) 72 10 (some 81))
set_option maxRecDepth 100000 in
noncomputable def g_X1_init_72 (m : fm_) : Option fm_ :=
  (some (zz_ (zz_ (zz_ (zz_ (zz_ (zz_ (zz_ (zz_ (zz_ m 73) 74) 75) 76) 77) 78) 79) 80) 81))
set_option maxRecDepth 100000 in
theorem t_X1_init_72 {r : Nat → Nat → Option Nat} {m q : fm_} (h : g_X1_init_72 m = some q) {Q : Option Value → am_W → Prop} (hQ : Q none (mk_ 82 (FR_X1_init_72 r) q)) : am_T m_X1_init sp_X1_init 82 Q 0 [some (.ref 72)] [] (mk_ 73 r m) :=
  am_T.wp sm_X1_init (K := am_T m_X1_init sp_X1_init 82 Q) (cuts := []) (fun _ _ _ _ h => h) 40
    (⟨Nat.le_of_ble_eq_true rfl, ⟨⟨rfl, Nat.le_of_ble_eq_true rfl, Nat.le_of_ble_eq_true rfl, by decide⟩, ⟨⟨rfl, Nat.le_of_ble_eq_true rfl⟩, ⟨⟨rfl, Nat.le_of_ble_eq_true rfl, Nat.le_of_ble_eq_true rfl, by decide⟩, ⟨⟨rfl, Nat.le_of_ble_eq_true rfl⟩, ⟨⟨rfl, Nat.le_of_ble_eq_true rfl, Nat.le_of_ble_eq_true rfl, by decide⟩, ⟨⟨rfl, Nat.le_of_ble_eq_true rfl⟩, ⟨⟨rfl, Nat.le_of_ble_eq_true rfl, Nat.le_of_ble_eq_true rfl, by decide⟩, ⟨⟨rfl, Nat.le_of_ble_eq_true rfl⟩, ⟨⟨rfl, Nat.le_of_ble_eq_true rfl, Nat.le_of_ble_eq_true rfl, by decide⟩, ⟨⟨rfl, Nat.le_of_ble_eq_true rfl⟩, ⟨⟨rfl, Nat.le_of_ble_eq_true rfl, Nat.le_of_ble_eq_true rfl, by decide⟩, ⟨⟨rfl, Nat.le_of_ble_eq_true rfl⟩, ⟨⟨rfl, Nat.le_of_ble_eq_true rfl, Nat.le_of_ble_eq_true rfl, by decide⟩, ⟨⟨rfl, Nat.le_of_ble_eq_true rfl⟩, ⟨⟨rfl, Nat.le_of_ble_eq_true rfl, Nat.le_of_ble_eq_true rfl, by decide⟩, ⟨⟨rfl, Nat.le_of_ble_eq_true rfl⟩, ⟨⟨rfl, Nat.le_of_ble_eq_true rfl, Nat.le_of_ble_eq_true rfl, by decide⟩, ⟨⟨rfl, Nat.le_of_ble_eq_true rfl⟩, ⟨rfl, fc_rt h hQ⟩⟩⟩⟩⟩⟩⟩⟩⟩⟩⟩⟩⟩⟩⟩⟩⟩⟩⟩⟩)
noncomputable def cl_X1_init : List cs_t := [(72, [], 73, 82, (fun _ => True), FR_X1_init_72, g_X1_init_72)]
set_option maxRecDepth 100000 in
theorem ok_X1_init : am_mok 1 9 m_X1_init = true := by decide +kernel
set_option maxRecDepth 100000 in
theorem c_X1_init (l : Launch) {g : am_G} (hg : fx_ l g) : am_Met l g 0 9 (cs_l cl_X1_init) := by
  refine am_sound (own := 1) (M := m_X1_init) (SP := sp_X1_init) hg.1 (by decide +kernel) ok_X1_init (by decide +kernel) ?_ ?_ (am_s0_ext l g 1) (Or.inl (by decide +kernel)) ?_ ?_
  · intro q hq hk
    have hm : q.2.2.2.1 ∈ am_cs m_X1_init := am_cs_in hq hk
    rw [show am_cs m_X1_init = [] by decide +kernel] at hm
    cases hm
  · intro q hq hk
    have hm : q.2.2.2.1 ∈ am_cs m_X1_init := am_cs_in hq (Or.inr hk)
    rw [show am_cs m_X1_init = [] by decide +kernel] at hm
    cases hm
  · intro as w K h
    obtain ⟨k, q, hk, rfl, -⟩ := h
    exact cs_len (n := am_nL 9) (l := cl_X1_init) (by decide +kernel) hk
  · intro as w K h
    obtain ⟨n, i0, l0, r⟩ := w
    obtain ⟨k, q, hk, rfl, hn, hp, m1, hm1, hK⟩ := h
    match k, hk with
    | 0, hk =>
      obtain rfl := (Option.some.inj (show some _ = some q from hk))
      obtain rfl : n = 73 := hn
      exact t_X1_init_72 (m := (i0, l0)) hm1 hK
    | k + 1, hk => cases hk
/-! == X6_init == -/
def sp_X6_init : am_S := sp_c 62 (fn_s fn_U G_X6_forget) ((fun _ => am_s0))
theorem sm_X6_init : am_Smono sp_X6_init := sp_c_mono (fn_s_m) (am_s0_mono)
set_option maxRecDepth 100000 in
def FR_X6_init_82 (r : Nat → Nat → Option Nat) : Nat → Nat → Option Nat := (am_u (am_u (am_u (am_u (am_z (am_u (am_z (am_u (am_z (am_u (am_z (am_u (am_z (am_u (am_z (am_u (am_z (am_u (am_z (am_u (am_z r 83 none) 82 4 (some 83)) 84 none) 82 5 (some 84)) 85 none) 82 6 (some 85)) 86 none) 82 7 (some 86)) 87 none) 82 8 (some 87)) 88 none) 82 10 (some 88)) 89 none) 82 11 (some 89)) 90 none) 82 12 (some 90)) 91 none) 82 13 (some 91)) 82 0 (some 6)) 82 1 (some 69)) 82 2 (some 72))
set_option maxRecDepth 100000 in
noncomputable def g_X6_init_82 (m : fm_) : Option fm_ :=
  (Option.bind (f_X6_forget (zz_ (zz_ (zz_ (zz_ (zz_ (zz_ (zz_ (zz_ (zz_ m 83) 84) 85) 86) 87) 88) 89) 90) 91)) fun q1 =>
(some q1.2))
set_option maxRecDepth 100000 in
theorem t_X6_init_82 {r : Nat → Nat → Option Nat} {m q : fm_} (h : g_X6_init_82 m = some q) {Q : Option Value → am_W → Prop} (hQ : Q none (mk_ 92 (FR_X6_init_82 r) q)) : am_T m_X6_init sp_X6_init 92 Q 0 [some (.ref 82), some (.ref 6), some (.ref 69), some (.ref 72)] [] (mk_ 83 r m) :=
  am_T.wp sm_X6_init (K := am_T m_X6_init sp_X6_init 92 Q) (cuts := []) (fun _ _ _ _ h => h) 51
    (⟨Nat.le_of_ble_eq_true rfl, ⟨⟨rfl, Nat.le_of_ble_eq_true rfl, Nat.le_of_ble_eq_true rfl, by decide⟩, ⟨⟨rfl, Nat.le_of_ble_eq_true rfl⟩, ⟨⟨rfl, Nat.le_of_ble_eq_true rfl, Nat.le_of_ble_eq_true rfl, by decide⟩, ⟨⟨rfl, Nat.le_of_ble_eq_true rfl⟩, ⟨⟨rfl, Nat.le_of_ble_eq_true rfl, Nat.le_of_ble_eq_true rfl, by decide⟩, ⟨⟨rfl, Nat.le_of_ble_eq_true rfl⟩, ⟨⟨rfl, Nat.le_of_ble_eq_true rfl, Nat.le_of_ble_eq_true rfl, by decide⟩, ⟨⟨rfl, Nat.le_of_ble_eq_true rfl⟩, ⟨⟨rfl, Nat.le_of_ble_eq_true rfl, Nat.le_of_ble_eq_true rfl, by decide⟩, ⟨⟨rfl, Nat.le_of_ble_eq_true rfl⟩, ⟨⟨rfl, Nat.le_of_ble_eq_true rfl, Nat.le_of_ble_eq_true rfl, by decide⟩, ⟨⟨rfl, Nat.le_of_ble_eq_true rfl⟩, ⟨⟨rfl, Nat.le_of_ble_eq_true rfl, Nat.le_of_ble_eq_true rfl, by decide⟩, ⟨⟨rfl, Nat.le_of_ble_eq_true rfl⟩, ⟨⟨rfl, Nat.le_of_ble_eq_true rfl, Nat.le_of_ble_eq_true rfl, by decide⟩, ⟨⟨rfl, Nat.le_of_ble_eq_true rfl⟩, ⟨⟨rfl, Nat.le_of_ble_eq_true rfl, Nat.le_of_ble_eq_true rfl, by decide⟩, ⟨⟨rfl, Nat.le_of_ble_eq_true rfl⟩, ⟨⟨rfl, Nat.le_of_ble_eq_true rfl⟩, ⟨⟨rfl, Nat.le_of_ble_eq_true rfl⟩, ⟨⟨rfl, Nat.le_of_ble_eq_true rfl⟩, fh_bd h fun q1 e2 h3 => ⟨Nat.le_of_ble_eq_true rfl, ⟨rfl, Nat.le_of_ble_eq_true rfl⟩, (show 82 < 92 by omega), none, q1.2, gp_X6_forget (n := 92) (r := _) e2, fun _ => ⟨rfl, ⟨rfl, fc_rt h3 hQ⟩⟩⟩⟩⟩⟩⟩⟩⟩⟩⟩⟩⟩⟩⟩⟩⟩⟩⟩⟩⟩⟩⟩⟩⟩)
noncomputable def cl_X6_init : List cs_t := [(82, [.ref 6, .ref 69, .ref 72], 83, 92, (fun _ => True), FR_X6_init_82, g_X6_init_82)]
set_option maxRecDepth 100000 in
theorem ok_X6_init : am_mok 6 61 m_X6_init = true := by decide +kernel
set_option maxRecDepth 100000 in
theorem c_X6_init (l : Launch) {g : am_G} (hg : fx_ l g) : am_Met l g 1 61 (cs_l cl_X6_init) := by
  refine am_sound (own := 6) (M := m_X6_init) (SP := sp_X6_init) hg.1 (by decide +kernel) ok_X6_init (by decide +kernel) ?_ ?_ (sp_c_ext (Nat.le_of_ble_eq_true rfl) (am_s0_ext l g 6)) (Or.inl (by decide +kernel)) ?_ ?_
  · intro q hq hk
    have hm : q.2.2.2.1 ∈ am_cs m_X6_init := am_cs_in hq hk
    rw [show am_cs m_X6_init = [62] by decide +kernel] at hm
    have hm : q.2.2.2.1 ∈ [62] := (List.all_eq_true.mp (show ([62] : List Nat).all (fun a => decide (a ∈ ([62] : List Nat))) = true by decide +kernel) _ hm |> of_decide_eq_true)
    simp only [List.mem_cons, List.not_mem_nil, or_false] at hm
    rcases hm with hm
    · rw [hm]; exact ⟨0, by omega, c_X6_forget l hg⟩
  · intro q hq hk
    have hm : q.2.2.2.1 ∈ am_cs m_X6_init := am_cs_in hq (Or.inr hk)
    rw [show am_cs m_X6_init = [62] by decide +kernel] at hm
    have hm : q.2.2.2.1 ∈ [62] := (List.all_eq_true.mp (show ([62] : List Nat).all (fun a => decide (a ∈ ([62] : List Nat))) = true by decide +kernel) _ hm |> of_decide_eq_true)
    simp only [List.mem_cons, List.not_mem_nil, or_false] at hm
    rcases hm with hm
    · exact absurd hm (am_not61 (M := m_X6_init) (k := 62) (by decide +kernel) hq hk)
  · intro as w K h
    obtain ⟨k, q, hk, rfl, -⟩ := h
    exact cs_len (n := am_nL 61) (l := cl_X6_init) (by decide +kernel) hk
  · intro as w K h
    obtain ⟨n, i0, l0, r⟩ := w
    obtain ⟨k, q, hk, rfl, hn, hp, m1, hm1, hK⟩ := h
    match k, hk with
    | 0, hk =>
      obtain rfl := (Option.some.inj (show some _ = some q from hk))
      obtain rfl : n = 83 := hn
      exact t_X6_init_82 (m := (i0, l0)) hm1 hK
    | k + 1, hk => cases hk
/-! == X2_init == -/
def sp_X2_init : am_S := (fun _ => am_s0)
theorem sm_X2_init : am_Smono sp_X2_init := am_s0_mono
set_option maxRecDepth 100000 in
def FR_X2_init_92 (r : Nat → Nat → Option Nat) : Nat → Nat → Option Nat := (am_u (am_u (am_u (am_u (am_u (am_z r 93 none) 92 4 (some 93)) 92 0 (some 30)) 92 1 (some 72)) 92 2 (some 69)) 92 3 (some 82))
set_option maxRecDepth 100000 in
noncomputable def g_X2_init_92 (m : fm_) : Option fm_ :=
  (some (zz_ m 93))
set_option maxRecDepth 100000 in
theorem t_X2_init_92 {r : Nat → Nat → Option Nat} {m q : fm_} (h : g_X2_init_92 m = some q) {Q : Option Value → am_W → Prop} (hQ : Q none (mk_ 94 (FR_X2_init_92 r) q)) : am_T m_X2_init sp_X2_init 94 Q 0 [some (.ref 92), some (.ref 30), some (.ref 72), some (.ref 69), some (.ref 82)] [] (mk_ 93 r m) :=
  am_T.wp sm_X2_init (K := am_T m_X2_init sp_X2_init 94 Q) (cuts := []) (fun _ _ _ _ h => h) 20
    (⟨Nat.le_of_ble_eq_true rfl, ⟨⟨rfl, Nat.le_of_ble_eq_true rfl, Nat.le_of_ble_eq_true rfl, by decide⟩, ⟨⟨rfl, Nat.le_of_ble_eq_true rfl⟩, ⟨⟨rfl, Nat.le_of_ble_eq_true rfl⟩, ⟨⟨rfl, Nat.le_of_ble_eq_true rfl⟩, ⟨⟨rfl, Nat.le_of_ble_eq_true rfl⟩, ⟨⟨rfl, Nat.le_of_ble_eq_true rfl⟩, ⟨rfl, fc_rt h hQ⟩⟩⟩⟩⟩⟩⟩⟩)
noncomputable def cl_X2_init : List cs_t := [(92, [.ref 30, .ref 72, .ref 69, .ref 82], 93, 94, (fun _ => True), FR_X2_init_92, g_X2_init_92)]
set_option maxRecDepth 100000 in
theorem ok_X2_init : am_mok 2 23 m_X2_init = true := by decide +kernel
set_option maxRecDepth 100000 in
theorem c_X2_init (l : Launch) {g : am_G} (hg : fx_ l g) : am_Met l g 0 23 (cs_l cl_X2_init) := by
  refine am_sound (own := 2) (M := m_X2_init) (SP := sp_X2_init) hg.1 (by decide +kernel) ok_X2_init (by decide +kernel) ?_ ?_ (am_s0_ext l g 2) (Or.inl (by decide +kernel)) ?_ ?_
  · intro q hq hk
    have hm : q.2.2.2.1 ∈ am_cs m_X2_init := am_cs_in hq hk
    rw [show am_cs m_X2_init = [] by decide +kernel] at hm
    cases hm
  · intro q hq hk
    have hm : q.2.2.2.1 ∈ am_cs m_X2_init := am_cs_in hq (Or.inr hk)
    rw [show am_cs m_X2_init = [] by decide +kernel] at hm
    cases hm
  · intro as w K h
    obtain ⟨k, q, hk, rfl, -⟩ := h
    exact cs_len (n := am_nL 23) (l := cl_X2_init) (by decide +kernel) hk
  · intro as w K h
    obtain ⟨n, i0, l0, r⟩ := w
    obtain ⟨k, q, hk, rfl, hn, hp, m1, hm1, hK⟩ := h
    match k, hk with
    | 0, hk =>
      obtain rfl := (Option.some.inj (show some _ = some q from hk))
      obtain rfl : n = 93 := hn
      exact t_X2_init_92 (m := (i0, l0)) hm1 hK
    | k + 1, hk => cases hk
/-! == X0_init == -/
def sp_X0_init : am_S := sp_c 299 (fn_s fn_0 G_J7_fill_53178) ((fun _ => am_s0))
theorem sm_X0_init : am_Smono sp_X0_init := sp_c_mono (fn_s_m) (am_s0_mono)
set_option maxRecDepth 100000 in
def FR_X0_init_94 (r : Nat → Nat → Option Nat) : Nat → Nat → Option Nat := (am_u (am_z (am_u (am_z (am_u (am_z r 95 none) 94 0 (some 95)) 96 none) 94 1 (some 96)) 97 none) 94 3 (some 97))
set_option maxRecDepth 100000 in
noncomputable def g_X0_init_94 (m : fm_) : Option fm_ :=
  (Option.bind (f_J7_fill_53178 96 200 (-1) (zz_ (zz_ (zz_ m 95) 96) 97)) fun q1 =>
(some q1.2))
set_option maxRecDepth 100000 in
theorem t_X0_init_94 {r : Nat → Nat → Option Nat} {m q : fm_} (h : g_X0_init_94 m = some q) {Q : Option Value → am_W → Prop} (hQ : Q none (mk_ 98 (FR_X0_init_94 r) q)) : am_T m_X0_init sp_X0_init 98 Q 0 [some (.ref 94)] [] (mk_ 95 r m) :=
  am_T.wp sm_X0_init (K := am_T m_X0_init sp_X0_init 98 Q) (cuts := []) (fun _ _ _ _ h => h) 20
    (⟨Nat.le_of_ble_eq_true rfl, ⟨⟨rfl, Nat.le_of_ble_eq_true rfl, Nat.le_of_ble_eq_true rfl, by decide⟩, ⟨⟨rfl, Nat.le_of_ble_eq_true rfl⟩, ⟨⟨rfl, Nat.le_of_ble_eq_true rfl, Nat.le_of_ble_eq_true rfl, by decide⟩, ⟨⟨rfl, Nat.le_of_ble_eq_true rfl⟩, ⟨⟨rfl, Nat.le_of_ble_eq_true rfl, Nat.le_of_ble_eq_true rfl, by decide⟩, ⟨⟨rfl, Nat.le_of_ble_eq_true rfl⟩, ⟨⟨rfl, Nat.le_of_ble_eq_true rfl⟩, Or.inl ⟨_, rfl, fh_bd h fun q1 e2 h3 => ⟨Nat.le_of_ble_eq_true rfl, trivial, trivial, none, q1.2, gp_J7_fill_53178 (n := 98) (r := _) rfl (Nat.le_of_ble_eq_true rfl) e2, fun _ => ⟨rfl, ⟨rfl, fc_rt h3 hQ⟩⟩⟩⟩⟩⟩⟩⟩⟩⟩⟩⟩)
noncomputable def cl_X0_init : List cs_t := [(94, [], 95, 98, (fun _ => True), FR_X0_init_94, g_X0_init_94)]
set_option maxRecDepth 100000 in
theorem ok_X0_init : am_mok 0 0 m_X0_init = true := by decide +kernel
set_option maxRecDepth 100000 in
theorem c_X0_init (l : Launch) {g : am_G} (hg : fx_ l g) : am_Met l g 1 0 (cs_l cl_X0_init) := by
  refine am_sound (own := 0) (M := m_X0_init) (SP := sp_X0_init) hg.1 (by decide +kernel) ok_X0_init (by decide +kernel) ?_ ?_ (sp_c_ext (Nat.le_of_ble_eq_true rfl) (am_s0_ext l g 0)) (Or.inl (by decide +kernel)) ?_ ?_
  · intro q hq hk
    have hm : q.2.2.2.1 ∈ am_cs m_X0_init := am_cs_in hq hk
    rw [show am_cs m_X0_init = [299] by decide +kernel] at hm
    have hm : q.2.2.2.1 ∈ [299] := (List.all_eq_true.mp (show ([299] : List Nat).all (fun a => decide (a ∈ ([299] : List Nat))) = true by decide +kernel) _ hm |> of_decide_eq_true)
    simp only [List.mem_cons, List.not_mem_nil, or_false] at hm
    rcases hm with hm
    · rw [hm]; exact ⟨0, by omega, c_J7_fill_53178 l hg⟩
  · intro q hq hk
    have hm : q.2.2.2.1 ∈ am_cs m_X0_init := am_cs_in hq (Or.inr hk)
    rw [show am_cs m_X0_init = [299] by decide +kernel] at hm
    have hm : q.2.2.2.1 ∈ [299] := (List.all_eq_true.mp (show ([299] : List Nat).all (fun a => decide (a ∈ ([299] : List Nat))) = true by decide +kernel) _ hm |> of_decide_eq_true)
    simp only [List.mem_cons, List.not_mem_nil, or_false] at hm
    rcases hm with hm
    · exact absurd hm (am_not61 (M := m_X0_init) (k := 299) (by decide +kernel) hq hk)
  · intro as w K h
    obtain ⟨k, q, hk, rfl, -⟩ := h
    exact cs_len (n := am_nL 0) (l := cl_X0_init) (by decide +kernel) hk
  · intro as w K h
    obtain ⟨n, i0, l0, r⟩ := w
    obtain ⟨k, q, hk, rfl, hn, hp, m1, hm1, hK⟩ := h
    match k, hk with
    | 0, hk =>
      obtain rfl := (Option.some.inj (show some _ = some q from hk))
      obtain rfl : n = 95 := hn
      exact t_X0_init_94 (m := (i0, l0)) hm1 hK
    | k + 1, hk => cases hk
/-! == X10_init == -/
def sp_X10_init : am_S := (fun _ => am_s0)
theorem sm_X10_init : am_Smono sp_X10_init := am_s0_mono
set_option maxRecDepth 100000 in
def FR_X10_init_98 (r : Nat → Nat → Option Nat) : Nat → Nat → Option Nat := (am_u (am_u (am_u (am_z (am_u (am_z (am_u (am_z (am_u (am_z (am_u (am_z (am_u (am_z (am_u (am_z r 99 none) 98 2 (some 99)) 100 none) 98 3 (some 100)) 101 none) 98 4 (some 101)) 102 none) 98 5 (some 102)) 103 none) 98 6 (some 103)) 104 none) 98 8 (some 104)) 105 none) 98 12 (some 105)) 98 0 (some 6)) 98 1 (some 30))
set_option maxRecDepth 100000 in
noncomputable def g_X10_init_98 (m : fm_) : Option fm_ :=
  (some (zz_ (zz_ (zz_ (zz_ (zz_ (zz_ (zz_ m 99) 100) 101) 102) 103) 104) 105))
set_option maxRecDepth 100000 in
theorem t_X10_init_98 {r : Nat → Nat → Option Nat} {m q : fm_} (h : g_X10_init_98 m = some q) {Q : Option Value → am_W → Prop} (hQ : Q none (mk_ 106 (FR_X10_init_98 r) q)) : am_T m_X10_init sp_X10_init 106 Q 0 [some (.ref 98), some (.ref 6), some (.ref 30)] [] (mk_ 99 r m) :=
  am_T.wp sm_X10_init (K := am_T m_X10_init sp_X10_init 106 Q) (cuts := []) (fun _ _ _ _ h => h) 38
    (⟨Nat.le_of_ble_eq_true rfl, ⟨⟨rfl, Nat.le_of_ble_eq_true rfl, Nat.le_of_ble_eq_true rfl, by decide⟩, ⟨⟨rfl, Nat.le_of_ble_eq_true rfl⟩, ⟨⟨rfl, Nat.le_of_ble_eq_true rfl, Nat.le_of_ble_eq_true rfl, by decide⟩, ⟨⟨rfl, Nat.le_of_ble_eq_true rfl⟩, ⟨⟨rfl, Nat.le_of_ble_eq_true rfl, Nat.le_of_ble_eq_true rfl, by decide⟩, ⟨⟨rfl, Nat.le_of_ble_eq_true rfl⟩, ⟨⟨rfl, Nat.le_of_ble_eq_true rfl, Nat.le_of_ble_eq_true rfl, by decide⟩, ⟨⟨rfl, Nat.le_of_ble_eq_true rfl⟩, ⟨⟨rfl, Nat.le_of_ble_eq_true rfl, Nat.le_of_ble_eq_true rfl, by decide⟩, ⟨⟨rfl, Nat.le_of_ble_eq_true rfl⟩, ⟨⟨rfl, Nat.le_of_ble_eq_true rfl, Nat.le_of_ble_eq_true rfl, by decide⟩, ⟨⟨rfl, Nat.le_of_ble_eq_true rfl⟩, ⟨⟨rfl, Nat.le_of_ble_eq_true rfl, Nat.le_of_ble_eq_true rfl, by decide⟩, ⟨⟨rfl, Nat.le_of_ble_eq_true rfl⟩, ⟨⟨rfl, Nat.le_of_ble_eq_true rfl⟩, ⟨⟨rfl, Nat.le_of_ble_eq_true rfl⟩, ⟨rfl, fc_rt h hQ⟩⟩⟩⟩⟩⟩⟩⟩⟩⟩⟩⟩⟩⟩⟩⟩⟩⟩)
noncomputable def cl_X10_init : List cs_t := [(98, [.ref 6, .ref 30], 99, 106, (fun _ => True), FR_X10_init_98, g_X10_init_98)]
set_option maxRecDepth 100000 in
theorem ok_X10_init : am_mok 10 135 m_X10_init = true := by decide +kernel
set_option maxRecDepth 100000 in
theorem c_X10_init (l : Launch) {g : am_G} (hg : fx_ l g) : am_Met l g 0 135 (cs_l cl_X10_init) := by
  refine am_sound (own := 10) (M := m_X10_init) (SP := sp_X10_init) hg.1 (by decide +kernel) ok_X10_init (by decide +kernel) ?_ ?_ (am_s0_ext l g 10) (Or.inl (by decide +kernel)) ?_ ?_
  · intro q hq hk
    have hm : q.2.2.2.1 ∈ am_cs m_X10_init := am_cs_in hq hk
    rw [show am_cs m_X10_init = [] by decide +kernel] at hm
    cases hm
  · intro q hq hk
    have hm : q.2.2.2.1 ∈ am_cs m_X10_init := am_cs_in hq (Or.inr hk)
    rw [show am_cs m_X10_init = [] by decide +kernel] at hm
    cases hm
  · intro as w K h
    obtain ⟨k, q, hk, rfl, -⟩ := h
    exact cs_len (n := am_nL 135) (l := cl_X10_init) (by decide +kernel) hk
  · intro as w K h
    obtain ⟨n, i0, l0, r⟩ := w
    obtain ⟨k, q, hk, rfl, hn, hp, m1, hm1, hK⟩ := h
    match k, hk with
    | 0, hk =>
      obtain rfl := (Option.some.inj (show some _ = some q from hk))
      obtain rfl : n = 99 := hn
      exact t_X10_init_98 (m := (i0, l0)) hm1 hK
    | k + 1, hk => cases hk
set_option maxRecDepth 100000 in
theorem fT_11 (r : Nat → Nat → Option Nat) : fn_T 18 (am_u (FR_X9_init_6 r) 0 1 (some 6)) := ⟨by omega, fun k t h => match k, h with
  | 0, h => h
  | 1, h => h
  | 2, h => h
  | 3, h => nomatch h
  | 4, h => nomatch h
  | 5, h => h
  | 6, h => h
  | 7, h => h
  | 8, h => nomatch h
  | 9, h => nomatch h
  | 10, h => h
  | 11, h => h
  | 12, h => h
  | 13, h => h
  | 14, h => h
  | k + 15, h => nomatch h⟩
/-! == X11_init == -/
def sp_X11_init : am_S := sp_c 89 (cs_l cl_X8_init) (sp_c 115 (cs_l cl_X9_init) (sp_c 117 (fn_s fn_T G_X9_measure) (sp_c 31 (cs_l cl_X3_init) (sp_c 46 (cs_l cl_X5_init) (sp_c 83 (cs_l cl_X7_init) (sp_c 9 (cs_l cl_X1_init) (sp_c 61 (cs_l cl_X6_init) (sp_c 23 (cs_l cl_X2_init) (sp_c 0 (cs_l cl_X0_init) (sp_c 135 (cs_l cl_X10_init) ((fun _ => am_s0))))))))))))
theorem sm_X11_init : am_Smono sp_X11_init := sp_c_mono (cs_mono) (sp_c_mono (cs_mono) (sp_c_mono (fn_s_m) (sp_c_mono (cs_mono) (sp_c_mono (cs_mono) (sp_c_mono (cs_mono) (sp_c_mono (cs_mono) (sp_c_mono (cs_mono) (sp_c_mono (cs_mono) (sp_c_mono (cs_mono) (sp_c_mono (cs_mono) (am_s0_mono)))))))))))
set_option maxRecDepth 100000 in
def FR_X11_init_0 (r : Nat → Nat → Option Nat) : Nat → Nat → Option Nat := (am_u (FR_X10_init_98 (am_z (am_u (FR_X0_init_94 (am_z (am_u (FR_X2_init_92 (am_z (am_u (FR_X6_init_82 (am_z (am_u (FR_X1_init_72 (am_z (am_u (FR_X7_init_69 (am_z (am_u (FR_X5_init_68 (am_z (am_u (FR_X3_init_30 (am_z (am_u (FR_X9_init_18 (am_z (am_u (FR_X9_init_6 (am_z (am_u (FR_X8_init_1 (am_z r 1 none)) 0 0 (some 1)) 6 none)) 0 1 (some 6)) 18 none)) 0 2 (some 18)) 30 none)) 0 3 (some 30)) 68 none)) 0 4 (some 68)) 69 none)) 0 5 (some 69)) 72 none)) 0 6 (some 72)) 82 none)) 0 7 (some 82)) 92 none)) 0 8 (some 92)) 94 none)) 0 9 (some 94)) 98 none)) 0 10 (some 98))
set_option maxRecDepth 100000 in
noncomputable def g_X11_init_0 (m : fm_) : Option fm_ :=
  (Option.bind (g_X8_init_1 (zz_ m 1)) fun q1 =>
(Option.bind (g_X9_init_6 (zz_ q1 6)) fun q4 =>
(Option.bind (f_X9_measure q4) fun q7 =>
(Option.bind (g_X9_init_18 (zz_ q7.2 18)) fun q10 =>
(Option.bind (g_X3_init_30 (zz_ q10 30)) fun q13 =>
(Option.bind (g_X5_init_68 (zz_ q13 68)) fun q16 =>
(Option.bind (g_X7_init_69 (zz_ q16 69)) fun q19 =>
(Option.bind (g_X1_init_72 (zz_ q19 72)) fun q22 =>
(Option.bind (g_X6_init_82 (zz_ q22 82)) fun q25 =>
(Option.bind (g_X2_init_92 (zz_ q25 92)) fun q28 =>
(Option.bind (g_X0_init_94 (zz_ q28 94)) fun q31 =>
(Option.bind (g_X10_init_98 (zz_ q31 98)) fun q34 =>
(some q34)))))))))))))
set_option maxRecDepth 100000 in
theorem t_X11_init_0 {r : Nat → Nat → Option Nat} {m q : fm_} (h : g_X11_init_0 m = some q) {Q : Option Value → am_W → Prop} (hQ : Q none (mk_ 106 (FR_X11_init_0 r) q)) : am_T m_X11_init sp_X11_init 106 Q 0 [some (.ref 0)] [] (mk_ 1 r m) :=
  am_T.wp sm_X11_init (K := am_T m_X11_init sp_X11_init 106 Q) (cuts := []) (fun _ _ _ _ h => h) 82
    (⟨Nat.le_of_ble_eq_true rfl, ⟨⟨rfl, Nat.le_of_ble_eq_true rfl⟩, fh_bd h fun q1 e2 h3 => ⟨Nat.le_of_ble_eq_true rfl, ⟨Nat.le_of_ble_eq_true rfl, (show am_ss 6 = am_ss 2 + 3603 by decide +kernel)⟩, 0, _, rfl, rfl, rfl, trivial, q1, e2, fun _ => ⟨rfl, ⟨⟨rfl, Nat.le_of_ble_eq_true rfl⟩, ⟨⟨rfl, Nat.le_of_ble_eq_true rfl⟩, fh_bd h3 fun q4 e5 h6 => ⟨Nat.le_of_ble_eq_true rfl, ⟨Nat.le_of_ble_eq_true rfl, (show am_ss 18 = am_ss 7 + 816 by decide +kernel)⟩, 0, _, rfl, rfl, rfl, trivial, q4, e5, fun _ => ⟨rfl, ⟨⟨rfl, Nat.le_of_ble_eq_true rfl⟩, ⟨⟨rfl, Nat.le_of_ble_eq_true rfl⟩, Or.inl ⟨_, rfl, fh_bd h6 fun q7 e8 h9 => ⟨Nat.le_of_ble_eq_true rfl, ⟨rfl, Nat.le_of_ble_eq_true rfl⟩, fT_11 _, none, q7.2, gp_X9_measure (n := 18) (r := _) e8, fun _ => ⟨rfl, ⟨⟨rfl, Nat.le_of_ble_eq_true rfl⟩, fh_bd h9 fun q10 e11 h12 => ⟨Nat.le_of_ble_eq_true rfl, ⟨Nat.le_of_ble_eq_true rfl, (show am_ss 30 = am_ss 19 + 816 by decide +kernel)⟩, 1, _, rfl, rfl, rfl, trivial, q10, e11, fun _ => ⟨rfl, ⟨⟨rfl, Nat.le_of_ble_eq_true rfl⟩, ⟨⟨rfl, Nat.le_of_ble_eq_true rfl⟩, fh_bd h12 fun q13 e14 h15 => ⟨Nat.le_of_ble_eq_true rfl, ⟨Nat.le_of_ble_eq_true rfl, (show am_ss 68 = am_ss 31 + 2922 by decide +kernel)⟩, 0, _, rfl, rfl, rfl, trivial, q13, e14, fun _ => ⟨rfl, ⟨⟨rfl, Nat.le_of_ble_eq_true rfl⟩, ⟨⟨rfl, Nat.le_of_ble_eq_true rfl⟩, ⟨⟨rfl, Nat.le_of_ble_eq_true rfl⟩, Or.inl ⟨_, rfl, fh_bd h15 fun q16 e17 h18 => ⟨Nat.le_of_ble_eq_true rfl, ⟨Nat.le_of_ble_eq_true rfl, (show am_ss 69 = am_ss 69 + 0 by decide +kernel)⟩, 0, _, rfl, rfl, rfl, trivial, q16, e17, fun _ => ⟨rfl, ⟨⟨rfl, Nat.le_of_ble_eq_true rfl⟩, ⟨⟨rfl, Nat.le_of_ble_eq_true rfl⟩, fh_bd h18 fun q19 e20 h21 => ⟨Nat.le_of_ble_eq_true rfl, ⟨Nat.le_of_ble_eq_true rfl, (show am_ss 72 = am_ss 70 + 20 by decide +kernel)⟩, 0, _, rfl, rfl, rfl, trivial, q19, e20, fun _ => ⟨rfl, ⟨⟨rfl, Nat.le_of_ble_eq_true rfl⟩, ⟨⟨rfl, Nat.le_of_ble_eq_true rfl⟩, fh_bd h21 fun q22 e23 h24 => ⟨Nat.le_of_ble_eq_true rfl, ⟨Nat.le_of_ble_eq_true rfl, (show am_ss 82 = am_ss 73 + 2200 by decide +kernel)⟩, 0, _, rfl, rfl, rfl, trivial, q22, e23, fun _ => ⟨rfl, ⟨⟨rfl, Nat.le_of_ble_eq_true rfl⟩, ⟨⟨rfl, Nat.le_of_ble_eq_true rfl⟩, ⟨⟨rfl, Nat.le_of_ble_eq_true rfl⟩, Or.inl ⟨_, rfl, ⟨⟨rfl, Nat.le_of_ble_eq_true rfl⟩, Or.inl ⟨_, rfl, ⟨⟨rfl, Nat.le_of_ble_eq_true rfl⟩, Or.inl ⟨_, rfl, fh_bd h24 fun q25 e26 h27 => ⟨Nat.le_of_ble_eq_true rfl, ⟨Nat.le_of_ble_eq_true rfl, (show am_ss 92 = am_ss 83 + 898 by decide +kernel)⟩, 0, _, rfl, rfl, rfl, trivial, q25, e26, fun _ => ⟨rfl, ⟨⟨rfl, Nat.le_of_ble_eq_true rfl⟩, ⟨⟨rfl, Nat.le_of_ble_eq_true rfl⟩, ⟨⟨rfl, Nat.le_of_ble_eq_true rfl⟩, Or.inl ⟨_, rfl, ⟨⟨rfl, Nat.le_of_ble_eq_true rfl⟩, Or.inl ⟨_, rfl, ⟨⟨rfl, Nat.le_of_ble_eq_true rfl⟩, Or.inl ⟨_, rfl, ⟨⟨rfl, Nat.le_of_ble_eq_true rfl⟩, Or.inl ⟨_, rfl, fh_bd h27 fun q28 e29 h30 => ⟨Nat.le_of_ble_eq_true rfl, ⟨Nat.le_of_ble_eq_true rfl, (show am_ss 94 = am_ss 93 + 8 by decide +kernel)⟩, 0, _, rfl, rfl, rfl, trivial, q28, e29, fun _ => ⟨rfl, ⟨⟨rfl, Nat.le_of_ble_eq_true rfl⟩, ⟨⟨rfl, Nat.le_of_ble_eq_true rfl⟩, fh_bd h30 fun q31 e32 h33 => ⟨Nat.le_of_ble_eq_true rfl, ⟨Nat.le_of_ble_eq_true rfl, (show am_ss 98 = am_ss 95 + 412 by decide +kernel)⟩, 0, _, rfl, rfl, rfl, trivial, q31, e32, fun _ => ⟨rfl, ⟨⟨rfl, Nat.le_of_ble_eq_true rfl⟩, ⟨⟨rfl, Nat.le_of_ble_eq_true rfl⟩, ⟨⟨rfl, Nat.le_of_ble_eq_true rfl⟩, Or.inl ⟨_, rfl, ⟨⟨rfl, Nat.le_of_ble_eq_true rfl⟩, Or.inl ⟨_, rfl, fh_bd h33 fun q34 e35 h36 => ⟨Nat.le_of_ble_eq_true rfl, ⟨Nat.le_of_ble_eq_true rfl, (show am_ss 106 = am_ss 99 + 132 by decide +kernel)⟩, 0, _, rfl, rfl, rfl, trivial, q34, e35, fun _ => ⟨rfl, ⟨⟨rfl, Nat.le_of_ble_eq_true rfl⟩, ⟨rfl, fc_rt h36 hQ⟩⟩⟩⟩⟩⟩⟩⟩⟩⟩⟩⟩⟩⟩⟩⟩⟩⟩⟩⟩⟩⟩⟩⟩⟩⟩⟩⟩⟩⟩⟩⟩⟩⟩⟩⟩⟩⟩⟩⟩⟩⟩⟩⟩⟩⟩⟩⟩⟩⟩⟩⟩⟩⟩⟩⟩⟩⟩⟩⟩⟩⟩⟩⟩⟩⟩⟩⟩⟩⟩)
noncomputable def cl_X11_init : List cs_t := [(0, [], 1, 106, (fun _ => True), FR_X11_init_0, g_X11_init_0)]
set_option maxRecDepth 100000 in
theorem ok_X11_init : am_mok 11 145 m_X11_init = true := by decide +kernel
set_option maxRecDepth 100000 in
theorem c_X11_init (l : Launch) {g : am_G} (hg : fx_ l g) : am_Met l g 5 145 (cs_l cl_X11_init) := by
  refine am_sound (own := 11) (M := m_X11_init) (SP := sp_X11_init) hg.1 (by decide +kernel) ok_X11_init (by decide +kernel) ?_ ?_ (sp_c_ext (Nat.le_of_ble_eq_true rfl) (sp_c_ext (Nat.le_of_ble_eq_true rfl) (sp_c_ext (Nat.le_of_ble_eq_true rfl) (sp_c_ext (Nat.le_of_ble_eq_true rfl) (sp_c_ext (Nat.le_of_ble_eq_true rfl) (sp_c_ext (Nat.le_of_ble_eq_true rfl) (sp_c_ext (Nat.le_of_ble_eq_true rfl) (sp_c_ext (Nat.le_of_ble_eq_true rfl) (sp_c_ext (Nat.le_of_ble_eq_true rfl) (sp_c_ext (Nat.le_of_ble_eq_true rfl) (sp_c_ext (Nat.le_of_ble_eq_true rfl) (am_s0_ext l g 11)))))))))))) (Or.inl (by decide +kernel)) ?_ ?_
  · intro q hq hk
    have hm : q.2.2.2.1 ∈ am_cs m_X11_init := am_cs_in hq hk
    rw [show am_cs m_X11_init = [89, 115, 117, 115, 31, 46, 83, 9, 61, 23, 0, 135] by decide +kernel] at hm
    have hm : q.2.2.2.1 ∈ [0, 9, 23, 31, 46, 61, 83, 89, 115, 117, 135] := (List.all_eq_true.mp (show ([89, 115, 117, 115, 31, 46, 83, 9, 61, 23, 0, 135] : List Nat).all (fun a => decide (a ∈ ([0, 9, 23, 31, 46, 61, 83, 89, 115, 117, 135] : List Nat))) = true by decide +kernel) _ hm |> of_decide_eq_true)
    simp only [List.mem_cons, List.not_mem_nil, or_false] at hm
    rcases hm with hm | hm | hm | hm | hm | hm | hm | hm | hm | hm | hm
    · rw [hm]; exact ⟨1, by omega, c_X0_init l hg⟩
    · rw [hm]; exact ⟨0, by omega, c_X1_init l hg⟩
    · rw [hm]; exact ⟨0, by omega, c_X2_init l hg⟩
    · rw [hm]; exact ⟨1, by omega, c_X3_init l hg⟩
    · rw [hm]; exact ⟨0, by omega, c_X5_init l hg⟩
    · rw [hm]; exact ⟨1, by omega, c_X6_init l hg⟩
    · rw [hm]; exact ⟨0, by omega, c_X7_init l hg⟩
    · rw [hm]; exact ⟨0, by omega, c_X8_init l hg⟩
    · rw [hm]; exact ⟨0, by omega, c_X9_init l hg⟩
    · rw [hm]; exact ⟨4, by omega, c_X9_measure l hg⟩
    · rw [hm]; exact ⟨0, by omega, c_X10_init l hg⟩
  · intro q hq hk
    have hm : q.2.2.2.1 ∈ am_cs m_X11_init := am_cs_in hq (Or.inr hk)
    rw [show am_cs m_X11_init = [89, 115, 117, 115, 31, 46, 83, 9, 61, 23, 0, 135] by decide +kernel] at hm
    have hm : q.2.2.2.1 ∈ [0, 9, 23, 31, 46, 61, 83, 89, 115, 117, 135] := (List.all_eq_true.mp (show ([89, 115, 117, 115, 31, 46, 83, 9, 61, 23, 0, 135] : List Nat).all (fun a => decide (a ∈ ([0, 9, 23, 31, 46, 61, 83, 89, 115, 117, 135] : List Nat))) = true by decide +kernel) _ hm |> of_decide_eq_true)
    simp only [List.mem_cons, List.not_mem_nil, or_false] at hm
    rcases hm with hm | hm | hm | hm | hm | hm | hm | hm | hm | hm | hm
    · rw [hm]; exact fun as w K h => cs_ref h
    · rw [hm]; exact fun as w K h => cs_ref h
    · rw [hm]; exact fun as w K h => cs_ref h
    · rw [hm]; exact fun as w K h => cs_ref h
    · rw [hm]; exact fun as w K h => cs_ref h
    · rw [hm]; exact fun as w K h => cs_ref h
    · rw [hm]; exact fun as w K h => cs_ref h
    · rw [hm]; exact fun as w K h => cs_ref h
    · rw [hm]; exact fun as w K h => cs_ref h
    · exact absurd hm (am_not61 (M := m_X11_init) (k := 117) (by decide +kernel) hq hk)
    · rw [hm]; exact fun as w K h => cs_ref h
  · intro as w K h
    obtain ⟨k, q, hk, rfl, -⟩ := h
    exact cs_len (n := am_nL 145) (l := cl_X11_init) (by decide +kernel) hk
  · intro as w K h
    obtain ⟨n, i0, l0, r⟩ := w
    obtain ⟨k, q, hk, rfl, hn, hp, m1, hm1, hK⟩ := h
    match k, hk with
    | 0, hk =>
      obtain rfl := (Option.some.inj (show some _ = some q from hk))
      obtain rfl : n = 1 := hn
      exact t_X11_init_0 (m := (i0, l0)) hm1 hK
    | k + 1, hk => cases hk
/-! == X12_init == -/
def sp_X12_init : am_S := sp_c 202 (fn_s fn_F G_X12_measure) ((fun _ => am_s0))
theorem sm_X12_init : am_Smono sp_X12_init := sp_c_mono (fn_s_m) (am_s0_mono)
set_option maxRecDepth 100000 in
def FR_X12_init_106_p501 (r : Nat → Nat → Option Nat) : Nat → Nat → Option Nat := (am_u (am_z (am_u (am_z r 166 none) 106 94 (some 166)) 167 none) 106 96 (some 167))
set_option maxRecDepth 100000 in
noncomputable def g_X12_init_106_p501 (m : fm_) : Option fm_ :=
  (Option.bind (f_X12_measure (zz_ (zz_ m 166) 167)) fun q1 =>
(some q1.2))
set_option maxHeartbeats 4000000 in
set_option maxRecDepth 100000 in
theorem t_X12_init_106_p501 {r : Nat → Nat → Option Nat} (hpr : fn_F 168 (FR_X12_init_106_p501 r)) {m q : fm_} (h : g_X12_init_106_p501 m = some q) {Q : Option Value → am_W → Prop} (hQ : Q none (mk_ 168 (FR_X12_init_106_p501 r) q)) : am_T m_X12_init sp_X12_init 168 Q 501 [some (.ref 106)] [] (mk_ 166 r m) :=
  am_T.wp sm_X12_init (K := am_T m_X12_init sp_X12_init 168 Q) (cuts := [50, 98, 150, 198, 247, 297, 351, 402, 453, 501]) (fun _ _ _ _ h => h) 12
    (⟨⟨rfl, Nat.le_of_ble_eq_true rfl, Nat.le_of_ble_eq_true rfl, by decide⟩, ⟨⟨rfl, Nat.le_of_ble_eq_true rfl⟩, ⟨⟨rfl, Nat.le_of_ble_eq_true rfl, Nat.le_of_ble_eq_true rfl, by decide⟩, ⟨⟨rfl, Nat.le_of_ble_eq_true rfl⟩, fh_bd h fun q1 e2 h3 => ⟨Nat.le_of_ble_eq_true rfl, ⟨rfl, Nat.le_of_ble_eq_true rfl⟩, hpr, none, q1.2, gp_X12_measure (n := 168) (r := _) e2, fun _ => ⟨rfl, ⟨rfl, fc_rt h3 hQ⟩⟩⟩⟩⟩⟩⟩)
set_option maxRecDepth 100000 in
def FR_X12_init_106_p453 (r : Nat → Nat → Option Nat) : Nat → Nat → Option Nat := FR_X12_init_106_p501 (am_u (am_z (am_u (am_z (am_u (am_z (am_u (am_z (am_u (am_z (am_u (am_z r 160 none) 106 88 (some 160)) 161 none) 106 89 (some 161)) 162 none) 106 90 (some 162)) 163 none) 106 91 (some 163)) 164 none) 106 92 (some 164)) 165 none) 106 93 (some 165))
set_option maxRecDepth 100000 in
noncomputable def g_X12_init_106_p453 (m : fm_) : Option fm_ :=
  (g_X12_init_106_p501 (zz_ (zz_ (zz_ (zz_ (zz_ (zz_ m 160) 161) 162) 163) 164) 165))
set_option maxHeartbeats 4000000 in
set_option maxRecDepth 100000 in
theorem t_X12_init_106_p453 {r : Nat → Nat → Option Nat} (hpr : fn_F 168 (FR_X12_init_106_p453 r)) {m q : fm_} (h : g_X12_init_106_p453 m = some q) {Q : Option Value → am_W → Prop} (hQ : Q none (mk_ 168 (FR_X12_init_106_p453 r) q)) : am_T m_X12_init sp_X12_init 168 Q 453 [some (.ref 106)] [] (mk_ 160 r m) :=
  am_T.wp sm_X12_init (K := am_T m_X12_init sp_X12_init 168 Q) (cuts := [50, 98, 150, 198, 247, 297, 351, 402, 453, 501]) (fun _ _ _ _ h => h) 26
    (⟨⟨rfl, Nat.le_of_ble_eq_true rfl, Nat.le_of_ble_eq_true rfl, by decide⟩, ⟨⟨rfl, Nat.le_of_ble_eq_true rfl⟩, ⟨⟨rfl, Nat.le_of_ble_eq_true rfl, Nat.le_of_ble_eq_true rfl, by decide⟩, ⟨⟨rfl, Nat.le_of_ble_eq_true rfl⟩, ⟨⟨rfl, Nat.le_of_ble_eq_true rfl, Nat.le_of_ble_eq_true rfl, by decide⟩, ⟨⟨rfl, Nat.le_of_ble_eq_true rfl⟩, ⟨⟨rfl, Nat.le_of_ble_eq_true rfl, Nat.le_of_ble_eq_true rfl, by decide⟩, ⟨⟨rfl, Nat.le_of_ble_eq_true rfl⟩, ⟨⟨rfl, Nat.le_of_ble_eq_true rfl, Nat.le_of_ble_eq_true rfl, by decide⟩, ⟨⟨rfl, Nat.le_of_ble_eq_true rfl⟩, ⟨⟨rfl, Nat.le_of_ble_eq_true rfl, Nat.le_of_ble_eq_true rfl, by decide⟩, ⟨⟨rfl, Nat.le_of_ble_eq_true rfl⟩, t_X12_init_106_p501 (r := (am_u (am_z (am_u (am_z (am_u (am_z (am_u (am_z (am_u (am_z (am_u (am_z r 160 none) 106 88 (some 160)) 161 none) 106 89 (some 161)) 162 none) 106 90 (some 162)) 163 none) 106 91 (some 163)) 164 none) 106 92 (some 164)) 165 none) 106 93 (some 165))) (m := (zz_ (zz_ (zz_ (zz_ (zz_ (zz_ m 160) 161) 162) 163) 164) 165)) hpr h hQ⟩⟩⟩⟩⟩⟩⟩⟩⟩⟩⟩⟩)
set_option maxRecDepth 100000 in
def FR_X12_init_106_p402 (r : Nat → Nat → Option Nat) : Nat → Nat → Option Nat := FR_X12_init_106_p453 (am_u (am_z (am_u (am_z (am_u (am_z (am_u (am_z (am_u (am_z (am_u (am_z r 154 none) 106 76 (some 154)) 155 none) 106 79 (some 155)) 156 none) 106 82 (some 156)) 157 none) 106 83 (some 157)) 158 none) 106 84 (some 158)) 159 none) 106 85 (some 159))
set_option maxRecDepth 100000 in
noncomputable def g_X12_init_106_p402 (m : fm_) : Option fm_ :=
  (g_X12_init_106_p453 (zz_ (zz_ (zz_ (zz_ (zz_ (zz_ m 154) 155) 156) 157) 158) 159))
set_option maxHeartbeats 4000000 in
set_option maxRecDepth 100000 in
theorem t_X12_init_106_p402 {r : Nat → Nat → Option Nat} (hpr : fn_F 168 (FR_X12_init_106_p402 r)) {m q : fm_} (h : g_X12_init_106_p402 m = some q) {Q : Option Value → am_W → Prop} (hQ : Q none (mk_ 168 (FR_X12_init_106_p402 r) q)) : am_T m_X12_init sp_X12_init 168 Q 402 [some (.ref 106)] [] (mk_ 154 r m) :=
  am_T.wp sm_X12_init (K := am_T m_X12_init sp_X12_init 168 Q) (cuts := [50, 98, 150, 198, 247, 297, 351, 402, 453, 501]) (fun _ _ _ _ h => h) 26
    (⟨⟨rfl, Nat.le_of_ble_eq_true rfl, Nat.le_of_ble_eq_true rfl, by decide⟩, ⟨⟨rfl, Nat.le_of_ble_eq_true rfl⟩, ⟨⟨rfl, Nat.le_of_ble_eq_true rfl, Nat.le_of_ble_eq_true rfl, by decide⟩, ⟨⟨rfl, Nat.le_of_ble_eq_true rfl⟩, ⟨⟨rfl, Nat.le_of_ble_eq_true rfl, Nat.le_of_ble_eq_true rfl, by decide⟩, ⟨⟨rfl, Nat.le_of_ble_eq_true rfl⟩, ⟨⟨rfl, Nat.le_of_ble_eq_true rfl, Nat.le_of_ble_eq_true rfl, by decide⟩, ⟨⟨rfl, Nat.le_of_ble_eq_true rfl⟩, ⟨⟨rfl, Nat.le_of_ble_eq_true rfl, Nat.le_of_ble_eq_true rfl, by decide⟩, ⟨⟨rfl, Nat.le_of_ble_eq_true rfl⟩, ⟨⟨rfl, Nat.le_of_ble_eq_true rfl, Nat.le_of_ble_eq_true rfl, by decide⟩, ⟨⟨rfl, Nat.le_of_ble_eq_true rfl⟩, t_X12_init_106_p453 (r := (am_u (am_z (am_u (am_z (am_u (am_z (am_u (am_z (am_u (am_z (am_u (am_z r 154 none) 106 76 (some 154)) 155 none) 106 79 (some 155)) 156 none) 106 82 (some 156)) 157 none) 106 83 (some 157)) 158 none) 106 84 (some 158)) 159 none) 106 85 (some 159))) (m := (zz_ (zz_ (zz_ (zz_ (zz_ (zz_ m 154) 155) 156) 157) 158) 159)) hpr h hQ⟩⟩⟩⟩⟩⟩⟩⟩⟩⟩⟩⟩)
set_option maxRecDepth 100000 in
def FR_X12_init_106_p351 (r : Nat → Nat → Option Nat) : Nat → Nat → Option Nat := FR_X12_init_106_p402 (am_u (am_z (am_u (am_z (am_u (am_z (am_u (am_z (am_u (am_z (am_u (am_z r 148 none) 106 70 (some 148)) 149 none) 106 71 (some 149)) 150 none) 106 72 (some 150)) 151 none) 106 73 (some 151)) 152 none) 106 74 (some 152)) 153 none) 106 75 (some 153))
set_option maxRecDepth 100000 in
noncomputable def g_X12_init_106_p351 (m : fm_) : Option fm_ :=
  (g_X12_init_106_p402 (zz_ (zz_ (zz_ (zz_ (zz_ (zz_ m 148) 149) 150) 151) 152) 153))
set_option maxHeartbeats 4000000 in
set_option maxRecDepth 100000 in
theorem t_X12_init_106_p351 {r : Nat → Nat → Option Nat} (hpr : fn_F 168 (FR_X12_init_106_p351 r)) {m q : fm_} (h : g_X12_init_106_p351 m = some q) {Q : Option Value → am_W → Prop} (hQ : Q none (mk_ 168 (FR_X12_init_106_p351 r) q)) : am_T m_X12_init sp_X12_init 168 Q 351 [some (.ref 106)] [] (mk_ 148 r m) :=
  am_T.wp sm_X12_init (K := am_T m_X12_init sp_X12_init 168 Q) (cuts := [50, 98, 150, 198, 247, 297, 351, 402, 453, 501]) (fun _ _ _ _ h => h) 26
    (⟨⟨rfl, Nat.le_of_ble_eq_true rfl, Nat.le_of_ble_eq_true rfl, by decide⟩, ⟨⟨rfl, Nat.le_of_ble_eq_true rfl⟩, ⟨⟨rfl, Nat.le_of_ble_eq_true rfl, Nat.le_of_ble_eq_true rfl, by decide⟩, ⟨⟨rfl, Nat.le_of_ble_eq_true rfl⟩, ⟨⟨rfl, Nat.le_of_ble_eq_true rfl, Nat.le_of_ble_eq_true rfl, by decide⟩, ⟨⟨rfl, Nat.le_of_ble_eq_true rfl⟩, ⟨⟨rfl, Nat.le_of_ble_eq_true rfl, Nat.le_of_ble_eq_true rfl, by decide⟩, ⟨⟨rfl, Nat.le_of_ble_eq_true rfl⟩, ⟨⟨rfl, Nat.le_of_ble_eq_true rfl, Nat.le_of_ble_eq_true rfl, by decide⟩, ⟨⟨rfl, Nat.le_of_ble_eq_true rfl⟩, ⟨⟨rfl, Nat.le_of_ble_eq_true rfl, Nat.le_of_ble_eq_true rfl, by decide⟩, ⟨⟨rfl, Nat.le_of_ble_eq_true rfl⟩, t_X12_init_106_p402 (r := (am_u (am_z (am_u (am_z (am_u (am_z (am_u (am_z (am_u (am_z (am_u (am_z r 148 none) 106 70 (some 148)) 149 none) 106 71 (some 149)) 150 none) 106 72 (some 150)) 151 none) 106 73 (some 151)) 152 none) 106 74 (some 152)) 153 none) 106 75 (some 153))) (m := (zz_ (zz_ (zz_ (zz_ (zz_ (zz_ m 148) 149) 150) 151) 152) 153)) hpr h hQ⟩⟩⟩⟩⟩⟩⟩⟩⟩⟩⟩⟩)
set_option maxRecDepth 100000 in
def FR_X12_init_106_p297 (r : Nat → Nat → Option Nat) : Nat → Nat → Option Nat := FR_X12_init_106_p351 (am_u (am_z (am_u (am_z (am_u (am_z (am_u (am_z (am_u (am_z (am_u (am_z r 142 none) 106 64 (some 142)) 143 none) 106 65 (some 143)) 144 none) 106 66 (some 144)) 145 none) 106 67 (some 145)) 146 none) 106 68 (some 146)) 147 none) 106 69 (some 147))
set_option maxRecDepth 100000 in
noncomputable def g_X12_init_106_p297 (m : fm_) : Option fm_ :=
  (g_X12_init_106_p351 (zz_ (zz_ (zz_ (zz_ (zz_ (zz_ m 142) 143) 144) 145) 146) 147))
set_option maxHeartbeats 4000000 in
set_option maxRecDepth 100000 in
theorem t_X12_init_106_p297 {r : Nat → Nat → Option Nat} (hpr : fn_F 168 (FR_X12_init_106_p297 r)) {m q : fm_} (h : g_X12_init_106_p297 m = some q) {Q : Option Value → am_W → Prop} (hQ : Q none (mk_ 168 (FR_X12_init_106_p297 r) q)) : am_T m_X12_init sp_X12_init 168 Q 297 [some (.ref 106)] [] (mk_ 142 r m) :=
  am_T.wp sm_X12_init (K := am_T m_X12_init sp_X12_init 168 Q) (cuts := [50, 98, 150, 198, 247, 297, 351, 402, 453, 501]) (fun _ _ _ _ h => h) 26
    (⟨⟨rfl, Nat.le_of_ble_eq_true rfl, Nat.le_of_ble_eq_true rfl, by decide⟩, ⟨⟨rfl, Nat.le_of_ble_eq_true rfl⟩, ⟨⟨rfl, Nat.le_of_ble_eq_true rfl, Nat.le_of_ble_eq_true rfl, by decide⟩, ⟨⟨rfl, Nat.le_of_ble_eq_true rfl⟩, ⟨⟨rfl, Nat.le_of_ble_eq_true rfl, Nat.le_of_ble_eq_true rfl, by decide⟩, ⟨⟨rfl, Nat.le_of_ble_eq_true rfl⟩, ⟨⟨rfl, Nat.le_of_ble_eq_true rfl, Nat.le_of_ble_eq_true rfl, by decide⟩, ⟨⟨rfl, Nat.le_of_ble_eq_true rfl⟩, ⟨⟨rfl, Nat.le_of_ble_eq_true rfl, Nat.le_of_ble_eq_true rfl, by decide⟩, ⟨⟨rfl, Nat.le_of_ble_eq_true rfl⟩, ⟨⟨rfl, Nat.le_of_ble_eq_true rfl, Nat.le_of_ble_eq_true rfl, by decide⟩, ⟨⟨rfl, Nat.le_of_ble_eq_true rfl⟩, t_X12_init_106_p351 (r := (am_u (am_z (am_u (am_z (am_u (am_z (am_u (am_z (am_u (am_z (am_u (am_z r 142 none) 106 64 (some 142)) 143 none) 106 65 (some 143)) 144 none) 106 66 (some 144)) 145 none) 106 67 (some 145)) 146 none) 106 68 (some 146)) 147 none) 106 69 (some 147))) (m := (zz_ (zz_ (zz_ (zz_ (zz_ (zz_ m 142) 143) 144) 145) 146) 147)) hpr h hQ⟩⟩⟩⟩⟩⟩⟩⟩⟩⟩⟩⟩)
set_option maxRecDepth 100000 in
def FR_X12_init_106_p247 (r : Nat → Nat → Option Nat) : Nat → Nat → Option Nat := FR_X12_init_106_p297 (am_u (am_z (am_u (am_z (am_u (am_z (am_u (am_z (am_u (am_z (am_u (am_z r 136 none) 106 55 (some 136)) 137 none) 106 56 (some 137)) 138 none) 106 60 (some 138)) 139 none) 106 61 (some 139)) 140 none) 106 62 (some 140)) 141 none) 106 63 (some 141))
set_option maxRecDepth 100000 in
noncomputable def g_X12_init_106_p247 (m : fm_) : Option fm_ :=
  (g_X12_init_106_p297 (zz_ (zz_ (zz_ (zz_ (zz_ (zz_ m 136) 137) 138) 139) 140) 141))
set_option maxHeartbeats 4000000 in
set_option maxRecDepth 100000 in
theorem t_X12_init_106_p247 {r : Nat → Nat → Option Nat} (hpr : fn_F 168 (FR_X12_init_106_p247 r)) {m q : fm_} (h : g_X12_init_106_p247 m = some q) {Q : Option Value → am_W → Prop} (hQ : Q none (mk_ 168 (FR_X12_init_106_p247 r) q)) : am_T m_X12_init sp_X12_init 168 Q 247 [some (.ref 106)] [] (mk_ 136 r m) :=
  am_T.wp sm_X12_init (K := am_T m_X12_init sp_X12_init 168 Q) (cuts := [50, 98, 150, 198, 247, 297, 351, 402, 453, 501]) (fun _ _ _ _ h => h) 26
    (⟨⟨rfl, Nat.le_of_ble_eq_true rfl, Nat.le_of_ble_eq_true rfl, by decide⟩, ⟨⟨rfl, Nat.le_of_ble_eq_true rfl⟩, ⟨⟨rfl, Nat.le_of_ble_eq_true rfl, Nat.le_of_ble_eq_true rfl, by decide⟩, ⟨⟨rfl, Nat.le_of_ble_eq_true rfl⟩, ⟨⟨rfl, Nat.le_of_ble_eq_true rfl, Nat.le_of_ble_eq_true rfl, by decide⟩, ⟨⟨rfl, Nat.le_of_ble_eq_true rfl⟩, ⟨⟨rfl, Nat.le_of_ble_eq_true rfl, Nat.le_of_ble_eq_true rfl, by decide⟩, ⟨⟨rfl, Nat.le_of_ble_eq_true rfl⟩, ⟨⟨rfl, Nat.le_of_ble_eq_true rfl, Nat.le_of_ble_eq_true rfl, by decide⟩, ⟨⟨rfl, Nat.le_of_ble_eq_true rfl⟩, ⟨⟨rfl, Nat.le_of_ble_eq_true rfl, Nat.le_of_ble_eq_true rfl, by decide⟩, ⟨⟨rfl, Nat.le_of_ble_eq_true rfl⟩, t_X12_init_106_p297 (r := (am_u (am_z (am_u (am_z (am_u (am_z (am_u (am_z (am_u (am_z (am_u (am_z r 136 none) 106 55 (some 136)) 137 none) 106 56 (some 137)) 138 none) 106 60 (some 138)) 139 none) 106 61 (some 139)) 140 none) 106 62 (some 140)) 141 none) 106 63 (some 141))) (m := (zz_ (zz_ (zz_ (zz_ (zz_ (zz_ m 136) 137) 138) 139) 140) 141)) hpr h hQ⟩⟩⟩⟩⟩⟩⟩⟩⟩⟩⟩⟩)
set_option maxRecDepth 100000 in
def FR_X12_init_106_p198 (r : Nat → Nat → Option Nat) : Nat → Nat → Option Nat := FR_X12_init_106_p247 (am_u (am_z (am_u (am_z (am_u (am_z (am_u (am_z (am_u (am_z (am_u (am_z r 130 none) 106 42 (some 130)) 131 none) 106 43 (some 131)) 132 none) 106 44 (some 132)) 133 none) 106 45 (some 133)) 134 none) 106 46 (some 134)) 135 none) 106 51 (some 135))
set_option maxRecDepth 100000 in
noncomputable def g_X12_init_106_p198 (m : fm_) : Option fm_ :=
  (g_X12_init_106_p247 (zz_ (zz_ (zz_ (zz_ (zz_ (zz_ m 130) 131) 132) 133) 134) 135))
set_option maxHeartbeats 4000000 in
set_option maxRecDepth 100000 in
theorem t_X12_init_106_p198 {r : Nat → Nat → Option Nat} (hpr : fn_F 168 (FR_X12_init_106_p198 r)) {m q : fm_} (h : g_X12_init_106_p198 m = some q) {Q : Option Value → am_W → Prop} (hQ : Q none (mk_ 168 (FR_X12_init_106_p198 r) q)) : am_T m_X12_init sp_X12_init 168 Q 198 [some (.ref 106)] [] (mk_ 130 r m) :=
  am_T.wp sm_X12_init (K := am_T m_X12_init sp_X12_init 168 Q) (cuts := [50, 98, 150, 198, 247, 297, 351, 402, 453, 501]) (fun _ _ _ _ h => h) 26
    (⟨⟨rfl, Nat.le_of_ble_eq_true rfl, Nat.le_of_ble_eq_true rfl, by decide⟩, ⟨⟨rfl, Nat.le_of_ble_eq_true rfl⟩, ⟨⟨rfl, Nat.le_of_ble_eq_true rfl, Nat.le_of_ble_eq_true rfl, by decide⟩, ⟨⟨rfl, Nat.le_of_ble_eq_true rfl⟩, ⟨⟨rfl, Nat.le_of_ble_eq_true rfl, Nat.le_of_ble_eq_true rfl, by decide⟩, ⟨⟨rfl, Nat.le_of_ble_eq_true rfl⟩, ⟨⟨rfl, Nat.le_of_ble_eq_true rfl, Nat.le_of_ble_eq_true rfl, by decide⟩, ⟨⟨rfl, Nat.le_of_ble_eq_true rfl⟩, ⟨⟨rfl, Nat.le_of_ble_eq_true rfl, Nat.le_of_ble_eq_true rfl, by decide⟩, ⟨⟨rfl, Nat.le_of_ble_eq_true rfl⟩, ⟨⟨rfl, Nat.le_of_ble_eq_true rfl, Nat.le_of_ble_eq_true rfl, by decide⟩, ⟨⟨rfl, Nat.le_of_ble_eq_true rfl⟩, t_X12_init_106_p247 (r := (am_u (am_z (am_u (am_z (am_u (am_z (am_u (am_z (am_u (am_z (am_u (am_z r 130 none) 106 42 (some 130)) 131 none) 106 43 (some 131)) 132 none) 106 44 (some 132)) 133 none) 106 45 (some 133)) 134 none) 106 46 (some 134)) 135 none) 106 51 (some 135))) (m := (zz_ (zz_ (zz_ (zz_ (zz_ (zz_ m 130) 131) 132) 133) 134) 135)) hpr h hQ⟩⟩⟩⟩⟩⟩⟩⟩⟩⟩⟩⟩)
set_option maxRecDepth 100000 in
def FR_X12_init_106_p150 (r : Nat → Nat → Option Nat) : Nat → Nat → Option Nat := FR_X12_init_106_p198 (am_u (am_z (am_u (am_z (am_u (am_z (am_u (am_z (am_u (am_z (am_u (am_z r 124 none) 106 36 (some 124)) 125 none) 106 37 (some 125)) 126 none) 106 38 (some 126)) 127 none) 106 39 (some 127)) 128 none) 106 40 (some 128)) 129 none) 106 41 (some 129))
set_option maxRecDepth 100000 in
noncomputable def g_X12_init_106_p150 (m : fm_) : Option fm_ :=
  (g_X12_init_106_p198 (zz_ (zz_ (zz_ (zz_ (zz_ (zz_ m 124) 125) 126) 127) 128) 129))
set_option maxHeartbeats 4000000 in
set_option maxRecDepth 100000 in
theorem t_X12_init_106_p150 {r : Nat → Nat → Option Nat} (hpr : fn_F 168 (FR_X12_init_106_p150 r)) {m q : fm_} (h : g_X12_init_106_p150 m = some q) {Q : Option Value → am_W → Prop} (hQ : Q none (mk_ 168 (FR_X12_init_106_p150 r) q)) : am_T m_X12_init sp_X12_init 168 Q 150 [some (.ref 106)] [] (mk_ 124 r m) :=
  am_T.wp sm_X12_init (K := am_T m_X12_init sp_X12_init 168 Q) (cuts := [50, 98, 150, 198, 247, 297, 351, 402, 453, 501]) (fun _ _ _ _ h => h) 26
    (⟨⟨rfl, Nat.le_of_ble_eq_true rfl, Nat.le_of_ble_eq_true rfl, by decide⟩, ⟨⟨rfl, Nat.le_of_ble_eq_true rfl⟩, ⟨⟨rfl, Nat.le_of_ble_eq_true rfl, Nat.le_of_ble_eq_true rfl, by decide⟩, ⟨⟨rfl, Nat.le_of_ble_eq_true rfl⟩, ⟨⟨rfl, Nat.le_of_ble_eq_true rfl, Nat.le_of_ble_eq_true rfl, by decide⟩, ⟨⟨rfl, Nat.le_of_ble_eq_true rfl⟩, ⟨⟨rfl, Nat.le_of_ble_eq_true rfl, Nat.le_of_ble_eq_true rfl, by decide⟩, ⟨⟨rfl, Nat.le_of_ble_eq_true rfl⟩, ⟨⟨rfl, Nat.le_of_ble_eq_true rfl, Nat.le_of_ble_eq_true rfl, by decide⟩, ⟨⟨rfl, Nat.le_of_ble_eq_true rfl⟩, ⟨⟨rfl, Nat.le_of_ble_eq_true rfl, Nat.le_of_ble_eq_true rfl, by decide⟩, ⟨⟨rfl, Nat.le_of_ble_eq_true rfl⟩, t_X12_init_106_p198 (r := (am_u (am_z (am_u (am_z (am_u (am_z (am_u (am_z (am_u (am_z (am_u (am_z r 124 none) 106 36 (some 124)) 125 none) 106 37 (some 125)) 126 none) 106 38 (some 126)) 127 none) 106 39 (some 127)) 128 none) 106 40 (some 128)) 129 none) 106 41 (some 129))) (m := (zz_ (zz_ (zz_ (zz_ (zz_ (zz_ m 124) 125) 126) 127) 128) 129)) hpr h hQ⟩⟩⟩⟩⟩⟩⟩⟩⟩⟩⟩⟩)
set_option maxRecDepth 100000 in
def FR_X12_init_106_p98 (r : Nat → Nat → Option Nat) : Nat → Nat → Option Nat := FR_X12_init_106_p150 (am_u (am_z (am_u (am_z (am_u (am_z (am_u (am_z (am_u (am_z (am_u (am_z r 118 none) 106 25 (some 118)) 119 none) 106 26 (some 119)) 120 none) 106 27 (some 120)) 121 none) 106 28 (some 121)) 122 none) 106 34 (some 122)) 123 none) 106 35 (some 123))
set_option maxRecDepth 100000 in
noncomputable def g_X12_init_106_p98 (m : fm_) : Option fm_ :=
  (g_X12_init_106_p150 (zz_ (zz_ (zz_ (zz_ (zz_ (zz_ m 118) 119) 120) 121) 122) 123))
set_option maxHeartbeats 4000000 in
set_option maxRecDepth 100000 in
theorem t_X12_init_106_p98 {r : Nat → Nat → Option Nat} (hpr : fn_F 168 (FR_X12_init_106_p98 r)) {m q : fm_} (h : g_X12_init_106_p98 m = some q) {Q : Option Value → am_W → Prop} (hQ : Q none (mk_ 168 (FR_X12_init_106_p98 r) q)) : am_T m_X12_init sp_X12_init 168 Q 98 [some (.ref 106)] [] (mk_ 118 r m) :=
  am_T.wp sm_X12_init (K := am_T m_X12_init sp_X12_init 168 Q) (cuts := [50, 98, 150, 198, 247, 297, 351, 402, 453, 501]) (fun _ _ _ _ h => h) 26
    (⟨⟨rfl, Nat.le_of_ble_eq_true rfl, Nat.le_of_ble_eq_true rfl, by decide⟩, ⟨⟨rfl, Nat.le_of_ble_eq_true rfl⟩, ⟨⟨rfl, Nat.le_of_ble_eq_true rfl, Nat.le_of_ble_eq_true rfl, by decide⟩, ⟨⟨rfl, Nat.le_of_ble_eq_true rfl⟩, ⟨⟨rfl, Nat.le_of_ble_eq_true rfl, Nat.le_of_ble_eq_true rfl, by decide⟩, ⟨⟨rfl, Nat.le_of_ble_eq_true rfl⟩, ⟨⟨rfl, Nat.le_of_ble_eq_true rfl, Nat.le_of_ble_eq_true rfl, by decide⟩, ⟨⟨rfl, Nat.le_of_ble_eq_true rfl⟩, ⟨⟨rfl, Nat.le_of_ble_eq_true rfl, Nat.le_of_ble_eq_true rfl, by decide⟩, ⟨⟨rfl, Nat.le_of_ble_eq_true rfl⟩, ⟨⟨rfl, Nat.le_of_ble_eq_true rfl, Nat.le_of_ble_eq_true rfl, by decide⟩, ⟨⟨rfl, Nat.le_of_ble_eq_true rfl⟩, t_X12_init_106_p150 (r := (am_u (am_z (am_u (am_z (am_u (am_z (am_u (am_z (am_u (am_z (am_u (am_z r 118 none) 106 25 (some 118)) 119 none) 106 26 (some 119)) 120 none) 106 27 (some 120)) 121 none) 106 28 (some 121)) 122 none) 106 34 (some 122)) 123 none) 106 35 (some 123))) (m := (zz_ (zz_ (zz_ (zz_ (zz_ (zz_ m 118) 119) 120) 121) 122) 123)) hpr h hQ⟩⟩⟩⟩⟩⟩⟩⟩⟩⟩⟩⟩)
set_option maxRecDepth 100000 in
def FR_X12_init_106_p50 (r : Nat → Nat → Option Nat) : Nat → Nat → Option Nat := FR_X12_init_106_p98 (am_u (am_z (am_u (am_z (am_u (am_z (am_u (am_z (am_u (am_z (am_u (am_z r 112 none) 106 14 (some 112)) 113 none) 106 15 (some 113)) 114 none) 106 21 (some 114)) 115 none) 106 22 (some 115)) 116 none) 106 23 (some 116)) 117 none) 106 24 (some 117))
set_option maxRecDepth 100000 in
noncomputable def g_X12_init_106_p50 (m : fm_) : Option fm_ :=
  (g_X12_init_106_p98 (zz_ (zz_ (zz_ (zz_ (zz_ (zz_ m 112) 113) 114) 115) 116) 117))
set_option maxHeartbeats 4000000 in
set_option maxRecDepth 100000 in
theorem t_X12_init_106_p50 {r : Nat → Nat → Option Nat} (hpr : fn_F 168 (FR_X12_init_106_p50 r)) {m q : fm_} (h : g_X12_init_106_p50 m = some q) {Q : Option Value → am_W → Prop} (hQ : Q none (mk_ 168 (FR_X12_init_106_p50 r) q)) : am_T m_X12_init sp_X12_init 168 Q 50 [some (.ref 106)] [] (mk_ 112 r m) :=
  am_T.wp sm_X12_init (K := am_T m_X12_init sp_X12_init 168 Q) (cuts := [50, 98, 150, 198, 247, 297, 351, 402, 453, 501]) (fun _ _ _ _ h => h) 26
    (⟨⟨rfl, Nat.le_of_ble_eq_true rfl, Nat.le_of_ble_eq_true rfl, by decide⟩, ⟨⟨rfl, Nat.le_of_ble_eq_true rfl⟩, ⟨⟨rfl, Nat.le_of_ble_eq_true rfl, Nat.le_of_ble_eq_true rfl, by decide⟩, ⟨⟨rfl, Nat.le_of_ble_eq_true rfl⟩, ⟨⟨rfl, Nat.le_of_ble_eq_true rfl, Nat.le_of_ble_eq_true rfl, by decide⟩, ⟨⟨rfl, Nat.le_of_ble_eq_true rfl⟩, ⟨⟨rfl, Nat.le_of_ble_eq_true rfl, Nat.le_of_ble_eq_true rfl, by decide⟩, ⟨⟨rfl, Nat.le_of_ble_eq_true rfl⟩, ⟨⟨rfl, Nat.le_of_ble_eq_true rfl, Nat.le_of_ble_eq_true rfl, by decide⟩, ⟨⟨rfl, Nat.le_of_ble_eq_true rfl⟩, ⟨⟨rfl, Nat.le_of_ble_eq_true rfl, Nat.le_of_ble_eq_true rfl, by decide⟩, ⟨⟨rfl, Nat.le_of_ble_eq_true rfl⟩, t_X12_init_106_p98 (r := (am_u (am_z (am_u (am_z (am_u (am_z (am_u (am_z (am_u (am_z (am_u (am_z r 112 none) 106 14 (some 112)) 113 none) 106 15 (some 113)) 114 none) 106 21 (some 114)) 115 none) 106 22 (some 115)) 116 none) 106 23 (some 116)) 117 none) 106 24 (some 117))) (m := (zz_ (zz_ (zz_ (zz_ (zz_ (zz_ m 112) 113) 114) 115) 116) 117)) hpr h hQ⟩⟩⟩⟩⟩⟩⟩⟩⟩⟩⟩⟩)
set_option maxRecDepth 100000 in
def FR_X12_init_106 (r : Nat → Nat → Option Nat) : Nat → Nat → Option Nat := FR_X12_init_106_p50 (am_u (am_z (am_u (am_z (am_u (am_z (am_u (am_z (am_u (am_z r 107 none) 106 0 (some 107)) 108 none) 106 10 (some 108)) 109 none) 106 11 (some 109)) 110 none) 106 12 (some 110)) 111 none) 106 13 (some 111))
set_option maxRecDepth 100000 in
noncomputable def g_X12_init_106 (m : fm_) : Option fm_ :=
  (g_X12_init_106_p50 (zz_ (zz_ (zz_ (zz_ (si_ (zz_ m 107) 106 3 (-1)) 108) 109) 110) 111))
set_option maxHeartbeats 4000000 in
set_option maxRecDepth 100000 in
theorem t_X12_init_106 {r : Nat → Nat → Option Nat} (hpr : fn_F 168 (FR_X12_init_106 r)) {m q : fm_} (h : g_X12_init_106 m = some q) {Q : Option Value → am_W → Prop} (hQ : Q none (mk_ 168 (FR_X12_init_106 r) q)) : am_T m_X12_init sp_X12_init 168 Q 0 [some (.ref 106)] [] (mk_ 107 r m) :=
  am_T.wp sm_X12_init (K := am_T m_X12_init sp_X12_init 168 Q) (cuts := [50, 98, 150, 198, 247, 297, 351, 402, 453, 501]) (fun _ _ _ _ h => h) 27
    (⟨Nat.le_of_ble_eq_true rfl, ⟨⟨rfl, Nat.le_of_ble_eq_true rfl, Nat.le_of_ble_eq_true rfl, by decide⟩, ⟨⟨rfl, Nat.le_of_ble_eq_true rfl⟩, ⟨⟨rfl, Nat.le_of_ble_eq_true rfl⟩, ⟨⟨rfl, Nat.le_of_ble_eq_true rfl, Nat.le_of_ble_eq_true rfl, by decide⟩, ⟨⟨rfl, Nat.le_of_ble_eq_true rfl⟩, ⟨⟨rfl, Nat.le_of_ble_eq_true rfl, Nat.le_of_ble_eq_true rfl, by decide⟩, ⟨⟨rfl, Nat.le_of_ble_eq_true rfl⟩, ⟨⟨rfl, Nat.le_of_ble_eq_true rfl, Nat.le_of_ble_eq_true rfl, by decide⟩, ⟨⟨rfl, Nat.le_of_ble_eq_true rfl⟩, ⟨⟨rfl, Nat.le_of_ble_eq_true rfl, Nat.le_of_ble_eq_true rfl, by decide⟩, ⟨⟨rfl, Nat.le_of_ble_eq_true rfl⟩, t_X12_init_106_p50 (r := (am_u (am_z (am_u (am_z (am_u (am_z (am_u (am_z (am_u (am_z r 107 none) 106 0 (some 107)) 108 none) 106 10 (some 108)) 109 none) 106 11 (some 109)) 110 none) 106 12 (some 110)) 111 none) 106 13 (some 111))) (m := (zz_ (zz_ (zz_ (zz_ (si_ (zz_ m 107) 106 3 (-1)) 108) 109) 110) 111)) hpr h hQ⟩⟩⟩⟩⟩⟩⟩⟩⟩⟩⟩⟩)
noncomputable def cl_X12_init : List cs_t := [(106, [], 107, 168, (fun r => fn_F 168 (FR_X12_init_106 r)), FR_X12_init_106, g_X12_init_106)]
set_option maxRecDepth 100000 in
theorem ok_X12_init : am_mok 12 183 m_X12_init = true := by decide +kernel
set_option maxRecDepth 100000 in
theorem c_X12_init (l : Launch) {g : am_G} (hg : fx_ l g) : am_Met l g 1 183 (cs_l cl_X12_init) := by
  refine am_sound (own := 12) (M := m_X12_init) (SP := sp_X12_init) hg.1 (by decide +kernel) ok_X12_init (by decide +kernel) ?_ ?_ (sp_c_ext (Nat.le_of_ble_eq_true rfl) (am_s0_ext l g 12)) (Or.inl (by decide +kernel)) ?_ ?_
  · intro q hq hk
    have hm : q.2.2.2.1 ∈ am_cs m_X12_init := am_cs_in hq hk
    rw [show am_cs m_X12_init = [202] by decide +kernel] at hm
    have hm : q.2.2.2.1 ∈ [202] := (List.all_eq_true.mp (show ([202] : List Nat).all (fun a => decide (a ∈ ([202] : List Nat))) = true by decide +kernel) _ hm |> of_decide_eq_true)
    simp only [List.mem_cons, List.not_mem_nil, or_false] at hm
    rcases hm with hm
    · rw [hm]; exact ⟨0, by omega, c_X12_measure l hg⟩
  · intro q hq hk
    have hm : q.2.2.2.1 ∈ am_cs m_X12_init := am_cs_in hq (Or.inr hk)
    rw [show am_cs m_X12_init = [202] by decide +kernel] at hm
    have hm : q.2.2.2.1 ∈ [202] := (List.all_eq_true.mp (show ([202] : List Nat).all (fun a => decide (a ∈ ([202] : List Nat))) = true by decide +kernel) _ hm |> of_decide_eq_true)
    simp only [List.mem_cons, List.not_mem_nil, or_false] at hm
    rcases hm with hm
    · exact absurd hm (am_not61 (M := m_X12_init) (k := 202) (by decide +kernel) hq hk)
  · intro as w K h
    obtain ⟨k, q, hk, rfl, -⟩ := h
    exact cs_len (n := am_nL 183) (l := cl_X12_init) (by decide +kernel) hk
  · intro as w K h
    obtain ⟨n, i0, l0, r⟩ := w
    obtain ⟨k, q, hk, rfl, hn, hp, m1, hm1, hK⟩ := h
    match k, hk with
    | 0, hk =>
      obtain rfl := (Option.some.inj (show some _ = some q from hk))
      obtain rfl : n = 107 := hn
      exact t_X12_init_106 hp (m := (i0, l0)) hm1 hK
    | k + 1, hk => cases hk
