/-! ===== small predicates; the tape ===== -/
def pre_X11_isDay (as : List Value) (w : am_W) : Prop := match as with
  | [.int x] => am_fin w ∧ True
  | _ => False
def post_X11_isDay (as : List Value) (w : am_W) (r : Option Value) (w1 : am_W) : Prop := match as with
  | [.int x] => am_fin w1 ∧ r = some (.int (if x < 0 then 0 else if 100 ≤ x then 0 else 1)) ∧ w1 = w
  | _ => False
def sp_X11_isDay : am_S := am_spl []
theorem sm_X11_isDay : am_Smono sp_X11_isDay := am_spl_mono _
set_option maxRecDepth 100000 in
theorem k_X11_isDay (l : Launch) {g : am_G} (hg : am_gok g) (hlen : ∀ as w K, am_sp pre_X11_isDay post_X11_isDay as w K → (am_ea as).length ≤ 1) (hT : ∀ as w K, am_sp pre_X11_isDay post_X11_isDay as w K → am_T m_X11_isDay sp_X11_isDay (w.1 + am_mc 181) K 0 (am_ent 1 as) [] w) : am_Met l g 0 181 (am_sp pre_X11_isDay post_X11_isDay) := by
  refine am_sound (own := 11) (M := m_X11_isDay) (SP := sp_X11_isDay) hg (by decide +kernel) ok_X11_isDay (by decide +kernel) ?_ ?_ (am_spl_ext _ rfl g 11) hlen hT
  · intro q hq hk
    have hm : q.2.2.2.1 ∈ am_cs m_X11_isDay := am_cs_in hq hk
    rw [show am_cs m_X11_isDay = [] by decide +kernel] at hm
    cases hm
  · intro q hq hk
    exact absurd hk (am_no61 (M := m_X11_isDay) (by decide +kernel) q hq)
set_option maxRecDepth 100000 in
theorem c_X11_isDay (l : Launch) {g : am_G} (hg : am_gok g) : am_Met l g 0 181 (am_sp pre_X11_isDay post_X11_isDay) := by
  refine k_X11_isDay l hg ?_ ?_
  · intro as w K h
    obtain ⟨hp, -⟩ := h
    unfold pre_X11_isDay at hp
    split at hp
    · exact Nat.le_of_ble_eq_true rfl
    · exact hp.elim
  · intro as w K h
    obtain ⟨hp, hK⟩ := h
    unfold pre_X11_isDay at hp
    split at hp
    · next x =>
      obtain ⟨hf, hp⟩ := hp
      have e : w.1 + am_mc 181 = 168 := by rw [hf.1]; rfl
      rw [e]
      refine v_X11_isDay_e sm_X11_isDay hf x ?_
      refine ⟨fun c1 => hK _ _ ⟨hf, by simp [c1], rfl⟩, fun c1 => ⟨fun c2 => hK _ _ ⟨hf, by simp [c1, c2], rfl⟩, fun c2 => hK _ _ ⟨hf, by simp [c1, c2], rfl⟩⟩⟩
    · exact hp.elim
def pre_X12_isDay (as : List Value) (w : am_W) : Prop := match as with
  | [.int x] => am_fin w ∧ True
  | _ => False
def post_X12_isDay (as : List Value) (w : am_W) (r : Option Value) (w1 : am_W) : Prop := match as with
  | [.int x] => am_fin w1 ∧ r = some (.int (if x < 0 then 0 else if 100 ≤ x then 0 else 1)) ∧ w1 = w
  | _ => False
def sp_X12_isDay : am_S := am_spl []
theorem sm_X12_isDay : am_Smono sp_X12_isDay := am_spl_mono _
set_option maxRecDepth 100000 in
theorem k_X12_isDay (l : Launch) {g : am_G} (hg : am_gok g) (hlen : ∀ as w K, am_sp pre_X12_isDay post_X12_isDay as w K → (am_ea as).length ≤ 1) (hT : ∀ as w K, am_sp pre_X12_isDay post_X12_isDay as w K → am_T m_X12_isDay sp_X12_isDay (w.1 + am_mc 219) K 0 (am_ent 1 as) [] w) : am_Met l g 0 219 (am_sp pre_X12_isDay post_X12_isDay) := by
  refine am_sound (own := 12) (M := m_X12_isDay) (SP := sp_X12_isDay) hg (by decide +kernel) ok_X12_isDay (by decide +kernel) ?_ ?_ (am_spl_ext _ rfl g 12) hlen hT
  · intro q hq hk
    have hm : q.2.2.2.1 ∈ am_cs m_X12_isDay := am_cs_in hq hk
    rw [show am_cs m_X12_isDay = [] by decide +kernel] at hm
    cases hm
  · intro q hq hk
    exact absurd hk (am_no61 (M := m_X12_isDay) (by decide +kernel) q hq)
set_option maxRecDepth 100000 in
theorem c_X12_isDay (l : Launch) {g : am_G} (hg : am_gok g) : am_Met l g 0 219 (am_sp pre_X12_isDay post_X12_isDay) := by
  refine k_X12_isDay l hg ?_ ?_
  · intro as w K h
    obtain ⟨hp, -⟩ := h
    unfold pre_X12_isDay at hp
    split at hp
    · exact Nat.le_of_ble_eq_true rfl
    · exact hp.elim
  · intro as w K h
    obtain ⟨hp, hK⟩ := h
    unfold pre_X12_isDay at hp
    split at hp
    · next x =>
      obtain ⟨hf, hp⟩ := hp
      have e : w.1 + am_mc 219 = 168 := by rw [hf.1]; rfl
      rw [e]
      refine v_X12_isDay_e sm_X12_isDay hf x ?_
      refine ⟨fun c1 => hK _ _ ⟨hf, by simp [c1], rfl⟩, fun c1 => ⟨fun c2 => hK _ _ ⟨hf, by simp [c1, c2], rfl⟩, fun c2 => hK _ _ ⟨hf, by simp [c1, c2], rfl⟩⟩⟩
    · exact hp.elim
def pre_X12_isPoint (as : List Value) (w : am_W) : Prop := match as with
  | [.int x] => am_fin w ∧ True
  | _ => False
def post_X12_isPoint (as : List Value) (w : am_W) (r : Option Value) (w1 : am_W) : Prop := match as with
  | [.int x] => am_fin w1 ∧ r = some (.int (if x < 0 then 0 else if 12 ≤ x then 0 else 1)) ∧ w1 = w
  | _ => False
def sp_X12_isPoint : am_S := am_spl []
theorem sm_X12_isPoint : am_Smono sp_X12_isPoint := am_spl_mono _
set_option maxRecDepth 100000 in
theorem k_X12_isPoint (l : Launch) {g : am_G} (hg : am_gok g) (hlen : ∀ as w K, am_sp pre_X12_isPoint post_X12_isPoint as w K → (am_ea as).length ≤ 1) (hT : ∀ as w K, am_sp pre_X12_isPoint post_X12_isPoint as w K → am_T m_X12_isPoint sp_X12_isPoint (w.1 + am_mc 203) K 0 (am_ent 1 as) [] w) : am_Met l g 0 203 (am_sp pre_X12_isPoint post_X12_isPoint) := by
  refine am_sound (own := 12) (M := m_X12_isPoint) (SP := sp_X12_isPoint) hg (by decide +kernel) ok_X12_isPoint (by decide +kernel) ?_ ?_ (am_spl_ext _ rfl g 12) hlen hT
  · intro q hq hk
    have hm : q.2.2.2.1 ∈ am_cs m_X12_isPoint := am_cs_in hq hk
    rw [show am_cs m_X12_isPoint = [] by decide +kernel] at hm
    cases hm
  · intro q hq hk
    exact absurd hk (am_no61 (M := m_X12_isPoint) (by decide +kernel) q hq)
set_option maxRecDepth 100000 in
theorem c_X12_isPoint (l : Launch) {g : am_G} (hg : am_gok g) : am_Met l g 0 203 (am_sp pre_X12_isPoint post_X12_isPoint) := by
  refine k_X12_isPoint l hg ?_ ?_
  · intro as w K h
    obtain ⟨hp, -⟩ := h
    unfold pre_X12_isPoint at hp
    split at hp
    · exact Nat.le_of_ble_eq_true rfl
    · exact hp.elim
  · intro as w K h
    obtain ⟨hp, hK⟩ := h
    unfold pre_X12_isPoint at hp
    split at hp
    · next x =>
      obtain ⟨hf, hp⟩ := hp
      have e : w.1 + am_mc 203 = 168 := by rw [hf.1]; rfl
      rw [e]
      refine v_X12_isPoint_e sm_X12_isPoint hf x ?_
      refine ⟨fun c1 => hK _ _ ⟨hf, by simp [c1], rfl⟩, fun c1 => ⟨fun c2 => hK _ _ ⟨hf, by simp [c1, c2], rfl⟩, fun c2 => hK _ _ ⟨hf, by simp [c1, c2], rfl⟩⟩⟩
    · exact hp.elim
def pre_X11_isUnder (as : List Value) (w : am_W) : Prop := match as with
  | [.int x, .int y] => am_fin w ∧ True
  | _ => False
def post_X11_isUnder (as : List Value) (w : am_W) (r : Option Value) (w1 : am_W) : Prop := match as with
  | [.int x, .int y] => am_fin w1 ∧ r = some (.int (if x < 0 then 0 else if y ≤ x then 0 else 1)) ∧ w1 = w
  | _ => False
def sp_X11_isUnder : am_S := am_spl []
theorem sm_X11_isUnder : am_Smono sp_X11_isUnder := am_spl_mono _
set_option maxRecDepth 100000 in
theorem k_X11_isUnder (l : Launch) {g : am_G} (hg : am_gok g) (hlen : ∀ as w K, am_sp pre_X11_isUnder post_X11_isUnder as w K → (am_ea as).length ≤ 2) (hT : ∀ as w K, am_sp pre_X11_isUnder post_X11_isUnder as w K → am_T m_X11_isUnder sp_X11_isUnder (w.1 + am_mc 182) K 0 (am_ent 2 as) [] w) : am_Met l g 0 182 (am_sp pre_X11_isUnder post_X11_isUnder) := by
  refine am_sound (own := 11) (M := m_X11_isUnder) (SP := sp_X11_isUnder) hg (by decide +kernel) ok_X11_isUnder (by decide +kernel) ?_ ?_ (am_spl_ext _ rfl g 11) hlen hT
  · intro q hq hk
    have hm : q.2.2.2.1 ∈ am_cs m_X11_isUnder := am_cs_in hq hk
    rw [show am_cs m_X11_isUnder = [] by decide +kernel] at hm
    cases hm
  · intro q hq hk
    exact absurd hk (am_no61 (M := m_X11_isUnder) (by decide +kernel) q hq)
set_option maxRecDepth 100000 in
theorem c_X11_isUnder (l : Launch) {g : am_G} (hg : am_gok g) : am_Met l g 0 182 (am_sp pre_X11_isUnder post_X11_isUnder) := by
  refine k_X11_isUnder l hg ?_ ?_
  · intro as w K h
    obtain ⟨hp, -⟩ := h
    unfold pre_X11_isUnder at hp
    split at hp
    · exact Nat.le_of_ble_eq_true rfl
    · exact hp.elim
  · intro as w K h
    obtain ⟨hp, hK⟩ := h
    unfold pre_X11_isUnder at hp
    split at hp
    · next x y =>
      obtain ⟨hf, hp⟩ := hp
      have e : w.1 + am_mc 182 = 168 := by rw [hf.1]; rfl
      rw [e]
      refine v_X11_isUnder_e sm_X11_isUnder hf x y ?_
      refine ⟨fun c1 => hK _ _ ⟨hf, by simp [c1], rfl⟩, fun c1 => ⟨fun c2 => hK _ _ ⟨hf, by simp [c1, c2], rfl⟩, fun c2 => hK _ _ ⟨hf, by simp [c1, c2], rfl⟩⟩⟩
    · exact hp.elim
def pre_X12_isSmall (as : List Value) (w : am_W) : Prop := match as with
  | [.int x] => am_fin w ∧ True
  | _ => False
def post_X12_isSmall (as : List Value) (w : am_W) (r : Option Value) (w1 : am_W) : Prop := match as with
  | [.int x] => am_fin w1 ∧ r = some (.int (if x < 0 then 0 else if 9 < x then 0 else 1)) ∧ w1 = w
  | _ => False
def sp_X12_isSmall : am_S := am_spl []
theorem sm_X12_isSmall : am_Smono sp_X12_isSmall := am_spl_mono _
set_option maxRecDepth 100000 in
theorem k_X12_isSmall (l : Launch) {g : am_G} (hg : am_gok g) (hlen : ∀ as w K, am_sp pre_X12_isSmall post_X12_isSmall as w K → (am_ea as).length ≤ 1) (hT : ∀ as w K, am_sp pre_X12_isSmall post_X12_isSmall as w K → am_T m_X12_isSmall sp_X12_isSmall (w.1 + am_mc 229) K 0 (am_ent 1 as) [] w) : am_Met l g 0 229 (am_sp pre_X12_isSmall post_X12_isSmall) := by
  refine am_sound (own := 12) (M := m_X12_isSmall) (SP := sp_X12_isSmall) hg (by decide +kernel) ok_X12_isSmall (by decide +kernel) ?_ ?_ (am_spl_ext _ rfl g 12) hlen hT
  · intro q hq hk
    have hm : q.2.2.2.1 ∈ am_cs m_X12_isSmall := am_cs_in hq hk
    rw [show am_cs m_X12_isSmall = [] by decide +kernel] at hm
    cases hm
  · intro q hq hk
    exact absurd hk (am_no61 (M := m_X12_isSmall) (by decide +kernel) q hq)
set_option maxRecDepth 100000 in
theorem c_X12_isSmall (l : Launch) {g : am_G} (hg : am_gok g) : am_Met l g 0 229 (am_sp pre_X12_isSmall post_X12_isSmall) := by
  refine k_X12_isSmall l hg ?_ ?_
  · intro as w K h
    obtain ⟨hp, -⟩ := h
    unfold pre_X12_isSmall at hp
    split at hp
    · exact Nat.le_of_ble_eq_true rfl
    · exact hp.elim
  · intro as w K h
    obtain ⟨hp, hK⟩ := h
    unfold pre_X12_isSmall at hp
    split at hp
    · next x =>
      obtain ⟨hf, hp⟩ := hp
      have e : w.1 + am_mc 229 = 168 := by rw [hf.1]; rfl
      rw [e]
      refine v_X12_isSmall_e sm_X12_isSmall hf x ?_
      refine ⟨fun c1 => hK _ _ ⟨hf, by simp [c1], rfl⟩, fun c1 => ⟨fun c2 => hK _ _ ⟨hf, by simp [c1, c2], rfl⟩, fun c2 => hK _ _ ⟨hf, by simp [c1, c2], rfl⟩⟩⟩
    · exact hp.elim
def pre_X11_end (as : List Value) (w : am_W) : Prop := match as with
  | [.ref 0, .int x] => am_fin w ∧ True
  | _ => False
def post_X11_end (as : List Value) (w : am_W) (r : Option Value) (w1 : am_W) : Prop := match as with
  | [.ref 0, .int x] => am_fin w1 ∧ r = some (.int (if x < 0 then -1 else if x ≤ am_gi w 1 4 then x else -1)) ∧ w1 = (if x < 0 then w else if x ≤ am_gi w 1 4 then am_si w 1 4 x else w)
  | _ => False
def sp_X11_end : am_S := am_spl []
theorem sm_X11_end : am_Smono sp_X11_end := am_spl_mono _
set_option maxRecDepth 100000 in
theorem k_X11_end (l : Launch) {g : am_G} (hg : am_gok g) (hlen : ∀ as w K, am_sp pre_X11_end post_X11_end as w K → (am_ea as).length ≤ 2) (hT : ∀ as w K, am_sp pre_X11_end post_X11_end as w K → am_T m_X11_end sp_X11_end (w.1 + am_mc 147) K 0 (am_ent 2 as) [] w) : am_Met l g 0 147 (am_sp pre_X11_end post_X11_end) := by
  refine am_sound (own := 11) (M := m_X11_end) (SP := sp_X11_end) hg (by decide +kernel) ok_X11_end (by decide +kernel) ?_ ?_ (am_spl_ext _ rfl g 11) hlen hT
  · intro q hq hk
    have hm : q.2.2.2.1 ∈ am_cs m_X11_end := am_cs_in hq hk
    rw [show am_cs m_X11_end = [] by decide +kernel] at hm
    cases hm
  · intro q hq hk
    exact absurd hk (am_no61 (M := m_X11_end) (by decide +kernel) q hq)
set_option maxRecDepth 100000 in
theorem c_X11_end (l : Launch) {g : am_G} (hg : am_gok g) : am_Met l g 0 147 (am_sp pre_X11_end post_X11_end) := by
  refine k_X11_end l hg ?_ ?_
  · intro as w K h
    obtain ⟨hp, -⟩ := h
    unfold pre_X11_end at hp
    split at hp
    · exact Nat.le_of_ble_eq_true rfl
    · exact hp.elim
  · intro as w K h
    obtain ⟨hp, hK⟩ := h
    unfold pre_X11_end at hp
    split at hp
    · next x =>
      obtain ⟨hf, hp⟩ := hp
      have e : w.1 + am_mc 147 = 168 := by rw [hf.1]; rfl
      rw [e]
      refine v_X11_end_e sm_X11_end hf x ?_
      refine ⟨fun c1 => hK _ _ ⟨hf, by simp [c1], by simp [c1]⟩, fun c1 => ⟨fun c2 => ?_, fun c2 => hK _ _ ⟨hf, by simp [c1, c2], by simp [c1, c2]⟩⟩⟩
      intro w3 e3
      subst e3
      exact hK _ _ ⟨am_fin_si hf, by simp [c1, c2], by simp [c1, c2]⟩
    · exact hp.elim
def pre_X12_end (as : List Value) (w : am_W) : Prop := match as with
  | [.ref 106, .int x] => am_fin w ∧ True
  | _ => False
def post_X12_end (as : List Value) (w : am_W) (r : Option Value) (w1 : am_W) : Prop := match as with
  | [.ref 106, .int x] => am_fin w1 ∧ r = some (.int (if x < 0 then -1 else if x ≤ am_gi w 106 1 then x else -1)) ∧ w1 = (if x < 0 then w else if x ≤ am_gi w 106 1 then am_si w 106 1 x else w)
  | _ => False
def sp_X12_end : am_S := am_spl []
theorem sm_X12_end : am_Smono sp_X12_end := am_spl_mono _
set_option maxRecDepth 100000 in
theorem k_X12_end (l : Launch) {g : am_G} (hg : am_gok g) (hlen : ∀ as w K, am_sp pre_X12_end post_X12_end as w K → (am_ea as).length ≤ 2) (hT : ∀ as w K, am_sp pre_X12_end post_X12_end as w K → am_T m_X12_end sp_X12_end (w.1 + am_mc 186) K 0 (am_ent 2 as) [] w) : am_Met l g 0 186 (am_sp pre_X12_end post_X12_end) := by
  refine am_sound (own := 12) (M := m_X12_end) (SP := sp_X12_end) hg (by decide +kernel) ok_X12_end (by decide +kernel) ?_ ?_ (am_spl_ext _ rfl g 12) hlen hT
  · intro q hq hk
    have hm : q.2.2.2.1 ∈ am_cs m_X12_end := am_cs_in hq hk
    rw [show am_cs m_X12_end = [] by decide +kernel] at hm
    cases hm
  · intro q hq hk
    exact absurd hk (am_no61 (M := m_X12_end) (by decide +kernel) q hq)
set_option maxRecDepth 100000 in
theorem c_X12_end (l : Launch) {g : am_G} (hg : am_gok g) : am_Met l g 0 186 (am_sp pre_X12_end post_X12_end) := by
  refine k_X12_end l hg ?_ ?_
  · intro as w K h
    obtain ⟨hp, -⟩ := h
    unfold pre_X12_end at hp
    split at hp
    · exact Nat.le_of_ble_eq_true rfl
    · exact hp.elim
  · intro as w K h
    obtain ⟨hp, hK⟩ := h
    unfold pre_X12_end at hp
    split at hp
    · next x =>
      obtain ⟨hf, hp⟩ := hp
      have e : w.1 + am_mc 186 = 168 := by rw [hf.1]; rfl
      rw [e]
      refine v_X12_end_e sm_X12_end hf x ?_
      refine ⟨fun c1 => hK _ _ ⟨hf, by simp [c1], by simp [c1]⟩, fun c1 => ⟨fun c2 => ?_, fun c2 => hK _ _ ⟨hf, by simp [c1, c2], by simp [c1, c2]⟩⟩⟩
      intro w3 e3
      subst e3
      exact hK _ _ ⟨am_fin_si hf, by simp [c1, c2], by simp [c1, c2]⟩
    · exact hp.elim
def pre_X11_fault (as : List Value) (w : am_W) : Prop := match as with
  | [.ref 0, .int x] => am_fin w ∧ True
  | _ => False
def post_X11_fault (as : List Value) (w : am_W) (r : Option Value) (w1 : am_W) : Prop := match as with
  | [.ref 0, .int x] => am_fin w1 ∧ r = some (.int (if x = 0 then am_gi w 1 7 else if x = 1 then am_gi w 1 8 else -1)) ∧ w1 = w
  | _ => False
def sp_X11_fault : am_S := am_spl []
theorem sm_X11_fault : am_Smono sp_X11_fault := am_spl_mono _
set_option maxRecDepth 100000 in
theorem k_X11_fault (l : Launch) {g : am_G} (hg : am_gok g) (hlen : ∀ as w K, am_sp pre_X11_fault post_X11_fault as w K → (am_ea as).length ≤ 2) (hT : ∀ as w K, am_sp pre_X11_fault post_X11_fault as w K → am_T m_X11_fault sp_X11_fault (w.1 + am_mc 150) K 0 (am_ent 2 as) [] w) : am_Met l g 0 150 (am_sp pre_X11_fault post_X11_fault) := by
  refine am_sound (own := 11) (M := m_X11_fault) (SP := sp_X11_fault) hg (by decide +kernel) ok_X11_fault (by decide +kernel) ?_ ?_ (am_spl_ext _ rfl g 11) hlen hT
  · intro q hq hk
    have hm : q.2.2.2.1 ∈ am_cs m_X11_fault := am_cs_in hq hk
    rw [show am_cs m_X11_fault = [] by decide +kernel] at hm
    cases hm
  · intro q hq hk
    exact absurd hk (am_no61 (M := m_X11_fault) (by decide +kernel) q hq)
set_option maxRecDepth 100000 in
theorem c_X11_fault (l : Launch) {g : am_G} (hg : am_gok g) : am_Met l g 0 150 (am_sp pre_X11_fault post_X11_fault) := by
  refine k_X11_fault l hg ?_ ?_
  · intro as w K h
    obtain ⟨hp, -⟩ := h
    unfold pre_X11_fault at hp
    split at hp
    · exact Nat.le_of_ble_eq_true rfl
    · exact hp.elim
  · intro as w K h
    obtain ⟨hp, hK⟩ := h
    unfold pre_X11_fault at hp
    split at hp
    · next x =>
      obtain ⟨hf, hp⟩ := hp
      have e : w.1 + am_mc 150 = 168 := by rw [hf.1]; rfl
      rw [e]
      refine v_X11_fault_e sm_X11_fault hf x ?_
      refine ⟨fun c1 => ⟨fun c2 => hK _ _ ⟨hf, by simp [c1, c2], rfl⟩, fun c2 => hK _ _ ⟨hf, by simp [c1, c2], rfl⟩⟩, fun c1 => hK _ _ ⟨hf, by simp [c1], rfl⟩⟩
    · exact hp.elim
def pre_X12_fault (as : List Value) (w : am_W) : Prop := match as with
  | [.ref 106, .int x] => am_fin w ∧ True
  | _ => False
def post_X12_fault (as : List Value) (w : am_W) (r : Option Value) (w1 : am_W) : Prop := match as with
  | [.ref 106, .int x] => am_fin w1 ∧ r = some (.int (if x = 0 then am_gi w 106 2 else if x = 1 then am_gi w 106 3 else -1)) ∧ w1 = w
  | _ => False
def sp_X12_fault : am_S := am_spl []
theorem sm_X12_fault : am_Smono sp_X12_fault := am_spl_mono _
set_option maxRecDepth 100000 in
theorem k_X12_fault (l : Launch) {g : am_G} (hg : am_gok g) (hlen : ∀ as w K, am_sp pre_X12_fault post_X12_fault as w K → (am_ea as).length ≤ 2) (hT : ∀ as w K, am_sp pre_X12_fault post_X12_fault as w K → am_T m_X12_fault sp_X12_fault (w.1 + am_mc 221) K 0 (am_ent 2 as) [] w) : am_Met l g 0 221 (am_sp pre_X12_fault post_X12_fault) := by
  refine am_sound (own := 12) (M := m_X12_fault) (SP := sp_X12_fault) hg (by decide +kernel) ok_X12_fault (by decide +kernel) ?_ ?_ (am_spl_ext _ rfl g 12) hlen hT
  · intro q hq hk
    have hm : q.2.2.2.1 ∈ am_cs m_X12_fault := am_cs_in hq hk
    rw [show am_cs m_X12_fault = [] by decide +kernel] at hm
    cases hm
  · intro q hq hk
    exact absurd hk (am_no61 (M := m_X12_fault) (by decide +kernel) q hq)
set_option maxRecDepth 100000 in
theorem c_X12_fault (l : Launch) {g : am_G} (hg : am_gok g) : am_Met l g 0 221 (am_sp pre_X12_fault post_X12_fault) := by
  refine k_X12_fault l hg ?_ ?_
  · intro as w K h
    obtain ⟨hp, -⟩ := h
    unfold pre_X12_fault at hp
    split at hp
    · exact Nat.le_of_ble_eq_true rfl
    · exact hp.elim
  · intro as w K h
    obtain ⟨hp, hK⟩ := h
    unfold pre_X12_fault at hp
    split at hp
    · next x =>
      obtain ⟨hf, hp⟩ := hp
      have e : w.1 + am_mc 221 = 168 := by rw [hf.1]; rfl
      rw [e]
      refine v_X12_fault_e sm_X12_fault hf x ?_
      refine ⟨fun c1 => ⟨fun c2 => hK _ _ ⟨hf, by simp [c1, c2], rfl⟩, fun c2 => hK _ _ ⟨hf, by simp [c1, c2], rfl⟩⟩, fun c1 => hK _ _ ⟨hf, by simp [c1], rfl⟩⟩
    · exact hp.elim
def pre_X11_later (as : List Value) (w : am_W) : Prop := match as with
  | [.ref 0, .int x] => am_fin w ∧ True
  | _ => False
def post_X11_later (as : List Value) (w : am_W) (r : Option Value) (w1 : am_W) : Prop := match as with
  | [.ref 0, .int x] => am_fin w1 ∧ r = some (.int (if x < 0 then -1 else if 1000 < x then -1 else if am_gi w 72 8 + x ≤ 100000 then am_gi w 72 8 + x else -1)) ∧ w1 = (if x < 0 then w else if 1000 < x then w else if am_gi w 72 8 + x ≤ 100000 then am_si w 72 8 (am_gi w 72 8 + x) else w)
  | _ => False
def sp_X11_later : am_S := am_spl []
theorem sm_X11_later : am_Smono sp_X11_later := am_spl_mono _
set_option maxRecDepth 100000 in
theorem k_X11_later (l : Launch) {g : am_G} (hg : am_gok g) (hlen : ∀ as w K, am_sp pre_X11_later post_X11_later as w K → (am_ea as).length ≤ 2) (hT : ∀ as w K, am_sp pre_X11_later post_X11_later as w K → am_T m_X11_later sp_X11_later (w.1 + am_mc 157) K 0 (am_ent 2 as) [] w) : am_Met l g 0 157 (am_sp pre_X11_later post_X11_later) := by
  refine am_sound (own := 11) (M := m_X11_later) (SP := sp_X11_later) hg (by decide +kernel) ok_X11_later (by decide +kernel) ?_ ?_ (am_spl_ext _ rfl g 11) hlen hT
  · intro q hq hk
    have hm : q.2.2.2.1 ∈ am_cs m_X11_later := am_cs_in hq hk
    rw [show am_cs m_X11_later = [] by decide +kernel] at hm
    cases hm
  · intro q hq hk
    exact absurd hk (am_no61 (M := m_X11_later) (by decide +kernel) q hq)
set_option maxRecDepth 100000 in
theorem c_X11_later (l : Launch) {g : am_G} (hg : am_gok g) : am_Met l g 0 157 (am_sp pre_X11_later post_X11_later) := by
  refine k_X11_later l hg ?_ ?_
  · intro as w K h
    obtain ⟨hp, -⟩ := h
    unfold pre_X11_later at hp
    split at hp
    · exact Nat.le_of_ble_eq_true rfl
    · exact hp.elim
  · intro as w K h
    obtain ⟨hp, hK⟩ := h
    unfold pre_X11_later at hp
    split at hp
    · next x =>
      obtain ⟨hf, hp⟩ := hp
      have e : w.1 + am_mc 157 = 168 := by rw [hf.1]; rfl
      rw [e]
      refine v_X11_later_e sm_X11_later hf x ?_
      refine ⟨fun c1 => hK _ _ ⟨hf, by simp [c1], by simp [c1]⟩, fun c1 => ⟨fun c2 => hK _ _ ⟨hf, by simp [c1, c2], by simp [c1, c2]⟩, fun c2 => ⟨fun c3 => ?_, fun c3 => hK _ _ ⟨hf, by simp [c1, c2, c3], by simp [c1, c2, c3]⟩⟩⟩⟩
      intro w4 e4
      subst e4
      exact hK _ _ ⟨am_fin_si hf, by rw [am_gi_self]; simp [c1, c2, c3], by simp [c1, c2, c3]⟩
    · exact hp.elim
