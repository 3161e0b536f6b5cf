/-! ===== the law from its entry ===== -/
def fz_ : fm_ := (fun _ _ => 0, fun _ _ => 0)
def fr_ : Nat → Nat → Option Nat := fun _ _ => none
def lw_R : Nat → Nat → Option Nat := (FR_X12_init_106 (am_z (FR_X11_init_0 (am_z fr_ 0 none)) 106 none))
set_option maxRecDepth 100000 in
theorem lw_chk : ((List.range 168).all fun x => (List.range (am_FR.getD x []).length).all fun k => decide (am_fr x k = none) || decide (lw_R x k = am_fr x k)) = true := by decide +kernel
theorem lw_len : am_FR.length = 168 := by decide +kernel
theorem lw_fin : fn_F 168 lw_R := by
  refine ⟨rfl, fun x k t h => ?_⟩
  have hx : x < 168 := by
    refine Nat.lt_of_not_le fun q => ?_
    unfold am_fr at h
    rw [List.getD_eq_getElem?_getD (l := am_FR), List.getElem?_eq_none (l := am_FR) (by rw [lw_len]; exact q)] at h
    simp at h
  have hk : k < (am_FR.getD x []).length := by
    refine Nat.lt_of_not_le fun q => ?_
    unfold am_fr at h
    rw [List.getD_eq_getElem?_getD (l := am_FR.getD x []), List.getElem?_eq_none q] at h
    simp at h
  have h1 := List.all_eq_true.mp lw_chk x (List.mem_range.mpr hx)
  have h2 := List.all_eq_true.mp h1 k (List.mem_range.mpr hk)
  rw [h] at h2
  simpa using h2
/-- THE LAW, AS A FUNCTION OF THE SCRIPT -/
noncomputable def f_law (L : Nat) (xs : Nat → Int32) : Option (Int32 × fm_) :=
  (Option.bind (g_X11_init_0 (zz_ fz_ 0)) fun q1 =>
(Option.bind (g_X12_init_106 (zz_ q1 106)) fun q4 =>
(f_L_18 L xs 0 q4)))
set_option maxHeartbeats 4000000 in
set_option maxRecDepth 100000 in
theorem lw_entry {L : Nat} {xs : Nat → Int32} {q : Int32 × fm_} (h : f_law L xs = some q) (hq1 : q.1 = 1) : am_T m_L_law (sp_L L xs) 168 (fun y _ => y = some (.int 1)) 0 [some (.ref 1000), none, none, none] [] am_w0 :=
  am_T.wp (sm_L L xs) (K := am_T m_L_law (sp_L L xs) 168 (fun y _ => y = some (.int 1))) (cuts := [18, 180, 243, 266, 279, 302, 325, 358, 421, 496, 579, 612, 635, 658, 691, 724, 757, 800, 869, 912, 955, 998, 1051, 1114, 1167, 1190, 1223, 1286, 1345, 1414, 1473, 1496, 1529, 1562]) (fun _ _ _ _ h => h) 11
    (show am_wp m_L_law (sp_L L xs) 168 (fun y _ => y = some (.int 1)) (am_T m_L_law (sp_L L xs) 168 (fun y _ => y = some (.int 1))) [18, 180, 243, 266, 279, 302, 325, 358, 421, 496, 579, 612, 635, 658, 691, 724, 757, 800, 869, 912, 955, 998, 1051, 1114, 1167, 1190, 1223, 1286, 1345, 1414, 1473, 1496, 1529, 1562] 11 0 [some (.ref 1000), none, none, none] [] (mk_ 0 fr_ fz_) from ⟨⟨rfl, Nat.le_of_ble_eq_true rfl⟩, fh_bd h fun q1 e2 h3 => ⟨Nat.le_of_ble_eq_true rfl, ⟨Nat.le_of_ble_eq_true rfl, (show am_ss 106 = am_ss 1 + 11925 by decide +kernel)⟩, 0, _, rfl, rfl, rfl, trivial, q1, e2, fun _ => ⟨rfl, ⟨⟨rfl, Nat.le_of_ble_eq_true rfl⟩, fh_bd h3 fun q4 e5 h6 => ⟨Nat.le_of_ble_eq_true rfl, ⟨Nat.le_of_ble_eq_true rfl, (show am_ss 168 = am_ss 107 + 15004 by decide +kernel)⟩, 0, _, rfl, rfl, rfl, lw_fin, q4, e5, fun _ => ⟨rfl, l_L (0, 0, q4) _ h6 hq1 lw_fin⟩⟩⟩⟩⟩⟩)
theorem okL_all {f : am_Row → Bool} {l : List am_Row} (n : Nat) : ∀ k : Nat, l.length ≤ n * k → (∀ j, j < k → ((l.drop (j * n)).take n).all f = true) → l.all f = true := by
  intro k hk h
  rw [List.all_eq_true]
  intro x hx
  obtain ⟨i, hi, rfl⟩ := List.mem_iff_getElem.mp hx
  have hn : 0 < n := Nat.pos_of_ne_zero fun q => by subst q; omega
  have hj : i / n < k := (Nat.div_lt_iff_lt_mul hn).mpr (by rw [Nat.mul_comm]; omega)
  have h1 := List.all_eq_true.mp (h (i / n) hj)
  refine h1 _ (List.mem_iff_getElem?.mpr ⟨i % n, ?_⟩)
  have hm : i % n < n := Nat.mod_lt _ hn
  rw [List.getElem?_take_of_lt hm, List.getElem?_drop, Nat.mul_comm (i / n) n, Nat.div_add_mod]
  exact List.getElem?_eq_getElem hi
set_option maxRecDepth 100000 in
theorem okL_len : m_L_law.1.length ≤ 30 * 40 := by decide +kernel
theorem ok_L_law : am_mok 20 301 m_L_law = true := by
  unfold am_mok
  rw [Bool.and_eq_true]
  refine ⟨by decide +kernel, okL_all 30 40 okL_len fun j hj => ?_⟩
  match j, hj with
  | 0, _ => exact okL_0
  | 1, _ => exact okL_1
  | 2, _ => exact okL_2
  | 3, _ => exact okL_3
  | 4, _ => exact okL_4
  | 5, _ => exact okL_5
  | 6, _ => exact okL_6
  | 7, _ => exact okL_7
  | 8, _ => exact okL_8
  | 9, _ => exact okL_9
  | 10, _ => exact okL_10
  | 11, _ => exact okL_11
  | 12, _ => exact okL_12
  | 13, _ => exact okL_13
  | 14, _ => exact okL_14
  | 15, _ => exact okL_15
  | 16, _ => exact okL_16
  | 17, _ => exact okL_17
  | 18, _ => exact okL_18
  | 19, _ => exact okL_19
  | 20, _ => exact okL_20
  | 21, _ => exact okL_21
  | 22, _ => exact okL_22
  | 23, _ => exact okL_23
  | 24, _ => exact okL_24
  | 25, _ => exact okL_25
  | 26, _ => exact okL_26
  | 27, _ => exact okL_27
  | 28, _ => exact okL_28
  | 29, _ => exact okL_29
  | 30, _ => exact okL_30
  | 31, _ => exact okL_31
  | 32, _ => exact okL_32
  | 33, _ => exact okL_33
  | 34, _ => exact okL_34
  | 35, _ => exact okL_35
  | 36, _ => exact okL_36
  | 37, _ => exact okL_37
  | 38, _ => exact okL_38
  | 39, _ => exact okL_39
  | k + 40, hj => exact absurd hj (by omega)
set_option maxRecDepth 100000 in
theorem cs_L : ∀ a ∈ am_cs m_L_law, a ∈ ([145, 146, 147, 148, 149, 150, 151, 152, 153, 154, 155, 156, 157, 158, 159, 160, 161, 162, 163, 164, 165, 166, 167, 168, 169, 170, 171, 172, 173, 174, 175, 176, 177, 178, 183, 184, 186, 201, 205, 220, 221, 226, 230, 231, 232, 233, 234, 239, 244, 245, 246, 250, 253, 256, 259, 260, 261, 262, 267, 268, 269, 273, 274, 276, 278, 281, 282, 283] : List Nat) := fun a ha => of_decide_eq_true (List.all_eq_true.mp (show (am_cs m_L_law).all (fun a => decide (a ∈ ([145, 146, 147, 148, 149, 150, 151, 152, 153, 154, 155, 156, 157, 158, 159, 160, 161, 162, 163, 164, 165, 166, 167, 168, 169, 170, 171, 172, 173, 174, 175, 176, 177, 178, 183, 184, 186, 201, 205, 220, 221, 226, 230, 231, 232, 233, 234, 239, 244, 245, 246, 250, 253, 256, 259, 260, 261, 262, 267, 268, 269, 273, 274, 276, 278, 281, 282, 283] : List Nat))) = true by decide +kernel) _ ha)
set_option maxRecDepth 100000 in
theorem cal_L {l : Launch} {g : am_G} (hg : fx_ l g) (L : Nat) (xs : Nat → Int32) : ∀ q ∈ m_L_law.1, q.2.2.1 = 55 ∨ q.2.2.1 = 61 → ∃ d1, d1 < 1399 ∧ am_Met l g d1 q.2.2.2.1 (sp_L L xs q.2.2.2.1) := by
  intro q hq hk
  have hm := cs_L _ (am_cs_in hq hk)
  simp only [List.mem_cons, List.not_mem_nil, or_false] at hm
  rcases hm with hm | hm | hm | hm | hm | hm | hm | hm | hm | hm | hm | hm | hm | hm | hm | hm | hm | hm | hm | hm | hm | hm | hm | hm | hm | hm | hm | hm | hm | hm | hm | hm | hm | hm | hm | hm | hm | hm | hm | hm | hm | hm | hm | hm | hm | hm | hm | hm | hm | hm | hm | hm | hm | hm | hm | hm | hm | hm | hm | hm | hm | hm | hm | hm | hm | hm | hm | hm
  · rw [hm]; exact ⟨5, by omega, c_X11_init l hg⟩
  · rw [hm]; exact ⟨1, by omega, c_X11_feed l hg⟩
  · rw [hm]; exact ⟨0, by omega, c_X11_end l hg⟩
  · rw [hm]; exact ⟨9, by omega, c_X11_map l hg⟩
  · rw [hm]; exact ⟨24, by omega, c_X11_orders l hg⟩
  · rw [hm]; exact ⟨0, by omega, c_X11_fault l hg⟩
  · rw [hm]; exact ⟨2, by omega, c_X11_between l hg⟩
  · rw [hm]; exact ⟨3, by omega, c_X11_plate l hg⟩
  · rw [hm]; exact ⟨2, by omega, c_X11_papers l hg⟩
  · rw [hm]; exact ⟨3, by omega, c_X11_read l hg⟩
  · rw [hm]; exact ⟨2, by omega, c_X11_appeal l hg⟩
  · rw [hm]; exact ⟨2, by omega, c_X11_untell l hg⟩
  · rw [hm]; exact ⟨0, by omega, c_X11_later l hg⟩
  · rw [hm]; exact ⟨2, by omega, c_X11_like l hg⟩
  · rw [hm]; exact ⟨5, by omega, c_X11_whose l hg⟩
  · rw [hm]; exact ⟨6, by omega, c_X11_doubt l hg⟩
  · rw [hm]; exact ⟨4, by omega, c_X11_isDouble l hg⟩
  · rw [hm]; exact ⟨6, by omega, c_X11_inside l hg⟩
  · rw [hm]; exact ⟨5, by omega, c_X11_classOf l hg⟩
  · rw [hm]; exact ⟨6, by omega, c_X11_entries l hg⟩
  · rw [hm]; exact ⟨6, by omega, c_X11_charge l hg⟩
  · rw [hm]; exact ⟨6, by omega, c_X11_account l hg⟩
  · rw [hm]; exact ⟨6, by omega, c_X11_back l hg⟩
  · rw [hm]; exact ⟨2, by omega, c_X11_air l hg⟩
  · rw [hm]; exact ⟨4, by omega, c_X11_effect l hg⟩
  · rw [hm]; exact ⟨4, by omega, c_X11_doubtOf l hg⟩
  · rw [hm]; exact ⟨2, by omega, c_X11_trip l hg⟩
  · rw [hm]; exact ⟨5, by omega, c_X11_minutes l hg⟩
  · rw [hm]; exact ⟨5, by omega, c_X11_via l hg⟩
  · rw [hm]; exact ⟨6, by omega, c_X11_load l hg⟩
  · rw [hm]; exact ⟨6, by omega, c_X11_around l hg⟩
  · rw [hm]; exact ⟨6, by omega, c_X11_view l hg⟩
  · rw [hm]; exact ⟨6, by omega, c_X11_seen l hg⟩
  · rw [hm]; exact ⟨1, by omega, c_X11_about l hg⟩
  · rw [hm]; exact ⟨1, by omega, c_X12_init l hg⟩
  · rw [hm]; exact ⟨1, by omega, c_X12_feed l hg⟩
  · rw [hm]; exact ⟨0, by omega, c_X12_end l hg⟩
  · rw [hm]; exact ⟨5, by omega, c_X12_map l hg⟩
  · rw [hm]; exact ⟨1, by omega, c_X12_between l hg⟩
  · rw [hm]; exact ⟨6, by omega, c_X12_orders l hg⟩
  · rw [hm]; exact ⟨0, by omega, c_X12_fault l hg⟩
  · rw [hm]; exact ⟨2, by omega, c_X12_plate l hg⟩
  · rw [hm]; exact ⟨1, by omega, c_X12_papers l hg⟩
  · rw [hm]; exact ⟨2, by omega, c_X12_read l hg⟩
  · rw [hm]; exact ⟨1, by omega, c_X12_appeal l hg⟩
  · rw [hm]; exact ⟨0, by omega, c_X12_untell l hg⟩
  · rw [hm]; exact ⟨0, by omega, c_X12_later l hg⟩
  · rw [hm]; exact ⟨2, by omega, c_X12_like l hg⟩
  · rw [hm]; exact ⟨4, by omega, c_X12_whose l hg⟩
  · rw [hm]; exact ⟨4, by omega, c_X12_doubt l hg⟩
  · rw [hm]; exact ⟨2, by omega, c_X12_isDouble l hg⟩
  · rw [hm]; exact ⟨4, by omega, c_X12_inside l hg⟩
  · rw [hm]; exact ⟨3, by omega, c_X12_classOf l hg⟩
  · rw [hm]; exact ⟨6, by omega, c_X12_entries l hg⟩
  · rw [hm]; exact ⟨6, by omega, c_X12_charge l hg⟩
  · rw [hm]; exact ⟨5, by omega, c_X12_account l hg⟩
  · rw [hm]; exact ⟨6, by omega, c_X12_back l hg⟩
  · rw [hm]; exact ⟨1, by omega, c_X12_air l hg⟩
  · rw [hm]; exact ⟨3, by omega, c_X12_effect l hg⟩
  · rw [hm]; exact ⟨3, by omega, c_X12_doubtOf l hg⟩
  · rw [hm]; exact ⟨1, by omega, c_X12_trip l hg⟩
  · rw [hm]; exact ⟨4, by omega, c_X12_minutes l hg⟩
  · rw [hm]; exact ⟨4, by omega, c_X12_via l hg⟩
  · rw [hm]; exact ⟨4, by omega, c_X12_load l hg⟩
  · rw [hm]; exact ⟨4, by omega, c_X12_around l hg⟩
  · rw [hm]; exact ⟨5, by omega, c_X12_view l hg⟩
  · rw [hm]; exact ⟨5, by omega, c_X12_seen l hg⟩
  · rw [hm]; exact ⟨1, by omega, c_X12_about l hg⟩
set_option maxRecDepth 100000 in
theorem ref_L (L : Nat) (xs : Nat → Int32) : ∀ q ∈ m_L_law.1, q.2.2.1 = 61 → ∀ as w K, sp_L L xs q.2.2.2.1 as w K → ∃ x t, as = .ref x :: t := by
  intro q hq hk as w K h
  have h61 : q.2.2.2.1 ∈ ([145, 183] : List Nat) := by
    have := List.all_eq_true.mp (show (m_L_law.1.all fun q => !(q.2.2.1 == 61) || decide (q.2.2.2.1 ∈ ([145, 183] : List Nat))) = true by decide +kernel) q hq
    rw [hk] at this
    simpa using this
  simp only [List.mem_cons, List.not_mem_nil, or_false] at h61
  rcases h61 with h61 | h61
  · rw [h61] at h; exact cs_ref (l := cl_X11_init) h
  · rw [h61] at h; exact cs_ref (l := cl_X12_init) h
set_option maxRecDepth 100000 in
/-- out of the function's answer: the law ends with true -/
theorem lw_whole {p : Program} {e : Env} {s : State} {m : MethodId} {below : List Frame} {meth : Method} {c : Code} (l : Launch) {b L : Nat} {xs : Nat → Int32} (C0 : lw_At p s m meth c b L xs) {g : am_G} (hg : fx_ l g) (hgs : g.1 = s) (hb0 : am_ad g 1000 = b) {q : Int32 × fm_} (h : f_law L xs = some q) (hq1 : q.1 = 1) : W p l e room_1 s m #[Value.ref b] below meth c s.heap [] 0 0 (lw_Z below #[Value.ref b] s) (entryFrame m ([Value.ref b] : List Value).toArray 4) := by
  have hX : va_X (am_ad g 1000) L xs g.1 g.1.heap := by rw [hb0, hgs]; exact C0.2.2.2.2.2.2.1
  have hb : am_ad g 1000 < am_B g := by unfold am_B; rw [hb0, hgs]; exact C0.2.2.2.2.2.2.2.1
  exact am_lawW l C0 hg.1 hgs hb0 ok_L_law (by decide +kernel) (cal_L hg L xs) (ref_L L xs) (ex_L hX hb) (by decide +kernel) (lw_entry h hq1)
