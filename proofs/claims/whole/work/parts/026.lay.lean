set_option maxRecDepth 100000 in
theorem am_lay_X0 : ∀ w ∈ u_ws RX0 TX0 5, w ∈ lw_tbl := by decide +kernel
set_option maxRecDepth 100000 in
theorem am_lay_X1 : ∀ w ∈ u_ws RX1 TX1 11, w ∈ lw_tbl := by decide +kernel
set_option maxRecDepth 100000 in
theorem am_lay_X2 : ∀ w ∈ u_ws RX2 TX2 5, w ∈ lw_tbl := by decide +kernel
set_option maxRecDepth 100000 in
theorem am_lay_X3 : ∀ w ∈ u_ws RX3 TX3 2, w ∈ lw_tbl := by decide +kernel
set_option maxRecDepth 100000 in
theorem am_lay_X4 : ∀ w ∈ u_ws RX4 TX4 13, w ∈ lw_tbl := by decide +kernel
set_option maxRecDepth 100000 in
theorem am_lay_X5 : ∀ w ∈ u_ws RX5 TX5 4, w ∈ lw_tbl := by decide +kernel
set_option maxRecDepth 100000 in
theorem am_lay_X6 : ∀ w ∈ u_ws RX6 TX6 14, w ∈ lw_tbl := by decide +kernel
set_option maxRecDepth 100000 in
theorem am_lay_X7 : ∀ w ∈ u_ws RX7 TX7 3, w ∈ lw_tbl := by decide +kernel
set_option maxRecDepth 100000 in
theorem am_lay_X8 : ∀ w ∈ u_ws RX8 TX8 9, w ∈ lw_tbl := by decide +kernel
set_option maxRecDepth 100000 in
theorem am_lay_X9 : ∀ w ∈ u_ws RX9 TX9 15, w ∈ lw_tbl := by decide +kernel
set_option maxRecDepth 100000 in
theorem am_lay_X10 : ∀ w ∈ u_ws RX10 TX10 15, w ∈ lw_tbl := by decide +kernel
set_option maxRecDepth 100000 in
theorem am_lay_X11 : ∀ w ∈ u_ws RX11 TX11 11, w ∈ lw_tbl := by decide +kernel
set_option maxRecDepth 100000 in
theorem am_lay_X12 : ∀ w ∈ u_ws RX12 TX12 99, w ∈ lw_tbl := by decide +kernel
theorem am_lay : ∀ (c : Nat) (q : vw_C), am_cl[c]? = some q → ∀ w ∈ u_ws q.1 q.2.1 q.2.2, w ∈ lw_tbl := by
  intro c q h
  match c, h with
  | 0, h => cases h; exact am_lay_X0
  | 1, h => cases h; exact am_lay_X1
  | 2, h => cases h; exact am_lay_X2
  | 3, h => cases h; exact am_lay_X3
  | 4, h => cases h; exact am_lay_X4
  | 5, h => cases h; exact am_lay_X5
  | 6, h => cases h; exact am_lay_X6
  | 7, h => cases h; exact am_lay_X7
  | 8, h => cases h; exact am_lay_X8
  | 9, h => cases h; exact am_lay_X9
  | 10, h => cases h; exact am_lay_X10
  | 11, h => cases h; exact am_lay_X11
  | 12, h => cases h; exact am_lay_X12
  | c + 13, h => exact absurd h (by simp [am_cl])
theorem am_tok : ∀ (c : Nat) (q : vw_C), am_cl[c]? = some q → ∀ k, k < q.2.2 → parseFieldDescriptor (q.2.1 k).2.2.1 = some (am_tyf c k) := by
  intro c q h
  match c, h with
  | 0, h => cases h; exact tyX0_ok
  | 1, h => cases h; exact tyX1_ok
  | 2, h => cases h; exact tyX2_ok
  | 3, h => cases h; exact tyX3_ok
  | 4, h => cases h; exact tyX4_ok
  | 5, h => cases h; exact tyX5_ok
  | 6, h => cases h; exact tyX6_ok
  | 7, h => cases h; exact tyX7_ok
  | 8, h => cases h; exact tyX8_ok
  | 9, h => cases h; exact tyX9_ok
  | 10, h => cases h; exact tyX10_ok
  | 11, h => cases h; exact tyX11_ok
  | 12, h => cases h; exact tyX12_ok
  | c + 13, h => exact absurd h (by simp [am_cl])
theorem am_nmk : ∀ (c : Nat) (q : vw_C), am_cl[c]? = some q → ∀ a, a < q.2.2 → ∀ b, b < q.2.2 → a ≠ b → (q.2.1 a).2.1 ≠ (q.2.1 b).2.1 := by
  intro c q h
  match c, h with
  | 0, h => cases h; exact nmX0
  | 1, h => cases h; exact nmX1
  | 2, h => cases h; exact nmX2
  | 3, h => cases h; exact nmX3
  | 4, h => cases h; exact nmX4
  | 5, h => cases h; exact nmX5
  | 6, h => cases h; exact nmX6
  | 7, h => cases h; exact nmX7
  | 8, h => cases h; exact nmX8
  | 9, h => cases h; exact nmX9
  | 10, h => cases h; exact nmX10
  | 11, h => cases h; exact nmX11
  | 12, h => cases h; exact nmX12
  | c + 13, h => exact absurd h (by simp [am_cl])
def am_tk : FieldType → Nat
  | .int => 0
  | .long => 1
  | .object _ => 2
  | .array _ => 2
  | .boolean => 3
  | _ => 9
theorem am_kdq_X0 : am_KD.getD 0 [] = (List.range 5).map (fun k => am_tk (am_tyf 0 k)) := by decide +kernel
theorem am_kdq_X1 : am_KD.getD 1 [] = (List.range 11).map (fun k => am_tk (am_tyf 1 k)) := by decide +kernel
theorem am_kdq_X2 : am_KD.getD 2 [] = (List.range 5).map (fun k => am_tk (am_tyf 2 k)) := by decide +kernel
theorem am_kdq_X3 : am_KD.getD 3 [] = (List.range 2).map (fun k => am_tk (am_tyf 3 k)) := by decide +kernel
theorem am_kdq_X4 : am_KD.getD 4 [] = (List.range 13).map (fun k => am_tk (am_tyf 4 k)) := by decide +kernel
theorem am_kdq_X5 : am_KD.getD 5 [] = (List.range 4).map (fun k => am_tk (am_tyf 5 k)) := by decide +kernel
theorem am_kdq_X6 : am_KD.getD 6 [] = (List.range 14).map (fun k => am_tk (am_tyf 6 k)) := by decide +kernel
theorem am_kdq_X7 : am_KD.getD 7 [] = (List.range 3).map (fun k => am_tk (am_tyf 7 k)) := by decide +kernel
theorem am_kdq_X8 : am_KD.getD 8 [] = (List.range 9).map (fun k => am_tk (am_tyf 8 k)) := by decide +kernel
theorem am_kdq_X9 : am_KD.getD 9 [] = (List.range 15).map (fun k => am_tk (am_tyf 9 k)) := by decide +kernel
theorem am_kdq_X10 : am_KD.getD 10 [] = (List.range 15).map (fun k => am_tk (am_tyf 10 k)) := by decide +kernel
theorem am_kdq_X11 : am_KD.getD 11 [] = (List.range 11).map (fun k => am_tk (am_tyf 11 k)) := by decide +kernel
theorem am_kdq_X12 : am_KD.getD 12 [] = (List.range 99).map (fun k => am_tk (am_tyf 12 k)) := by decide +kernel
theorem am_kdq : ∀ (c : Nat) (q : vw_C), am_cl[c]? = some q → am_KD.getD c [] = (List.range q.2.2).map (fun k => am_tk (am_tyf c k)) := by
  intro c q h
  match c, h with
  | 0, h => cases h; exact am_kdq_X0
  | 1, h => cases h; exact am_kdq_X1
  | 2, h => cases h; exact am_kdq_X2
  | 3, h => cases h; exact am_kdq_X3
  | 4, h => cases h; exact am_kdq_X4
  | 5, h => cases h; exact am_kdq_X5
  | 6, h => cases h; exact am_kdq_X6
  | 7, h => cases h; exact am_kdq_X7
  | 8, h => cases h; exact am_kdq_X8
  | 9, h => cases h; exact am_kdq_X9
  | 10, h => cases h; exact am_kdq_X10
  | 11, h => cases h; exact am_kdq_X11
  | 12, h => cases h; exact am_kdq_X12
  | c + 13, h => exact absurd h (by simp [am_cl])
theorem am_ins_X0 : Cond.instantiable RX0 5 ∈ lw_tbl ∧ Cond.initialized RX0 ∈ lw_tbl := by decide +kernel
theorem am_ins_X1 : Cond.instantiable RX1 11 ∈ lw_tbl ∧ Cond.initialized RX1 ∈ lw_tbl := by decide +kernel
theorem am_ins_X2 : Cond.instantiable RX2 5 ∈ lw_tbl ∧ Cond.initialized RX2 ∈ lw_tbl := by decide +kernel
theorem am_ins_X3 : Cond.instantiable RX3 2 ∈ lw_tbl ∧ Cond.initialized RX3 ∈ lw_tbl := by decide +kernel
theorem am_ins_X4 : Cond.instantiable RX4 13 ∈ lw_tbl ∧ Cond.initialized RX4 ∈ lw_tbl := by decide +kernel
theorem am_ins_X5 : Cond.instantiable RX5 4 ∈ lw_tbl ∧ Cond.initialized RX5 ∈ lw_tbl := by decide +kernel
theorem am_ins_X6 : Cond.instantiable RX6 14 ∈ lw_tbl ∧ Cond.initialized RX6 ∈ lw_tbl := by decide +kernel
theorem am_ins_X7 : Cond.instantiable RX7 3 ∈ lw_tbl ∧ Cond.initialized RX7 ∈ lw_tbl := by decide +kernel
theorem am_ins_X8 : Cond.instantiable RX8 9 ∈ lw_tbl ∧ Cond.initialized RX8 ∈ lw_tbl := by decide +kernel
theorem am_ins_X9 : Cond.instantiable RX9 15 ∈ lw_tbl ∧ Cond.initialized RX9 ∈ lw_tbl := by decide +kernel
theorem am_ins_X10 : Cond.instantiable RX10 15 ∈ lw_tbl ∧ Cond.initialized RX10 ∈ lw_tbl := by decide +kernel
theorem am_ins_X11 : Cond.instantiable RX11 11 ∈ lw_tbl ∧ Cond.initialized RX11 ∈ lw_tbl := by decide +kernel
theorem am_ins_X12 : Cond.instantiable RX12 99 ∈ lw_tbl ∧ Cond.initialized RX12 ∈ lw_tbl := by decide +kernel
theorem am_ins : ∀ (c : Nat) (q : vw_C), am_cl[c]? = some q → Cond.instantiable q.1 q.2.2 ∈ lw_tbl ∧ Cond.initialized q.1 ∈ lw_tbl := by
  intro c q h
  match c, h with
  | 0, h => cases h; exact am_ins_X0
  | 1, h => cases h; exact am_ins_X1
  | 2, h => cases h; exact am_ins_X2
  | 3, h => cases h; exact am_ins_X3
  | 4, h => cases h; exact am_ins_X4
  | 5, h => cases h; exact am_ins_X5
  | 6, h => cases h; exact am_ins_X6
  | 7, h => cases h; exact am_ins_X7
  | 8, h => cases h; exact am_ins_X8
  | 9, h => cases h; exact am_ins_X9
  | 10, h => cases h; exact am_ins_X10
  | 11, h => cases h; exact am_ins_X11
  | 12, h => cases h; exact am_ins_X12
  | c + 13, h => exact absurd h (by simp [am_cl])
def am_ftb (z : Nat × Nat × Nat × Nat × Nat) : Bool := match z with
  | (o, ix, c, k, n) => match am_cl[c]? with
    | some q => decide (k < q.2.2) && (match n with
      | 0 => decide (Cond.fieldLink (am_ow o) ix (q.2.1 k).1 (q.2.1 k).2.1 (q.2.1 k).2.2.1 ∈ lw_tbl)
      | _ => decide (Cond.fieldLinkNest (am_ow o) ix (q.2.1 k).1 (q.2.1 k).2.1 (q.2.1 k).2.2.1 "AirZone" ∈ lw_tbl))
    | none => false
set_option maxRecDepth 100000 in
theorem am_ftk_0 : am_ft_0.all am_ftb = true := by decide +kernel
set_option maxRecDepth 100000 in
theorem am_ftk_1 : am_ft_1.all am_ftb = true := by decide +kernel
set_option maxRecDepth 100000 in
theorem am_ftk_2 : am_ft_2.all am_ftb = true := by decide +kernel
set_option maxRecDepth 100000 in
theorem am_ftk_3 : am_ft_3.all am_ftb = true := by decide +kernel
set_option maxRecDepth 100000 in
theorem am_ftk_4 : am_ft_4.all am_ftb = true := by decide +kernel
theorem am_ftk : ∀ z ∈ am_ft, am_ftb z = true := by
  intro z hz
  simp only [am_ft, List.mem_append] at hz
  rcases hz with h0 | h1 | h2 | h3 | h4
  · exact List.all_eq_true.mp am_ftk_0 z h0
  · exact List.all_eq_true.mp am_ftk_1 z h1
  · exact List.all_eq_true.mp am_ftk_2 z h2
  · exact List.all_eq_true.mp am_ftk_3 z h3
  · exact List.all_eq_true.mp am_ftk_4 z h4
theorem am_ntk : ∀ z ∈ am_nt, ∃ q, am_cl[z.2.2]? = some q ∧ Cond.classLink (am_ow z.1) z.2.1 q.1 ∈ lw_tbl := by
  have h : am_nt.all (fun z => match am_cl[z.2.2]? with | some q => decide (Cond.classLink (am_ow z.1) z.2.1 q.1 ∈ lw_tbl) | none => false) = true := by decide +kernel
  intro z hz
  have := List.all_eq_true.mp h z hz
  revert this
  cases am_cl[z.2.2]? with
  | none => intro h; cases h
  | some q => exact fun h => ⟨q, rfl, of_decide_eq_true h⟩
