/-! ===== length, charAt of a String constant ===== -/
theorem sS_blind {q v N : Nat} {f : Nat → Value} {as : List Value} : FrameBlind (va_Pc as (fun U => sS_ q v N f Z0_ U U.heap)) := fun a U g mk h => ⟨h.1, sS_.moved (u := U) (U := U.calling g mk a) (Vm.Alike.refl U.vm) h.2⟩
def sP_ (v N : Nat) (f : Nat → Value) (U : State) : Prop := va_T .byte v N f Z0_ U U.heap ∧ sF_ Z0_ U U.heap
theorem sP_blind {v N : Nat} {f : Nat → Value} {as : List Value} : FrameBlind (va_Pc as (fun U => sP_ v N f U)) := fun a U g mk h => ⟨h.1, va_T.moved (u := U) (U := U.calling g mk a) (Vm.Alike.refl U.vm) h.2.1, sF_.moved (u := U) (U := U.calling g mk a) (Vm.Alike.refl U.vm) h.2.2⟩
theorem sF_blind {as : List Value} : FrameBlind (va_Pc as (fun U => sF_ Z0_ U U.heap)) := fun a U g mk h => ⟨h.1, sF_.moved (u := U) (U := U.calling g mk a) (Vm.Alike.refl U.vm) h.2⟩
theorem sT_blind {as : List Value} : FrameBlind (va_Pc as (fun _ => True)) := fun a U g mk h => ⟨h.1, trivial⟩
set_option maxHeartbeats 4000000 in
set_option maxRecDepth 100000 in
theorem c_sl (l : Launch) (q v N : Nat) (hN : N < 2 ^ 31) (f : Nat → Value) : Met l y_sl w_sl ({ frames := 1, cells := 0, slots := 0, locals := 20 }) (va_Pc [.ref q] (fun U => sS_ q v N f Z0_ U U.heap)) (sq_ (nI N)) 0 0 Z0_ := by
  refine Met.ofW (cc := prog_17_method_54_code) (maxL := 1) (ret := some .int) (by decide) rfl ?_
  intro p e s m args below meth c s₁ B hml hv
  obtain ⟨rfl, hQ⟩ := hv
  have hx := B.exec
  have hb := B.bytes
  have hr := B.returns
  have hts := atoms_spec (ws := w_sl) B.pre
  have hown : s.vm.findClass "java/lang/String" = some m.cls := findClass_of_methodNamed B.named
  have hlocks := B.notSynchronized
  have hS : va_S Z0_ s.heap s.heap [] := va_S.rf
  have hl := lv_entry ([.ref q]) (n := 1) (Nat.le_of_ble_eq_true rfl)
  rw [lg_entry_eq]
  generalize (lg_sl ([.ref q]) ++ List.replicate (1 - (lg_sl ([.ref q])).length) Slot.unset).toArray = ls at hl ⊢
  have hl : lv_has ls 1 [(0, .ref q)] := hl
  refine lv_aload_n hx hb d_sl_0 rfl (lv_at hl 0 rfl) ?_
  refine vk_getf hx hb hQ.2.2.1 hS hown (hts (.fieldLink "java/lang/String" 9 "java/lang/String" "value" "[B") (by decide +kernel)) (fun _ h9 => h9) d_sl_1 ?_
  refine va_tlen (v := nI N) hx hb hQ.2.2.2.1 hS rfl d_sl_4 ?_
  refine lv_aload_n hx hb d_sl_5 rfl (lv_at hl 0 rfl) ?_
  obtain ⟨cell, o1, o2, o3, _⟩ := hQ.1
  refine sc_callq_ (r := 0) (va_runV (As := []) (rest := [.int (nI N)]) ⟨hx, hb, hml, hown, hts⟩ (c_co l q v N f) (cwV 0 hts g_sl_co rfl rfl rfl (by decide +kernel) ⟨Nat.le_of_ble_eq_true rfl, Nat.le_of_ble_eq_true rfl⟩) ⟨sS_blind, ⟨cell, o1, o2, o3⟩, fun U hU hW => ⟨rfl, by dsimp only; rw [hU]; exact sS_.moved hW.alike hQ⟩⟩ rfl rfl hl.1 rfl (lv_room (Nat.le_of_ble_eq_true rfl)) d_sl_6 ⟨Nat.zero_le _, Nat.zero_le _⟩) ?_
  refine lv_ishr hx hb d_sl_9 ?_
  rw [sc_shr0 hN]
  exact W.iret (v := nI N) hx hb hr (fun t ht hW => ⟨rfl, ht⟩) (fun _ h => by cases h) d_sl_10
set_option maxHeartbeats 4000000 in
set_option maxRecDepth 100000 in
theorem c_pc (l : Launch) (k N zb : Nat) (hk : k < N) (hN : N < 2 ^ 31) : Met l y_pc w_pc ({ frames := 0, cells := 0, slots := 0, locals := 0 }) (va_Pc [.int (nI k), .int (nI N), .ref zb] (fun _ => True)) (sq_ (nI k)) 0 0 Z0_ := by
  refine Met.ofW (cc := prog_21_method_11_code) (maxL := 3) (ret := some .int) (by decide) rfl ?_
  intro p e s m args below meth c s₁ B hml hv
  obtain ⟨rfl, hQ⟩ := hv
  have hx := B.exec
  have hb := B.bytes
  have hr := B.returns
  have hlocks := B.notSynchronized
  have hl := lv_entry ([.int (nI k), .int (nI N), .ref zb]) (n := 3) (Nat.le_of_ble_eq_true rfl)
  rw [lg_entry_eq]
  generalize (lg_sl ([.int (nI k), .int (nI N), .ref zb]) ++ List.replicate (3 - (lg_sl ([.int (nI k), .int (nI N), .ref zb])).length) Slot.unset).toArray = ls at hl ⊢
  have hl : lv_has ls 3 [(0, .int (nI k)), (1, .int (nI N)), (2, .ref zb)] := hl
  refine lv_iload_n hx hb d_pc_0 rfl (lv_at hl 0 rfl) ?_
  refine lv_if_lt (tgt := 9) hx hb d_pc_1 rfl (fun h => absurd h (nI_pos (by omega))) (fun _ => ?_)
  refine lv_iload_n hx hb d_pc_4 rfl (lv_at hl 0 rfl) ?_
  refine lv_iload_n hx hb d_pc_5 rfl (lv_at hl 1 rfl) ?_
  refine lv_icmp_lt (tgt := 16) hx hb d_pc_6 rfl (fun _ => ?_) (fun h => absurd (nI_lt hk (by omega)) h)
  refine lv_iload_n hx hb d_pc_16 rfl (lv_at hl 0 rfl) ?_
  exact W.iret (v := nI k) hx hb hr (fun t ht hW => ⟨rfl, ht⟩) (fun _ h => by cases h) d_pc_17
set_option maxHeartbeats 4000000 in
set_option maxRecDepth 100000 in
theorem c_pn (l : Launch) (k N : Nat) (hk : k < N) (hN : N < 2 ^ 31) : Met l y_pc w_pc ({ frames := 0, cells := 0, slots := 0, locals := 0 }) (va_Pc [.int (nI k), .int (nI N), .null] (fun _ => True)) (sq_ (nI k)) 0 0 Z0_ := by
  refine Met.ofW (cc := prog_21_method_11_code) (maxL := 3) (ret := some .int) (by decide) rfl ?_
  intro p e s m args below meth c s₁ B hml hv
  obtain ⟨rfl, hQ⟩ := hv
  have hx := B.exec
  have hb := B.bytes
  have hr := B.returns
  have hlocks := B.notSynchronized
  have hl := lv_entry ([.int (nI k), .int (nI N), .null]) (n := 3) (Nat.le_of_ble_eq_true rfl)
  rw [lg_entry_eq]
  generalize (lg_sl ([.int (nI k), .int (nI N), .null]) ++ List.replicate (3 - (lg_sl ([.int (nI k), .int (nI N), .null])).length) Slot.unset).toArray = ls at hl ⊢
  have hl : lv_has ls 3 [(0, .int (nI k)), (1, .int (nI N)), (2, .null)] := hl
  refine lv_iload_n hx hb d_pc_0 rfl (lv_at hl 0 rfl) ?_
  refine lv_if_lt (tgt := 9) hx hb d_pc_1 rfl (fun h => absurd h (nI_pos (by omega))) (fun _ => ?_)
  refine lv_iload_n hx hb d_pc_4 rfl (lv_at hl 0 rfl) ?_
  refine lv_iload_n hx hb d_pc_5 rfl (lv_at hl 1 rfl) ?_
  refine lv_icmp_lt (tgt := 16) hx hb d_pc_6 rfl (fun _ => ?_) (fun h => absurd (nI_lt hk (by omega)) h)
  refine lv_iload_n hx hb d_pc_16 rfl (lv_at hl 0 rfl) ?_
  exact W.iret (v := nI k) hx hb hr (fun t ht hW => ⟨rfl, ht⟩) (fun _ h => by cases h) d_pc_17
theorem c_pz (l : Launch) (k N : Nat) (zb : Value) (hz : zb = .null ∨ ∃ a, zb = .ref a) (hk : k < N) (hN : N < 2 ^ 31) : Met l y_pc w_pc ({ frames := 0, cells := 0, slots := 0, locals := 0 }) (va_Pc [.int (nI k), .int (nI N), zb] (fun _ => True)) (sq_ (nI k)) 0 0 Z0_ := by
  rcases hz with e | ⟨a, e⟩
  · subst e; exact c_pn l k N hk hN
  · subst e; exact c_pc l k N a hk hN
set_option maxHeartbeats 4000000 in
set_option maxRecDepth 100000 in
theorem c_ci (l : Launch) (k N : Nat) (hk : k < N) (hN : N < 2 ^ 31) : Met l y_ci w_ci ({ frames := 1, cells := 0, slots := 0, locals := 22 }) (va_Pc [.int (nI k), .int (nI N)] (fun U => sF_ Z0_ U U.heap)) sv_ 0 0 Z0_ := by
  refine Met.ofW (cc := prog_17_method_155_code) (maxL := 2) (ret := none) (by decide) rfl ?_
  intro p e s m args below meth c s₁ B hml hv
  obtain ⟨rfl, zb, hzb, hQ⟩ := hv
  have hx := B.exec
  have hb := B.bytes
  have hr := B.returns
  have hts := atoms_spec (ws := w_ci) B.pre
  have hown : s.vm.findClass "java/lang/String" = some m.cls := findClass_of_methodNamed B.named
  have hlocks := B.notSynchronized
  have hS : va_S Z0_ s.heap s.heap [] := va_S.rf
  have hl := lv_entry ([.int (nI k), .int (nI N)]) (n := 2) (Nat.le_of_ble_eq_true rfl)
  rw [lg_entry_eq]
  generalize (lg_sl ([.int (nI k), .int (nI N)]) ++ List.replicate (2 - (lg_sl ([.int (nI k), .int (nI N)])).length) Slot.unset).toArray = ls at hl ⊢
  have hl : lv_has ls 2 [(0, .int (nI k)), (1, .int (nI N))] := hl
  refine lv_iload_n hx hb d_ci_0 rfl (lv_at hl 0 rfl) ?_
  refine lv_iload_n hx hb d_ci_1 rfl (lv_at hl 1 rfl) ?_
  refine va_gets hx hb hQ hS hown (hts (.fieldLink "java/lang/String" 1053 "jdk/internal/util/Preconditions" "SIOOBE_FORMATTER" "Ljava/util/function/BiFunction;") (by decide +kernel)) (fun _ h9 => h9) d_ci_2 ?_
  refine sc_callq_ (r := nI k) (va_runS (As := [.int (nI k), .int (nI N), zb]) (rest := []) ⟨hx, hb, hml, hown, hts⟩ (c_pz l k N zb hzb hk hN) (va_cwS 3 hts g_ci_pc rfl rfl rfl (by decide +kernel) ⟨Nat.le_of_ble_eq_true rfl, Nat.le_of_ble_eq_true rfl⟩) ⟨sT_blind, fun U hU hW => ⟨rfl, trivial⟩⟩ rfl rfl hl.1 rfl (lv_room (Nat.le_of_ble_eq_true rfl)) d_ci_5 ⟨Nat.zero_le _, Nat.zero_le _⟩) ?_
  refine lv_pop hx hb d_ci_8 rfl ?_
  exact W.vret hx hb hr (fun t ht hW => ⟨rfl, ht⟩) (fun _ h => by cases h) d_ci_9
set_option maxHeartbeats 4000000 in
set_option maxRecDepth 100000 in
theorem c_lc (l : Launch) (v N : Nat) (f : Nat → Value) (k : Nat) (hk : k < N) (hN : N < 2 ^ 31) (bb : Int32) (hf : f k = .int bb) : Met l y_lc w_lc ({ frames := 2, cells := 0, slots := 0, locals := 43 }) (va_Pc [.ref v, .int (nI k)] (fun U => sP_ v N f U)) (sq_ (bb &&& 255)) 0 0 Z0_ := by
  refine Met.ofW (cc := prog_18_method_2_code) (maxL := 2) (ret := some .char) (by decide) rfl ?_
  intro p e s m args below meth c s₁ B hml hv
  obtain ⟨rfl, hQ⟩ := hv
  have hx := B.exec
  have hb := B.bytes
  have hr := B.returns
  have hts := atoms_spec (ws := w_lc) B.pre
  have hown : s.vm.findClass "java/lang/StringLatin1" = some m.cls := findClass_of_methodNamed B.named
  have hlocks := B.notSynchronized
  have hS : va_S Z0_ s.heap s.heap [] := va_S.rf
  have hl := lv_entry ([.ref v, .int (nI k)]) (n := 2) (Nat.le_of_ble_eq_true rfl)
  rw [lg_entry_eq]
  generalize (lg_sl ([.ref v, .int (nI k)]) ++ List.replicate (2 - (lg_sl ([.ref v, .int (nI k)])).length) Slot.unset).toArray = ls at hl ⊢
  have hl : lv_has ls 2 [(0, .ref v), (1, .int (nI k))] := hl
  refine lv_iload_n hx hb d_lc_0 rfl (lv_at hl 1 rfl) ?_
  refine lv_aload_n hx hb d_lc_1 rfl (lv_at hl 0 rfl) ?_
  refine va_tlen (v := nI N) hx hb hQ.1 hS rfl d_lc_2 ?_
  refine sc_callw_ (va_runS (As := [.int (nI k), .int (nI N)]) (rest := []) ⟨hx, hb, hml, hown, hts⟩ (c_ci l k N hk hN) (va_cwS 2 hts g_lc_ci rfl rfl rfl (by decide +kernel) ⟨Nat.le_of_ble_eq_true rfl, Nat.le_of_ble_eq_true rfl⟩) ⟨sF_blind, fun U hU hW => ⟨rfl, by dsimp only; rw [hU]; exact sF_.moved hW.alike hQ.2⟩⟩ rfl rfl hl.1 rfl (lv_room (Nat.le_of_ble_eq_true rfl)) d_lc_3 ⟨Nat.zero_le _, Nat.zero_le _⟩) ?_
  refine lv_aload_n hx hb d_lc_6 rfl (lv_at hl 0 rfl) ?_
  refine lv_iload_n hx hb d_lc_7 rfl (lv_at hl 1 rfl) ?_
  refine va_tb (v := .int bb) hx hb hQ.1 hS (vp_in_nI hk hN) (by rw [nI_clamp (by omega)]; exact hf) d_lc_8 ?_
  refine lv_sipush (v := 255) hx hb d_lc_9 (by decide) ?_
  refine lv_iand hx hb d_lc_12 ?_
  refine lv_i2c (v := bb &&& 255) hx hb d_lc_13 (sc_c2 bb) ?_
  exact W.zret (v := bb &&& 255) (ty := .char) hx hb hr (sc_nar bb) (fun t ht hW => ⟨rfl, ht⟩) (fun _ h => by cases h) d_lc_14
set_option maxHeartbeats 4000000 in
set_option maxRecDepth 100000 in
theorem c_ca (l : Launch) (q v N : Nat) (f : Nat → Value) (k : Nat) (hk : k < N) (hN : N < 2 ^ 31) (bb : Int32) (hf : f k = .int bb) : Met l y_ca w_ca ({ frames := 3, cells := 0, slots := 0, locals := 64 }) (va_Pc [.ref q, .int (nI k)] (fun U => sS_ q v N f Z0_ U U.heap)) (sq_ (bb &&& 255)) 0 0 Z0_ := by
  refine Met.ofW (cc := prog_17_method_56_code) (maxL := 2) (ret := some .char) (by decide) rfl ?_
  intro p e s m args below meth c s₁ B hml hv
  obtain ⟨rfl, hQ⟩ := hv
  have hx := B.exec
  have hb := B.bytes
  have hr := B.returns
  have hts := atoms_spec (ws := w_ca) B.pre
  have hown : s.vm.findClass "java/lang/String" = some m.cls := findClass_of_methodNamed B.named
  have hlocks := B.notSynchronized
  have hS : va_S Z0_ s.heap s.heap [] := va_S.rf
  have hl := lv_entry ([.ref q, .int (nI k)]) (n := 2) (Nat.le_of_ble_eq_true rfl)
  rw [lg_entry_eq]
  generalize (lg_sl ([.ref q, .int (nI k)]) ++ List.replicate (2 - (lg_sl ([.ref q, .int (nI k)])).length) Slot.unset).toArray = ls at hl ⊢
  have hl : lv_has ls 2 [(0, .ref q), (1, .int (nI k))] := hl
  obtain ⟨cell, o1, o2, o3, _⟩ := hQ.1
  refine lv_aload_n hx hb d_ca_0 rfl (lv_at hl 0 rfl) ?_
  refine sc_callq_ (r := 1) (va_runV (As := []) (rest := []) ⟨hx, hb, hml, hown, hts⟩ (c_la l q v N f) (cwV 0 hts g_ca_la rfl rfl rfl (by decide +kernel) ⟨Nat.le_of_ble_eq_true rfl, Nat.le_of_ble_eq_true rfl⟩) ⟨sS_blind, ⟨cell, o1, o2, o3⟩, fun U hU hW => ⟨rfl, by dsimp only; rw [hU]; exact sS_.moved hW.alike hQ⟩⟩ rfl rfl hl.1 rfl (lv_room (Nat.le_of_ble_eq_true rfl)) d_ca_1 ⟨Nat.zero_le _, Nat.zero_le _⟩) ?_
  refine lv_if_eq (tgt := 16) hx hb d_ca_4 rfl (fun h => absurd h (by decide)) (fun _ => ?_)
  refine lv_aload_n hx hb d_ca_7 rfl (lv_at hl 0 rfl) ?_
  refine vk_getf hx hb hQ.2.2.1 hS hown (hts (.fieldLink "java/lang/String" 9 "java/lang/String" "value" "[B") (by decide +kernel)) (fun _ h9 => h9) d_ca_8 ?_
  refine lv_iload_n hx hb d_ca_11 rfl (lv_at hl 1 rfl) ?_
  refine sc_callq_ (r := bb &&& 255) (va_runS (As := [.ref v, .int (nI k)]) (rest := []) ⟨hx, hb, hml, hown, hts⟩ (c_lc l v N f k hk hN bb hf) (va_cwS 2 hts g_ca_lc rfl rfl rfl (by decide +kernel) ⟨Nat.le_of_ble_eq_true rfl, Nat.le_of_ble_eq_true rfl⟩) ⟨sP_blind, fun U hU hW => ⟨rfl, by rw [hU]; exact va_T.moved hW.alike hQ.2.2.2.1, by rw [hU]; exact sF_.moved hW.alike hQ.2.2.2.2.2⟩⟩ rfl rfl hl.1 rfl (lv_room (Nat.le_of_ble_eq_true rfl)) d_ca_12 ⟨Nat.zero_le _, Nat.zero_le _⟩) ?_
  exact W.zret (v := bb &&& 255) (ty := .char) hx hb hr (sc_nar bb) (fun t ht hW => ⟨rfl, ht⟩) (fun _ h => by cases h) d_ca_15
