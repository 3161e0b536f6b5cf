/-! ===== the Strings of the start ===== -/
theorem okw_good {w : Cond} (h : goodWord w = true) : am_okw w = true := by
  unfold am_okw
  split
  · rfl
  · rfl
  · rfl
  · exact h
theorem gi_tb {ws : List Cond} (ps : List Nat) (hp : ws.filter k2_isCode = ps.filterMap (fun i => lw_tbl[i]?)) (h : (ws.filter (fun w => !k2_isCode w)).all (fun w => decide (w ∈ lw_tbl) && goodWord w) = true) : GoodIn am_TB ws := by
  have g := goodIn_p (big := lw_tbl) ws ps hp h
  intro w hw
  refine ⟨am_tb_in (g w hw).1 ?_, (g w hw).2⟩
  by_cases hc : k2_isCode w = true
  · cases w <;> first | (simp [k2_isCode] at hc; done) | rfl
  · have h1 := List.all_eq_true.mp h w (List.mem_filter.mpr ⟨hw, by simpa using hc⟩)
    simp only [Bool.and_eq_true, decide_eq_true_eq] at h1
    exact okw_good h1.2
set_option maxRecDepth 100000 in
theorem g_tb_sl : GoodIn am_TB (wsV "AirZone$Text" 152 "java/lang/String" y_sl w_sl) := gi_tb [713, 717] rfl (by decide +kernel)
set_option maxRecDepth 100000 in
theorem g_tb_ca : GoodIn am_TB (wsV "AirZone$Text" 156 "java/lang/String" y_ca w_ca) := gi_tb [723, 727, 730, 733, 738] rfl (by decide +kernel)
theorem am_ow8 : am_ow 8 = "AirZone$Text" := by decide +kernel
theorem am_ix3 {ix : Nat} (h : (8, ix, 903) ∈ am_st) : ix = 152 := by
  simp only [am_st, List.mem_cons, List.not_mem_nil, or_false, Prod.mk.injEq] at h
  omega
theorem am_ix4 {ix : Nat} (h : (8, ix, 904) ∈ am_st) : ix = 156 := by
  simp only [am_st, List.mem_cons, List.not_mem_nil, or_false, Prod.mk.injEq] at h
  omega
theorem sS_at {g : am_G} {q v N : Nat} {f : Nat → Value} (h : sS_ q v N f (am_A g) g.1 g.1.heap) {s : State} (hal : g.1.WarmedH s.vm) {H : Heap} (hH : ∀ a, a < am_B g → H[a]? = g.1.heap[a]?) : sS_ q v N f Z0_ s H := by
  refine ((sS_.moved hal.alike h).kept fun a ha hA => hH a ?_).narrow (fun q hq => hq.elim)
  exact ha
set_option maxHeartbeats 4000000 in
theorem vs_len (l : Launch) {g : am_G} {k q v N : Nat} {f : Nat → Value} (hN : N < 2 ^ 31) (hq : am_ad g k = q) (h : sS_ q v N f (am_A g) g.1 g.1.heap) : am_vs l g 8 903 [.ref k] (nI N) := by
  intro p e R s m args below meth c Qf i n0 d0 ix pc H locs lsr cells slots r C h4 hrm hcl hd hst hht hS hsz hW
  obtain ⟨hx, hb, hml, hown, hts, hlk, hrt, hnm, hg, hal, hsz0, hlo⟩ := C
  have hix := am_ix3 hst
  subst hix
  rw [am_ow8] at hown
  have hlow : ∀ a, a < am_B g → H[a]? = g.1.heap[a]? := fun a ha => (hS.2.1 a (by omega) (fun z => by have z : am_B g ≤ a := z; omega)).trans (hlo a ha)
  have hQ := sS_at h hal hlow
  obtain ⟨cell, o1, o2, o3, _⟩ := hQ.1
  have hW8 : 2 * (F0 m pc lsr ((([.ref k] : List Value).reverse ++ r).map (am_cv g))).monitorRoom + ((r.map (am_cv g)).map fun v => v.category).sum ≤ 8 := lv_room (by rw [am_ht_map]; exact hht)
  refine sc_callq_ (r := nI N) (va_runV (b := q) (As := []) (rest := r.map (am_cv g)) ⟨hx, hb, hml, hown, hts⟩ (c_sl l q v N hN f) (cwV 0 hts g_tb_sl rfl rfl rfl (by decide +kernel) ⟨?_, ?_⟩) ⟨sS_blind, ⟨cell, o1, o2, o3⟩, fun U hU hW => ⟨rfl, ?_⟩⟩ rfl rfl hsz ?_ hW8 hd hcl) hW
  · show 1 + 1 ≤ R.frames
    omega
  · show 8 + (1 + 11) + 20 ≤ R.locals
    omega
  · dsimp only
    rw [hU]
    exact sS_.moved hW.alike hQ
  · show am_cv g (.ref k) :: r.map (am_cv g) = _
    show Value.ref (am_ad g k) :: r.map (am_cv g) = _
    rw [hq]
    rfl
set_option maxHeartbeats 4000000 in
theorem vs_chr (l : Launch) {g : am_G} {k q v N : Nat} {f : Nat → Value} (hN : N < 2 ^ 31) (hq : am_ad g k = q) (h : sS_ q v N f (am_A g) g.1 g.1.heap) {j : Nat} (hj : j < N) {bb : Int32} (hf : f j = .int bb) : am_vs l g 8 904 [.ref k, .int (nI j)] (bb &&& 255) := by
  intro p e R s m args below meth c Qf i n0 d0 ix pc H locs lsr cells slots r C h4 hrm hcl hd hst hht hS hsz hW
  obtain ⟨hx, hb, hml, hown, hts, hlk, hrt, hnm, hg, hal, hsz0, hlo⟩ := C
  have hix := am_ix4 hst
  subst hix
  rw [am_ow8] at hown
  have hlow : ∀ a, a < am_B g → H[a]? = g.1.heap[a]? := fun a ha => (hS.2.1 a (by omega) (fun z => by have z : am_B g ≤ a := z; omega)).trans (hlo a ha)
  have hQ := sS_at h hal hlow
  obtain ⟨cell, o1, o2, o3, _⟩ := hQ.1
  have hW8 : 2 * (F0 m pc lsr ((([.ref k, .int (nI j)] : List Value).reverse ++ r).map (am_cv g))).monitorRoom + ((r.map (am_cv g)).map fun v => v.category).sum ≤ 8 := lv_room (by rw [am_ht_map]; exact hht)
  refine sc_callq_ (r := bb &&& 255) (va_runV (b := q) (As := [.int (nI j)]) (rest := r.map (am_cv g)) ⟨hx, hb, hml, hown, hts⟩ (c_ca l q v N f j hj hN bb hf) (cwV 1 hts g_tb_ca rfl rfl rfl (by decide +kernel) ⟨?_, ?_⟩) ⟨sS_blind, ⟨cell, o1, o2, o3⟩, fun U hU hW => ⟨rfl, ?_⟩⟩ rfl rfl hsz ?_ hW8 hd hcl) hW
  · show 3 + 1 ≤ R.frames
    omega
  · show 8 + (2 + 11) + 64 ≤ R.locals
    omega
  · dsimp only
    rw [hU]
    exact sS_.moved hW.alike hQ
  · show Value.int (nI j) :: Value.ref (am_ad g k) :: r.map (am_cv g) = _
    rw [hq]
    rfl
