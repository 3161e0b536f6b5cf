def R_law : String := "AirZoneLaw"
def lw_P (b : Addr) (xs : List Int32) (args : Array Value) (s : State) : Prop := args = #[.ref b] ∧ s.IntsAt b xs ∧ xs.length ≤ 3584 ∧ (Jvm.Cond.and given_1 narrow_1).before args s = true
def lw_Q (_ : Array Value) (s : State) (o : Outcome) (t : State) : Prop := o = .returned (some (.int 1)) ∧ Framed s o t [] 600000 7302250
def lw_Z (below : List Frame) (a : Array Value) (s : State) : State → Prop := fun t => ∃ o, t.status = .running ∧ Ended t below o ∧ lw_Q a s o t
/-- the law's own end, with 1 on the stack, nothing written that was there before, its room as the claim has it -/
theorem lw_ret {p : Program} {l : Launch} {e : Env} {s : State} {m : MethodId} {below : List Frame} {meth : Method} {c : Code} {b : Nat} (hx : p.tables.exec = Jvm.exec) (hb : c.code = code) (hr : meth.sig.returnType = ret) (hlocks : meth.locks = false) {pc : Nat} {H : Heap} {ls : Array Slot} (hdg : decode code pc = .ok (.ireturn, 1)) : W p l e room_1 s m #[Value.ref b] below meth c H [] 600000 7302250 (lw_Z below #[Value.ref b] s) (F0 m pc ls [.int 1]) := by
  intro T hT X
  obtain ⟨fs, hret, hrun, hended, hW, hframe⟩ := X.leave (v := some (.int 1)) (hlocks := hlocks) (fun h => by rw [hr] at h; cases h)
  have hmeth' : T.vm.method? m = some meth := X.method'
  refine ⟨T.setFrames fs, ?_, .returned (some (.int 1)), hrun, hended, rfl, ⟨_, rfl⟩, hW, hframe⟩
  jvm_step X.here [X.here.top, hx, hb, hdg, hmeth', hr, ret, narrow_b1]
  (try refine ⟨rfl, ?_⟩); (try refine ⟨rfl, ?_⟩)
  first | (intro acts; rw [hret _ acts rfl rfl rfl]) | rw [hret _ _ rfl rfl rfl]
  exact Steps.refl _
/-- what holds at the law's entry: the machine, the code, the tables' words (any of lw_tbl by 'hts w (by decide +kernel)'), the script of L ints xs at the cell b, what the Statement gives of the start (any of its parts by flat_of_before) -/
def lw_At (p : Program) (s : State) (m : MethodId) (meth : Method) (c : Code) (b L : Nat) (xs : Nat → Int32) : Prop :=
  p.tables.exec = Jvm.exec ∧ c.code = code ∧ meth.sig.returnType = ret ∧ c.maxLocals = 4 ∧ s.vm.findClass R_law = some m.cls ∧ (∀ w ∈ lw_tbl, w.before #[Value.ref b] s = true) ∧ va_X b L xs s s.heap ∧ b < s.heap.size ∧ meth.locks = false ∧ (Jvm.Cond.and given_1 narrow_1).before #[Value.ref b] s = true
/-- the empty world -/
def am_w0 : am_W := (0, fun _ _ => 0, fun _ _ => 0, fun _ _ => none)
theorem am_ss_168 : am_ss 168 ≤ 100000 := by decide +kernel
set_option maxHeartbeats 4000000 in
/-- THE LAW: what the abstract machine does with its rows, the machine does -/
theorem am_lawW {p : Program} {e : Env} {s : State} {m : MethodId} {below : List Frame} {meth : Method} {c : Code} (l : Launch) {b L : Nat} {xs : Nat → Int32} (C0 : lw_At p s m meth c b L xs) {g : am_G} (hg : am_gok g) (hgs : g.1 = s) (hb0 : am_ad g 1000 = b) {M : am_M} {SP : am_S} (hok : am_mok 20 301 M = true) (h55 : am_m55 M = true)
    (hcal : ∀ q ∈ M.1, q.2.2.1 = 55 ∨ q.2.2.1 = 61 → ∃ d1, d1 < 1399 ∧ am_Met l g d1 q.2.2.2.1 (SP q.2.2.2.1)) (hrefs : ∀ q ∈ M.1, q.2.2.1 = 61 → ∀ as w K, SP q.2.2.2.1 as w K → ∃ x t, as = .ref x :: t) (hX9 : am_ext l SP g 20) (hr63 : (M.1.all fun q => !(q.2.2.1 == 56 || q.2.2.1 == 58 || q.2.2.1 == 59)) = true)
    (hT : am_T M SP 168 (fun y _ => y = some (.int 1)) 0 [some (.ref 1000), none, none, none] [] am_w0) : W p l e room_1 s m #[Value.ref b] below meth c s.heap [] 0 0 (lw_Z below #[Value.ref b] s) (entryFrame m ([Value.ref b] : List Value).toArray 4) := by
  obtain ⟨hx, hb, hr, hml, hown, hts, hXs, hbl, hlocks, hgv⟩ := C0
  have hB : am_B g = s.heap.size := by unfold am_B; rw [hgs]
  have hwrm : g.1.WarmedH s.vm := by rw [hgs]; exact State.WarmedH.refl s
  have C : am_ctx p s m #[Value.ref b] meth c g 20 301 0 := ⟨hx, hb, hml, hown, am_words hg hwrm _, hlocks, hr, fun hq => absurd hq (by decide +kernel), hg, hwrm, by rw [hB]; rfl, fun q _ => by rw [hgs]⟩
  unfold am_mok at hok
  rw [Bool.and_eq_true, List.all_eq_true] at hok
  obtain ⟨hcl, hrows⟩ := hok
  have hl := lv_entry ([Value.ref b]) (n := 4) (Nat.le_of_ble_eq_true rfl)
  rw [lg_entry_eq]
  generalize (lg_sl ([Value.ref b]) ++ List.replicate (4 - (lg_sl ([Value.ref b])).length) Slot.unset).toArray = ls at hl ⊢
  have hlv : am_lv g ls (am_nL 301) [some (.ref 1000), none, none, none] := by
    refine ⟨hl.1, hl.2.1, fun i v hi => ?_⟩
    match i, hi with
    | 0, hi =>
      cases hi
      show ls[0]? = some (.val (.ref (am_ad g 1000)))
      rw [hb0]
      exact hl.2.2 (0, .ref b) List.mem_cons_self
    | 1, hi => cases hi
    | 2, hi => cases hi
    | 3, hi => cases hi
    | k + 4, hi => simp at hi
  have hss := am_ss_168
  have hz0 : am_ss 0 = 0 := rfl
  have hms0 : am_ss 168 = am_ss 0 + am_ss 168 := by rw [hz0, Nat.zero_add]
  have hsl : am_ss 168 ≤ 7302250 := Nat.le_trans hss (Nat.le_of_ble_eq_true rfl)
  have hR0 : 1399 + 1 ≤ room_1.frames ∧ 60 * (1399 + 1) ≤ room_1.locals ∧ 168 ≤ room_1.cells ∧ am_ss 168 ≤ room_1.slots := ⟨Nat.le_of_ble_eq_true rfl, Nat.le_of_ble_eq_true rfl, Nat.le_of_ble_eq_true rfl, hsl⟩
  have key := hT (am_AW p l e room_1 s m #[Value.ref b] below meth c (lw_Z below #[Value.ref b] s) g 301 0 168) ?_
  · have k := key ⟨Nat.le_refl _, Nat.zero_le _⟩ s.heap [] ls ⟨by rw [hB]; rfl, Nat.zero_le _, fun k q h => by simp [am_wl, am_w0] at h⟩ va_S.rf hlv
    have e1 : am_w0.1 - 0 = 0 := rfl
    have e2 : am_ss am_w0.1 - am_ss 0 = 0 := rfl
    rw [e1, e2] at k
    have e3 : ([Value.ref 1000].map (am_cv g)) = [Value.ref b] := by show [Value.ref (am_ad g 1000)] = _; rw [hb0]
    exact k
  · intro pc l1 st w1 h
    unfold am_stp at h
    split at h
    · exact h.elim
    · next q hq =>
      obtain ⟨hmem, hpc⟩ := am_find_some hq
      have hrow := hrows q hmem
      have hcal := hcal q hmem
      have hrefs := hrefs q hmem
      have h55 := List.all_eq_true.mp h55 q hmem
      have hr63 := List.all_eq_true.mp hr63 q hmem
      obtain ⟨pc', nx, k, a, b', v⟩ := q
      have hpc : pc' = pc := hpc
      subst hpc
      unfold am_row at hrow
      split at hrow
      · next dd hdd =>
        rw [Bool.and_eq_true] at hrow
        obtain ⟨hnx, hdec⟩ := hrow
        have hnx : nx = pc' + dd.2 := of_decide_eq_true hnx
        have hdd : decode (am_cc 301) pc' = .ok dd := hdd
        unfold am_x at h
        split at h
        · exact am_s_p C hdd hnx hdec h
        · exact am_s_j C hdd hnx hdec h
        · exact am_s_h (R := room_1) C ⟨Nat.le_of_ble_eq_true rfl, Nat.le_trans (Nat.sub_le _ _) hsl⟩ (fun q => by simpa using q) hdd hnx hdec h
        · refine am_s_c (R := room_1) C (d0 := 1399) (mc := 168) (ms := am_ss 168) hR0 (Nat.zero_add 168).symm hms0 hdd hnx hdec hcal (fun q => ?_) (fun q as w K hh => hrefs q as w K hh) hX9 (fun _ => Nat.le_of_ble_eq_true rfl) (fun hk4 h => ?_) h
          · have q : k = 55 := q
            subst q
            simpa using h55
          · have hk63 : k = 63 := by
              rcases hk4 with q | q | q | q
              · subst q; simp at hr63
              · exact q
              · subst q; simp at hr63
              · subst q; simp at hr63
            subst hk63
            simp only [am_dec, Bool.and_eq_true, decide_eq_true_eq] at hdec
            obtain ⟨rfl, hr1⟩ := hdec
            unfold am_xc at h
            simp only at h
            split at h
            · next y =>
              intro hn0 H locs lsr hR hS hl2
              obtain ⟨hw, h01, hk⟩ := h
              cases hk
              refine va_forget (fun q hq => by have := hS.2.2 q hq; rw [← hB]; exact this) ?_
              refine W.widen (k := 600000) (n := 7302250) (by omega) ?_ ?_
              · have h1 : am_ss w1.1 ≤ am_ss 168 := am_ss_mono hn0.2
                exact Nat.le_trans (Nat.sub_le _ _) (Nat.le_trans h1 (Nat.le_trans hss (Nat.le_of_ble_eq_true rfl)))
              · exact lw_ret hx hb hr hlocks hdd
            · exact h.elim
      · cases hrow
