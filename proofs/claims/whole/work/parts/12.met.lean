/-! ===== a method that the abstract machine runs is met ===== -/
theorem am_find_some {pc : Nat} : ∀ {l : List am_Row} {q : am_Row}, am_find pc l = some q → q ∈ l ∧ q.1 = pc
  | [], _, h => by cases h
  | r :: l, q, h => by
    unfold am_find at h
    cases hb : Nat.beq r.1 pc with
    | true =>
      rw [hb] at h
      cases h
      exact ⟨List.mem_cons_self, Nat.eq_of_beq_eq_true hb⟩
    | false =>
      rw [hb] at h
      have := am_find_some (l := l) h
      exact ⟨List.mem_cons_of_mem _ this.1, this.2⟩
theorem am_ea_len {g : am_G} : ∀ (vs : List Value), (lg_sl (vs.map (am_cv g))).length = (am_ea vs).length
  | [] => rfl
  | v :: r => by
    have ih := am_ea_len (g := g) r
    have h1 : lg_sl ((v :: r).map (am_cv g)) = (if (am_cv g v).category = 2 then [Slot.val (am_cv g v), .second] else [Slot.val (am_cv g v)]) ++ lg_sl (r.map (am_cv g)) := rfl
    rw [h1, am_cv_cat, List.length_append, ih]
    cases v with
    | long x => show 2 + _ = (am_ea r).length + 1 + 1; omega
    | double x => show 2 + _ = (am_ea r).length + 1 + 1; omega
    | int x => show 1 + _ = (am_ea r).length + 1; omega
    | float x => show 1 + _ = (am_ea r).length + 1; omega
    | null => show 1 + _ = (am_ea r).length + 1; omega
    | ref x => show 1 + _ = (am_ea r).length + 1; omega
    | retAddr x => show 1 + _ = (am_ea r).length + 1; omega
/-- calls of ordinary methods make nothing -/
def am_m55 (M : am_M) : Bool := M.1.all fun q => !(q.2.2.1 == 55) || (am_mc q.2.2.2.1 == 0 && am_ms q.2.2.2.1 == 0)
set_option maxHeartbeats 4000000 in
theorem am_sound {l : Launch} {g : am_G} (hg : am_gok g) {d i own : Nat} {M : am_M} {S : List Value → am_W → (Option Value → am_W → Prop) → Prop} {SP : am_S} (hpl : plainName (am_y i).cls = true) (hok : am_mok own i M = true) (h55 : am_m55 M = true)
    (hcal : ∀ q ∈ M.1, q.2.2.1 = 55 ∨ q.2.2.1 = 61 → ∃ d1, d1 < d ∧ am_Met l g d1 q.2.2.2.1 (SP q.2.2.2.1)) (hrefs : ∀ q ∈ M.1, q.2.2.1 = 61 → ∀ as w K, SP q.2.2.2.1 as w K → ∃ x t, as = .ref x :: t)
    (hX9 : am_ext l SP g own) (h66 : (M.1.all fun q => !(q.2.2.1 == 66 || q.2.2.1 == 67)) = true ∨ 4 ≤ d) (hlen : ∀ as w K, S as w K → (am_ea as).length ≤ am_nL i) (hT : ∀ as w K, S as w K → am_T M SP (w.1 + am_mc i) K 0 (am_ent (am_nL i) as) [] w) : am_Met l g d i S := by
  intro as w K hS hfit
  unfold am_mok at hok
  rw [Bool.and_eq_true, List.all_eq_true] at hok
  obtain ⟨hcl, hrows⟩ := hok
  have hcl := of_decide_eq_true hcl
  refine Met.ofW (cc := am_cc i) (maxL := am_nL i) (ret := am_rt i) hpl rfl ?_
  intro p e s m args below meth c s₁ B hml hv
  obtain ⟨rfl, hin⟩ := hv
  have hown : s.vm.findClass (am_ow own) = some m.cls := by rw [← hcl]; exact findClass_of_methodNamed B.named
  have hwrm : g.1.WarmedH s.vm := hin.1
  have C : am_ctx p s m (as.map (am_cv g)).toArray meth c g own i w.1 := ⟨B.exec, B.bytes, hml, hown, am_words hg hwrm _, B.notSynchronized, B.returns, (fun hq => ((name_of_methodNamed B.named B.method).1).trans hq), hg, hwrm, hin.2.2.1, hin.2.1⟩
  have hl := lv_entry (as.map (am_cv g)) (n := am_nL i) (by rw [am_ea_len]; exact hlen as w K hS)
  rw [lg_entry_eq]
  generalize (lg_sl (as.map (am_cv g)) ++ List.replicate (am_nL i - (lg_sl (as.map (am_cv g))).length) Slot.unset).toArray = ls at hl ⊢
  have key := hT as w K hS (am_AW p l e (headSpec (am_wm i) (am_room d i)).room s m (as.map (am_cv g)).toArray below meth c (MQ below (am_Q g K (w.1 + am_mc i)) (as.map (am_cv g)).toArray s (am_mc i) (am_ms i) (am_A g)) g i w.1 (w.1 + am_mc i)) ?_
  · have k := key ⟨Nat.le_refl _, Nat.le_add_right _ _⟩ s.heap [] ls hin.2.2 va_S.rf (am_lv_ent hl)
    rw [Nat.sub_self, Nat.sub_self] at k
    exact k
  · intro pc l1 st w1 h
    unfold am_stp at h
    split at h
    · exact h.elim
    · next q hq =>
      obtain ⟨hmem, hpc⟩ := am_find_some hq
      have hrow := hrows q hmem
      have hcal := hcal q hmem
      have hrefs := hrefs q hmem
      have h55 := List.all_eq_true.mp h55 q hmem
      obtain ⟨pc', nx, k, a, b, v⟩ := q
      have hpc : pc' = pc := hpc
      subst hpc
      unfold am_row at hrow
      split at hrow
      · next dd hdd =>
        rw [Bool.and_eq_true] at hrow
        obtain ⟨hnx, hdec⟩ := hrow
        have hnx : nx = pc' + dd.2 := of_decide_eq_true hnx
        have hdd : decode (am_cc i) pc' = .ok dd := hdd
        unfold am_x at h
        split at h
        · exact am_s_p C hdd hnx hdec h
        · exact am_s_j C hdd hnx hdec h
        · exact am_s_h C ⟨by show w.1 + am_mc i - w.1 ≤ am_mc i; omega, by show am_ss (w.1 + am_mc i) - am_ss w.1 ≤ am_ms i; omega⟩ (fun q => by simpa using q) hdd hnx hdec h
        · refine am_s_c C (d0 := d) (mc := am_mc i) (ms := am_ms i) ⟨Nat.le_refl _, Nat.le_refl _, Nat.le_refl _, Nat.le_refl _⟩ rfl hfit hdd hnx hdec hcal (fun q => ?_) (fun q as w K hh => hrefs q as w K hh) hX9 (fun hk6 => by
            rcases h66 with h66 | h66
            · have h66 := List.all_eq_true.mp h66 _ hmem
              rcases hk6 with hk6 | hk6 <;> · subst hk6; simp at h66
            · exact h66) (fun hk4 h => am_s_r C rfl hfit rfl hdd hdec hk4 h) h
          have q : k = 55 := q
          subst q
          simpa using h55
      · cases hrow
