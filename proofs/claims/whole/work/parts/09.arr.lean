/-! ===== arrays, new cells ===== -/
theorem am_nar2 {y : Int32} (h : y = 0 ∨ y = 1) : vp_nar .boolean y = y := by
  rcases h with h | h <;> rw [h] <;> rfl
section AMA
variable {p : Program} {l : Launch} {e : Env} {R : Room} {s : State} {m : MethodId} {args : Array Value} {below : List Frame} {meth : Method} {c : Code} {Qf : State → Prop} {g : am_G} {own i n0 n1 : Nat}
/-- a new cell stands where it must -/
theorem am_newW (hg : am_gok g) (hsz : s.heap.size = am_B g + n0) {pc : Nat} {ls : List (Option Value)} {r : List Value} {w : am_W} {sh : Nat × Nat} (hsh : am_SH[w.1]? = some sh) (h : am_AW p l e R s m args below meth c Qf g i n0 n1 pc ls (.ref w.1 :: r) (am_nw w)) (hn : n0 ≤ w.1) (hlt1 : w.1 < n1) {q : Nat} {E : va_E} {H1 : Heap} {locs : List Loc} {lsr : Array Slot} (hE : am_ce g (am_nw w) w.1 sh = E)
    (hP1 : va_P g.2.1 am_cl (am_wl g w ++ [(q, E)]) H1) (hD1 : va_D (am_A g) (am_wl g w ++ [(q, E)])) (hS1 : va_S (am_A g) s.heap H1 locs) (hl : am_lv g lsr (am_nL i) ls) {z : Nat} (hz : am_sz sh = z) : W p l e R s m args below meth c H1 locs (w.1 - n0 + 1) (am_ss w.1 - am_ss n0 + z) Qf (F0 m pc lsr (.ref q :: r.map (am_cv g))) := by
  intro T hT X
  have hlt : w.1 < 168 := by have := (List.getElem?_eq_some_iff.mp hsh).1; rw [am_len] at this; exact this
  have hlen : (am_wl g w).length = w.1 := am_wl_len (by omega)
  have hat : (am_wl g w ++ [(q, E)])[w.1]? = some (q, E) := by rw [List.getElem?_append_right (by omega), hlen, Nat.sub_self]; rfl
  have h1 := X.heapSize
  rw [hT, hsz] at h1
  have hq1 : q < H1.size := (hP1 w.1 _ hat).lt
  have hq0 : am_B g ≤ q := hD1.2 w.1 _ hat
  have hq : q = am_B g + w.1 := by
    refine Nat.le_antisymm (by omega) (Nat.le_of_not_lt fun hq2 => ?_)
    have hk : q - am_B g < w.1 := by omega
    have hl2 : q - am_B g < (am_wl g w).length := by omega
    have hg2 := List.getElem?_eq_getElem hl2
    obtain ⟨-, h168, sh2, -, he⟩ := am_wl_get hg2
    have hx : (am_wl g w ++ [(q, E)])[q - am_B g]? = some (am_wl g w)[q - am_B g] := by rw [List.getElem?_append_left hl2]; exact hg2
    have := hD1.1 _ _ _ _ hx hat (by rw [he]; show am_ad g _ = q; rw [hg.ad _ h168]; omega)
    omega
  have hqa : q = am_ad g w.1 := by rw [hg.ad _ hlt]; exact hq
  subst hqa
  rw [← hE, ← am_wl_push hsh] at hP1
  have hss := am_ss_succ hsh
  have hm := am_ss_mono hn
  have e1 : w.1 - n0 + 1 = (am_nw w).1 - n0 := by show _ = w.1 + 1 - n0; omega
  have e2 : am_ss w.1 - am_ss n0 + z = am_ss (am_nw w).1 - am_ss n0 := by show _ = am_ss (w.1 + 1) - _; omega
  exact am_goW hg hsz h (by show n0 ≤ w.1 + 1 ∧ w.1 + 1 ≤ n1; omega) (by show w.1 + 1 ≤ 168; omega) hP1 hS1 hl e1 e2 T hT X
theorem am_cA_of {t : Nat} {ty : FieldType} (hg : am_gok g) (hal : g.1.WarmedH s.vm) (ht : (am_tys g)[t]? = some (am_cA g t, ty)) {cA : ClassId} {k : Nat} {tys : List (ClassId × FieldType)} (hk : va_K g.2.1 am_cl tys s) (hq : tys[k]? = some (cA, ty)) : cA = am_cA g t := by
  have h1 := ((hg.1.moved hal.alike).2 t _ ht).2
  have h2 := (hk.2 k _ hq).2
  cases ty with
  | object C =>
    obtain ⟨_, _, -, -, -, h3⟩ := h1
    obtain ⟨_, _, -, -, -, h4⟩ := h2
    exact Option.some.inj (h4.symm.trans h3)
  | _ => exact Option.some.inj (Eq.trans (Eq.symm h2) h1)
theorem am_fv_nw {g : am_G} {w : am_W} {T : Nat → FieldType} {N : Nat} (h : ∀ k, k < N → am_tk (T k) ≠ 9) : ∀ j, j < N → defaultValue (T j) = vp_V (am_fv g (am_nw w) w.1 0 ((List.range N).map fun k => am_tk (T k))) j := by
  intro j hj
  have h1 : ((List.range N).map fun k => am_tk (T k))[j]? = some (am_tk (T j)) := by simp [hj]
  have h2 := am_fv_get (g := g) (w := am_nw w) (x := w.1) _ 0 j _ h1
  rw [Nat.zero_add] at h2
  unfold vp_V
  rw [List.getD_eq_getElem?_getD, h2]
  show _ = am_v1 g (am_nw w) w.1 j (am_tk (T j))
  have g1 : am_gi (am_nw w) w.1 j = 0 := by simp [am_gi, am_nw, am_z]
  have g2 : am_gl (am_nw w) w.1 j = 0 := by simp [am_gl, am_nw, am_z]
  have g3 : am_gr (am_nw w) w.1 j = none := by simp [am_gr, am_nw, am_z]
  have h9 := h j hj
  revert h9
  cases T j <;> intro h9 <;> simp [am_tk] at h9 <;> simp [am_tk, am_v1, g1, g2, g3, va_rf, defaultValue]
theorem am_no9 : ∀ (c : Nat) (q : vw_C), am_cl[c]? = some q → ∀ k, k < q.2.2 → am_tk (am_tyf c k) ≠ 9 := by
  have hall : ∀ c, c < 13 → ∀ q, am_cl[c]? = some q → ((List.range q.2.2).all fun k => am_tk (am_tyf c k) != 9) = true := by
    intro c hc q hq
    match c, hq with
    | 0, h => cases h; decide +kernel
    | 1, h => cases h; decide +kernel
    | 2, h => cases h; decide +kernel
    | 3, h => cases h; decide +kernel
    | 4, h => cases h; decide +kernel
    | 5, h => cases h; decide +kernel
    | 6, h => cases h; decide +kernel
    | 7, h => cases h; decide +kernel
    | 8, h => cases h; decide +kernel
    | 9, h => cases h; decide +kernel
    | 10, h => cases h; decide +kernel
    | 11, h => cases h; decide +kernel
    | 12, h => cases h; decide +kernel
    | c + 13, _ => omega
  intro c q hq k hk
  have hc : c < 13 := (List.getElem?_eq_some_iff.mp hq).1
  have := List.all_eq_true.mp (hall c hc q hq) k (List.mem_range.mpr hk)
  simpa using this
set_option maxHeartbeats 4000000 in
theorem am_s_h (C : am_ctx p s m args meth c g own i n0) (hRm : n1 - n0 ≤ R.cells ∧ am_ss n1 - am_ss n0 ≤ R.slots) {ini : Bool} (hini : ini = true → (am_y i).name = "<init>") {rt : Option FieldType} {M : am_M} {pc nx k a b : Nat} {v : Int32} {d : Instr × Nat} (hd : decode (am_cc i) pc = .ok d) (hn : nx = pc + d.2) (hc : am_dec own ini rt (am_nL i) M (pc, nx, k, a, b, v) d = true) {ls : List (Option Value)} {st : List Value} {w : am_W}
    (h : am_xh n1 nx k a b st w fun pc st w => am_AW p l e R s m args below meth c Qf g i n0 n1 pc ls st w) : am_AW p l e R s m args below meth c Qf g i n0 n1 pc ls st w := by
  have C0 := C
  obtain ⟨hx, hb, hml, hown, hts, hlk, hrt, hnm, hg, hal, hsz, hlo⟩ := C
  have hK := hg.1.moved hal.alike
  subst hn
  unfold am_xh at h
  split at h
  · -- 41
    simp only [am_dec] at hc
    split at hc
    · split at h
      · simp only [Bool.or_eq_true, decide_eq_true_eq] at hc
        rcases hc with hc | hc
        · exact am_s_get C0 hd hc h.1 h.2
        · exact am_s_get C0 hd hc h.1 h.2
      · exact h.elim
    · cases hc
  · -- 42
    simp only [am_dec] at hc
    split at hc
    · split at h
      · simp only [Bool.or_eq_true, Bool.and_eq_true, decide_eq_true_eq, Bool.not_eq_true'] at hc
        rcases hc with ⟨hc, h2⟩ | ⟨hc, h2⟩
        · exact am_s_put C0 hd hc (h2.imp id fun q => ⟨rfl, hini q.1, q.2⟩) h.1 h.2
        · exact am_s_put C0 hd hc (Or.inl h2) h.1 h.2
      · exact h.elim
    · cases hc
  · -- 43
    obtain rfl := of_decide_eq_true hc
    split at h
    · intro hn0 H locs lsr hR hS hl
      obtain ⟨n, hat, hin, k⟩ := h
      exact va_iald hx hb hK hR.2.2 _ 0 (am_wl_at (g := g) hat) rfl hin hd (k hn0 H locs lsr hR hS hl)
    · exact h.elim
  · -- 44
    obtain rfl := of_decide_eq_true hc
    split at h
    · intro hn0 H locs lsr hR hS hl
      obtain ⟨n, hat, hin, k⟩ := h
      rcases hat with hat | hat
      · exact va_bald hx hb hK hR.2.2 _ 1 (am_wl_at (g := g) hat) rfl hin hd (k hn0 H locs lsr hR hS hl)
      · exact va_zald hx hb hK hR.2.2 _ 2 (am_wl_at (g := g) hat) rfl hin hd (k hn0 H locs lsr hR hS hl)
    · exact h.elim
  · -- 45
    obtain rfl := of_decide_eq_true hc
    split at h
    · intro hn0 H locs lsr hR hS hl
      obtain ⟨n, hat, hin, k⟩ := h
      exact va_lald hx hb hK hR.2.2 _ 3 (am_wl_at (g := g) hat) rfl hin hd (k hn0 H locs lsr hR hS hl)
    · exact h.elim
  · -- 46
    obtain rfl := of_decide_eq_true hc
    split at h
    · next j x r =>
      intro hn0 H locs lsr hR hS hl
      obtain ⟨n, hat, hin, k⟩ := h
      refine va_aldq hx hb hK hR.2.2 x 4 (am_wl_at (g := g) hat) rfl hin hd ?_
      rcases k with ⟨y, hy, k⟩ | ⟨hy, k⟩
      · have e1 : va_rf ((w.2.2.2 x j.toNatClampNeg).map (am_ad g)) = am_cv g (.ref y) := by rw [show w.2.2.2 x j.toNatClampNeg = some y from hy]; rfl
        show W p l e R s m args below meth c H locs _ _ Qf (F0 m _ lsr (va_rf ((w.2.2.2 x j.toNatClampNeg).map (am_ad g)) :: _))
        rw [e1]
        exact k hn0 H locs lsr hR hS hl
      · have e1 : va_rf ((w.2.2.2 x j.toNatClampNeg).map (am_ad g)) = am_cv g .null := by rw [show w.2.2.2 x j.toNatClampNeg = none from hy]; rfl
        show W p l e R s m args below meth c H locs _ _ Qf (F0 m _ lsr (va_rf ((w.2.2.2 x j.toNatClampNeg).map (am_ad g)) :: _))
        rw [e1]
        exact k hn0 H locs lsr hR hS hl
    · exact h.elim
  · -- 47
    obtain rfl := of_decide_eq_true hc
    split at h
    · next y j x r =>
      intro hn0 H locs lsr hR hS hl
      obtain ⟨n, hat, hin, k⟩ := h
      refine va_iast hx hb hK hR.2.2 (am_D hg w) hS x 0 (am_wl_at (g := g) hat) rfl hin hd fun H1 locs1 hP1 _ hS1 => ?_
      rw [am_wl_set (w1 := am_si w x j.toNatClampNeg y) hat rfl (fun y sh hy => am_si_o y sh hy) (by show (Sum.inl (am_cA g 0, n, .inl (am_u w.2.1 x j.toNatClampNeg y x)) : va_E) = _; rw [am_u_eq])] at hP1
      exact am_goW hg hsz k hn0 hR.2.1 hP1 hS1 hl rfl rfl
    · exact h.elim
  · -- 48
    obtain rfl := of_decide_eq_true hc
    split at h
    · next y j x r =>
      intro hn0 H locs lsr hR hS hl
      obtain ⟨n, hin, k⟩ := h
      rcases k with ⟨hat, k⟩ | ⟨hat, h01, k⟩
      · refine va_bast hx hb hK hR.2.2 (am_D hg w) hS x 1 (am_wl_at (g := g) hat) rfl hin hd fun H1 locs1 hP1 _ hS1 => ?_
        rw [am_wl_set (w1 := am_si w x j.toNatClampNeg y.toInt8.toInt32) hat rfl (fun y sh hy => am_si_o y sh hy) (by show (Sum.inl (am_cA g 1, n, .inl (am_u w.2.1 x j.toNatClampNeg y.toInt8.toInt32 x)) : va_E) = _; rw [am_u_eq, vp_nar_byte])] at hP1
        exact am_goW hg hsz k hn0 hR.2.1 hP1 hS1 hl rfl rfl
      · refine va_zast hx hb hK hR.2.2 (am_D hg w) hS x 2 (am_wl_at (g := g) hat) rfl hin hd fun H1 locs1 hP1 _ hS1 => ?_
        rw [am_wl_set (w1 := am_si w x j.toNatClampNeg y) hat rfl (fun y sh hy => am_si_o y sh hy) (by show (Sum.inl (am_cA g 2, n, .inl (am_u w.2.1 x j.toNatClampNeg y x)) : va_E) = _; rw [am_u_eq, am_nar2 h01])] at hP1
        exact am_goW hg hsz k hn0 hR.2.1 hP1 hS1 hl rfl rfl
    · exact h.elim
  · -- 49
    obtain rfl := of_decide_eq_true hc
    split at h
    · next y j x r =>
      intro hn0 H locs lsr hR hS hl
      obtain ⟨n, hat, hin, k⟩ := h
      refine va_last hx hb hK hR.2.2 (am_D hg w) hS x 3 (am_wl_at (g := g) hat) rfl hin hd fun H1 locs1 hP1 _ hS1 => ?_
      rw [am_wl_set (w1 := am_sl w x j.toNatClampNeg y) hat rfl (fun y sh hy => am_sl_o y sh hy) (by show (Sum.inl (am_cA g 3, n, .inr (.inl (am_u w.2.2.1 x j.toNatClampNeg y x))) : va_E) = _; rw [am_u_eqL])] at hP1
      exact am_goW hg hsz k hn0 hR.2.1 hP1 hS1 hl rfl rfl
    · exact h.elim
  · -- 50
    obtain rfl := of_decide_eq_true hc
    split at h
    · next y j x r =>
      intro hn0 H locs lsr hR hS hl
      obtain ⟨n, hat, haty, hin, k⟩ := h
      have hey : (am_wl g w)[y]? = some (am_ad g y, .inr (4, am_fv g w y 0 (am_KD.getD 4 []))) := am_wl_at (g := g) haty
      refine va_astq (r := (RX4, TX4, 13)) hx hb hK hR.2.2 (am_D hg w) hS x 4 y 4 (am_wl_at (g := g) hat) rfl hey rfl hin hd fun H1 locs1 hP1 _ hS1 => ?_
      rw [am_wl_set (w1 := am_sr w x j.toNatClampNeg (some y)) hat rfl (fun y sh hy => am_sr_o y sh hy) (by
        show (Sum.inl (am_cA g 4, n, .inr (.inr (.inr (.inr (fun q => (am_u w.2.2.2 x j.toNatClampNeg (some y) x q).map (am_ad g)))))) : va_E) = _
        congr 7
        funext q
        by_cases hq : q = j.toNatClampNeg
        · simp [am_u, va_up, hq]
        · simp [am_u, va_up, hq])] at hP1
      exact am_goW hg hsz k hn0 hR.2.1 hP1 hS1 hl rfl rfl
    · exact h.elim
  · -- 51
    obtain rfl := of_decide_eq_true hc
    split at h
    · next x r =>
      intro hn0 H locs lsr hR hS hl
      obtain ⟨t, n, hat, ht, k⟩ := h
      have he := am_wl_at (g := g) hat
      match t, ht, he with
      | 0, _, he => exact va_alen hx hb hK hR.2.2 x 0 he rfl rfl hd (k hn0 H locs lsr hR hS hl)
      | 1, _, he => exact va_alen hx hb hK hR.2.2 x 1 he rfl rfl hd (k hn0 H locs lsr hR hS hl)
      | 2, _, he => exact va_alen hx hb hK hR.2.2 x 2 he rfl rfl hd (k hn0 H locs lsr hR hS hl)
      | 3, _, he => exact va_alen hx hb hK hR.2.2 x 3 he rfl rfl hd (k hn0 H locs lsr hR hS hl)
      | 4, _, he => exact va_alen hx hb hK hR.2.2 x 4 he rfl rfl hd (k hn0 H locs lsr hR hS hl)
      | t + 5, ht, _ => omega
    · exact h.elim
  · -- 52
    simp only [am_dec] at hc
    split at hc
    · next ix =>
      obtain ⟨⟨hsh, hlt⟩, k⟩ := h
      intro hn0 H locs lsr hR hS hl
      obtain ⟨⟨CC, T, N⟩, hcq, hcl⟩ := am_ntk _ (of_decide_eq_true hc)
      have hcq : am_cl[a]? = some (CC, T, N) := hcq
      have hin := am_insT a _ hcq
      have hKD := am_kdq a _ hcq
      have hsz1 : am_sz (5, a) = N := by unfold am_sz; rw [if_pos rfl]; exact am_kd_len hcq
      have hss := am_ss_succ hsh
      have hm := am_ss_mono hn0.1
      have hm2 := am_ss_mono (show w.1 + 1 ≤ n1 from hlt)
      rw [hsz1] at hss
      refine va_new (ci := a) (fs := am_fv g (am_nw w) w.1 0 (am_KD.getD a [])) hx hb hts (am_layT a _ hcq) (am_tyf a) (am_tok a _ hcq) hown (hts _ (am_tb_in hcl rfl)) (hts _ hin.1) (hts _ hin.2) hK hR.2.2 (am_D hg w) hS (fun q hq => by show am_B g ≤ q; omega) hcq (by rw [hKD]; exact am_fv_nw (am_no9 a _ hcq)) (by have := hRm.1; have := hn0.1; omega) (by have := hRm.2; show am_ss w.1 - am_ss n0 + N ≤ R.slots; have hss : am_ss (w.1 + 1) = am_ss w.1 + N := hss; omega) hd fun q H1 hP1 hD1 hS1 => ?_
      exact am_newW hg hsz hsh k hn0.1 hlt rfl hP1 hD1 hS1 hl hsz1
    · cases hc
  · -- 53
    split at h
    · next n r =>
      obtain ⟨⟨hsh, h4, hlt, hneg⟩, k⟩ := h
      intro hn0 H locs lsr hR hS hl
      have hss := am_ss_succ hsh
      have hsz1 : am_sz (a, n.toNatClampNeg) = n.toNatClampNeg := by unfold am_sz; rw [if_neg (by show ¬ a = 5; omega)]
      have hm := am_ss_mono hn0.1
      have hm2 := am_ss_mono (show w.1 + 1 ≤ n1 from hlt)
      rw [hsz1] at hss
      have hbig : am_ss n1 ≤ 100000 := by
        have h1 : am_ss n1 ≤ am_ss 168 := by
          by_cases hq : n1 ≤ 168
          · exact am_ss_mono hq
          · unfold am_ss; rw [List.take_of_length_le (by rw [am_len]; omega), List.take_of_length_le (by rw [am_len]; omega)]; exact Nat.le_refl _
        exact Nat.le_trans h1 (by decide +kernel)
      have hA : ∀ q, s.heap.size ≤ q → am_A g q := fun q hq => by show am_B g ≤ q; omega
      have hce : w.1 - n0 + 1 ≤ R.cells := by have := hRm.1; have := hn0.1; omega
      have hsl : am_ss w.1 - am_ss n0 + n.toNatClampNeg ≤ R.slots := by have := hRm.2; have := hn0.1; omega
      have hlen5 : (am_tys g).length = 5 := rfl
      simp only [am_dec] at hc
      split at hc
      · obtain rfl := of_decide_eq_true hc
        refine va_newa (atype := .int) (ty := .int) (a0 := (n.toNatClampNeg, .inl fun _ => 0)) hx hb (hts _ am_arr_words.1) rfl hK hR.2.2 (am_D hg w) hS hA (fun cA => rfl) hneg rfl (by show _ * 4 ≤ _; omega) hce hsl hd fun q cA H1 hK1 hP1 hD1 hS1 => ?_
        have hcA := am_cA_of (t := 0) (k := 5) hg hal rfl hK1 rfl
        subst hcA
        exact am_newW hg hsz hsh k hn0.1 hlt (by show (Sum.inl (am_cA g 0, _, .inl (am_z w.2.1 w.1 0 w.1)) : va_E) = _; congr 4; funext j; simp [am_z]) hP1 hD1 hS1 hl hsz1
      · obtain rfl := of_decide_eq_true hc
        refine va_newa (atype := .byte) (ty := .byte) (a0 := (n.toNatClampNeg, .inl fun _ => 0)) hx hb (hts _ am_arr_words.2.1) rfl hK hR.2.2 (am_D hg w) hS hA (fun cA => rfl) hneg rfl (by show _ * 1 ≤ _; omega) hce hsl hd fun q cA H1 hK1 hP1 hD1 hS1 => ?_
        have hcA := am_cA_of (t := 1) (k := 5) hg hal rfl hK1 rfl
        subst hcA
        exact am_newW hg hsz hsh k hn0.1 hlt (by show (Sum.inl (am_cA g 1, _, .inl (am_z w.2.1 w.1 0 w.1)) : va_E) = _; congr 4; funext j; simp [am_z]) hP1 hD1 hS1 hl hsz1
      · obtain rfl := of_decide_eq_true hc
        refine va_newa (atype := .boolean) (ty := .boolean) (a0 := (n.toNatClampNeg, .inl fun _ => 0)) hx hb (hts _ am_arr_words.2.2.1) rfl hK hR.2.2 (am_D hg w) hS hA (fun cA => rfl) hneg rfl (by show _ * 1 ≤ _; omega) hce hsl hd fun q cA H1 hK1 hP1 hD1 hS1 => ?_
        have hcA := am_cA_of (t := 2) (k := 5) hg hal rfl hK1 rfl
        subst hcA
        exact am_newW hg hsz hsh k hn0.1 hlt (by show (Sum.inl (am_cA g 2, _, .inl (am_z w.2.1 w.1 0 w.1)) : va_E) = _; congr 4; funext j; simp [am_z]) hP1 hD1 hS1 hl hsz1
      · obtain rfl := of_decide_eq_true hc
        refine va_newa (atype := .long) (ty := .long) (a0 := (n.toNatClampNeg, .inr (.inl fun _ => 0))) hx hb (hts _ am_arr_words.2.2.2.1) rfl hK hR.2.2 (am_D hg w) hS hA (fun cA => rfl) hneg rfl (by show _ * 8 ≤ _; omega) hce hsl hd fun q cA H1 hK1 hP1 hD1 hS1 => ?_
        have hcA := am_cA_of (t := 3) (k := 5) hg hal rfl hK1 rfl
        subst hcA
        exact am_newW hg hsz hsh k hn0.1 hlt (by show (Sum.inl (am_cA g 3, _, .inr (.inl (am_z w.2.2.1 w.1 0 w.1))) : va_E) = _; congr 5; funext j; simp [am_z]) hP1 hD1 hS1 hl hsz1
      · cases hc
    · exact h.elim
  · -- 54
    split at h
    · next n r =>
      obtain ⟨⟨hsh, hlt, hneg⟩, k⟩ := h
      intro hn0 H locs lsr hR hS hl
      have hss := am_ss_succ hsh
      have hsz1 : am_sz (4, n.toNatClampNeg) = n.toNatClampNeg := by unfold am_sz; rw [if_neg (by show ¬ 4 = 5; omega)]
      have hm := am_ss_mono hn0.1
      have hm2 := am_ss_mono (show w.1 + 1 ≤ n1 from hlt)
      rw [hsz1] at hss
      have hbig : am_ss n1 ≤ 100000 := by
        have h1 : am_ss n1 ≤ am_ss 168 := by
          by_cases hq : n1 ≤ 168
          · exact am_ss_mono hq
          · unfold am_ss; rw [List.take_of_length_le (by rw [am_len]; omega), List.take_of_length_le (by rw [am_len]; omega)]; exact Nat.le_refl _
        exact Nat.le_trans h1 (by decide +kernel)
      have hA : ∀ q, s.heap.size ≤ q → am_A g q := fun q hq => by show am_B g ≤ q; omega
      simp only [am_dec] at hc
      split at hc
      · next ix =>
        obtain ⟨⟨CC, T, N⟩, hcq, hcl⟩ := am_ntk _ (of_decide_eq_true hc)
        cases hcq
        refine va_newq (C := "AirZone$Orders") (N' := n.toNatClampNeg) hx hb hown (hts _ (am_tb_in hcl rfl)) (hts _ am_arr_words.2.2.2.2) hK hR.2.2 (am_D hg w) hS hA hneg rfl (by omega) (by have := hRm.1; have := hn0.1; omega) (by have := hRm.2; have := hn0.1; omega) hd fun q cA H1 hK1 hP1 hD1 hS1 => ?_
        have hcA := am_cA_of (t := 4) (k := 5) hg hal rfl hK1 rfl
        subst hcA
        exact am_newW hg hsz hsh k hn0.1 hlt (by show (Sum.inl (am_cA g 4, _, .inr (.inr (.inr (.inr (fun q => (am_z w.2.2.2 w.1 none w.1 q).map (am_ad g)))))) : va_E) = _; congr 7; funext j; simp [am_z]) hP1 hD1 hS1 hl hsz1
      · cases hc
    · exact h.elim
  · exact h.elim
end AMA
