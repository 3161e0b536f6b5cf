/-! ===== fields, arrays and new cells ===== -/
theorem am_ss_succ {n : Nat} {sh : Nat × Nat} (h : am_SH[n]? = some sh) : am_ss (n + 1) = am_ss n + am_sz sh := by
  unfold am_ss
  rw [List.take_succ, h]
  simp
theorem am_ss_step (n : Nat) : am_ss n ≤ am_ss (n + 1) := by
  unfold am_ss
  rw [List.take_succ]
  simp
theorem am_ss_mono {n k : Nat} (h : n ≤ k) : am_ss n ≤ am_ss k := by
  induction k with
  | zero => rw [Nat.le_zero.mp h]; exact Nat.le_refl _
  | succ k ih =>
    by_cases hk : n ≤ k
    · exact Nat.le_trans (ih hk) (am_ss_step k)
    · rw [show n = k + 1 by omega]; exact Nat.le_refl _
theorem am_arr_words0 : Cond.arrayClass .int ∈ lw_tbl ∧ Cond.arrayClass .byte ∈ lw_tbl ∧ Cond.arrayClass .boolean ∈ lw_tbl ∧ Cond.arrayClass .long ∈ lw_tbl ∧ Cond.arrayOver (.object "AirZone$Orders") ∈ lw_tbl := by decide +kernel
theorem am_arr_words : Cond.arrayClass .int ∈ am_TB ∧ Cond.arrayClass .byte ∈ am_TB ∧ Cond.arrayClass .boolean ∈ am_TB ∧ Cond.arrayClass .long ∈ am_TB ∧ Cond.arrayOver (.object "AirZone$Orders") ∈ am_TB :=
  ⟨am_tb_in am_arr_words0.1 rfl, am_tb_in am_arr_words0.2.1 rfl, am_tb_in am_arr_words0.2.2.1 rfl, am_tb_in am_arr_words0.2.2.2.1 rfl, am_tb_in am_arr_words0.2.2.2.2 rfl⟩
theorem am_layT (c : Nat) (q : vw_C) (hc : am_cl[c]? = some q) : ∀ w ∈ u_ws q.1 q.2.1 q.2.2, w ∈ am_TB := by
  intro w hw
  refine am_tb_in (am_lay c q hc w hw) ?_
  unfold u_ws at hw
  obtain ⟨k, -, rfl⟩ := List.mem_map.mp hw
  unfold u_lay
  split <;> rfl
theorem am_insT (c : Nat) (q : vw_C) (hc : am_cl[c]? = some q) : Cond.instantiable q.1 q.2.2 ∈ am_TB ∧ Cond.initialized q.1 ∈ am_TB := ⟨am_tb_in (am_ins c q hc).1 rfl, am_tb_in (am_ins c q hc).2 rfl⟩
theorem am_kd_get {c k : Nat} {q : vw_C} (hc : am_cl[c]? = some q) (hk : k < q.2.2) : (am_KD.getD c [])[k]? = some (am_kd c k) ∧ am_kd c k = am_tk (am_tyf c k) := by
  have h := am_kdq c q hc
  have h1 : (am_KD.getD c [])[k]? = some (am_tk (am_tyf c k)) := by
    rw [h]
    simp [hk]
  have h2 : am_kd c k = am_tk (am_tyf c k) := by
    unfold am_kd
    rw [List.getD_eq_getElem?_getD, h1]
    rfl
  exact ⟨by rw [h1, h2], h2⟩
theorem am_kd_len {c : Nat} {q : vw_C} (hc : am_cl[c]? = some q) : (am_KD.getD c []).length = q.2.2 := by
  rw [am_kdq c q hc]
  simp
theorem am_v1_si {g : am_G} {w : am_W} {x b : Nat} {y : Int32} {i e : Nat} (h : i ≠ b) : am_v1 g (am_si w x b y) x i e = am_v1 g w x i e := by
  have : am_gi (am_si w x b y) x i = am_gi w x i := am_u_at (fun q => h q.2)
  unfold am_v1
  rw [this]
  rfl
theorem am_v1_sl {g : am_G} {w : am_W} {x b : Nat} {y : Int64} {i e : Nat} (h : i ≠ b) : am_v1 g (am_sl w x b y) x i e = am_v1 g w x i e := by
  have : am_gl (am_sl w x b y) x i = am_gl w x i := am_u_at (fun q => h q.2)
  unfold am_v1
  rw [this]
  rfl
theorem am_v1_sr {g : am_G} {w : am_W} {x b : Nat} {y : Option Nat} {i e : Nat} (h : i ≠ b) : am_v1 g (am_sr w x b y) x i e = am_v1 g w x i e := by
  have : am_gr (am_sr w x b y) x i = am_gr w x i := am_u_at (fun q => h q.2)
  unfold am_v1
  rw [this]
  rfl
/-- a field is written: the world of it -/
theorem am_wl_put {g : am_G} {w w1 : am_W} {x a b : Nat} {q : vw_C} {v : Value} (hat : am_at w x (5, a)) (hc : am_cl[a]? = some q) (hk : b < q.2.2) (hn : w1.1 = w.1) (ho : ∀ y sh, y ≠ x → am_ce g w1 y sh = am_ce g w y sh) (hf : ∀ i e, i ≠ b → am_v1 g w1 x i e = am_v1 g w x i e) (hv : am_v1 g w1 x b (am_kd a b) = v) :
    (am_wl g w).set x (am_ad g x, .inr (a, (am_fv g w x 0 (am_KD.getD a [])).set b v)) = am_wl g w1 := by
  refine am_wl_set hat hn ho ?_
  have h1 := am_fv_set (g := g) (w := w) (w1 := w1) (x := x) (v := v) (am_KD.getD a []) 0 b (am_kd a b) (am_kd_get hc hk).1 (fun i e hi => hf i e (by omega)) (by rw [Nat.zero_add]; exact hv)
  rw [h1]
  rfl
theorem am_ft_use {own ix a b nest : Nat} (h : (own, ix, a, b, nest) ∈ am_ft) : ∃ (C : String) (T : u_T) (N : Nat), am_cl[a]? = some (C, T, N) ∧ b < N ∧ am_fld a b = T b ∧ ((nest = 0 ∧ Cond.fieldLink (am_ow own) ix (T b).1 (T b).2.1 (T b).2.2.1 ∈ am_TB) ∨ (¬ nest = 0 ∧ Cond.fieldLinkNest (am_ow own) ix (T b).1 (T b).2.1 (T b).2.2.1 "AirZone" ∈ am_TB)) := by
  have hq := am_ftk _ h
  simp only [am_ftb] at hq
  split at hq
  · next q hcq =>
    obtain ⟨C, T, N⟩ := q
    rw [Bool.and_eq_true] at hq
    refine ⟨C, T, N, hcq, of_decide_eq_true hq.1, by unfold am_fld; rw [hcq], ?_⟩
    have h2 := hq.2
    split at h2
    · exact Or.inl ⟨rfl, am_tb_in (of_decide_eq_true h2) rfl⟩
    · next hne => exact Or.inr ⟨hne, am_tb_in (of_decide_eq_true h2) rfl⟩
  · cases hq
theorem am_tk0 {t : FieldType} (h : am_tk t = 0) : t = .int := by cases t <;> simp [am_tk] at h <;> rfl
theorem am_tk1 {t : FieldType} (h : am_tk t = 1) : t = .long := by cases t <;> simp [am_tk] at h <;> rfl
theorem am_tk2 {t : FieldType} (h : am_tk t = 2) : (∃ n, t = .object n) ∨ ∃ u, t = .array u := by
  cases t with
  | object n => exact Or.inl ⟨n, rfl⟩
  | array u => exact Or.inr ⟨u, rfl⟩
  | _ => simp [am_tk] at h
theorem am_tk3 {t : FieldType} (h : am_tk t = 3) : t = .boolean := by cases t <;> simp [am_tk] at h <;> rfl
section AMH
variable {p : Program} {l : Launch} {e : Env} {R : Room} {s : State} {m : MethodId} {args : Array Value} {below : List Frame} {meth : Method} {c : Code} {Qf : State → Prop} {g : am_G} {own i n0 n1 : Nat}
/-- a world that the heap holds goes on, whatever its size was said to be -/
theorem am_goW (hg : am_gok g) (hsz : s.heap.size = am_B g + n0) {pc : Nat} {ls : List (Option Value)} {st : List Value} {w1 : am_W} (h : am_AW p l e R s m args below meth c Qf g i n0 n1 pc ls st w1) (hn : n0 ≤ w1.1 ∧ w1.1 ≤ n1) (hw : w1.1 ≤ 168) {H1 : Heap} {locs1 : List Loc} {lsr : Array Slot} (hP1 : va_P g.2.1 am_cl (am_wl g w1) H1) (hS1 : va_S (am_A g) s.heap H1 locs1) (hl : am_lv g lsr (am_nL i) ls) {ce sl : Nat} (hce : ce = w1.1 - n0) (hsl : sl = am_ss w1.1 - am_ss n0) : W p l e R s m args below meth c H1 locs1 ce sl Qf (F0 m pc lsr (st.map (am_cv g))) := by
  subst hce; subst hsl
  intro T hT X
  have h1 := X.heapSize
  rw [hT, hsz] at h1
  have hn2 := hn.1
  have h2 := am_low hg hw (by have := hS1.1; omega) hP1
  exact h hn H1 locs1 lsr ⟨by omega, hw, hP1⟩ hS1 hl T hT X
set_option maxHeartbeats 4000000 in
theorem am_s_get (C : am_ctx p s m args meth c g own i n0) {pc ix a b nest : Nat} (hd : decode (am_cc i) pc = .ok (.getfield ix, 3)) (hft : (own, ix, a, b, nest) ∈ am_ft) {ls : List (Option Value)} {x : Nat} {r : List Value} {w : am_W} (hat : am_at w x (5, a))
    (h : am_fg (am_kd a b) w x b fun v => am_AW p l e R s m args below meth c Qf g i n0 n1 (pc + 3) ls (v :: r) w) : am_AW p l e R s m args below meth c Qf g i n0 n1 pc ls (.ref x :: r) w := by
  obtain ⟨hx, hb, hml, hown, hts, hlk, hrt, hnm, hg, hal, hsz, hlo⟩ := C
  intro hn0 H locs lsr hR hS hl
  have hK := hg.1.moved hal.alike
  obtain ⟨CC, T, N, hcq, hk, -, hlink⟩ := am_ft_use hft
  have he : (am_wl g w)[x]? = some (am_ad g x, .inr (a, am_fv g w x 0 (am_KD.getD a []))) := am_wl_at (g := g) hat
  have hv := am_fv_get (g := g) (w := w) (x := x) (am_KD.getD a []) 0 b _ (am_kd_get hcq hk).1
  rw [Nat.zero_add] at hv
  have go : ∀ v, am_v1 g w x b (am_kd a b) = am_cv g v → am_AW p l e R s m args below meth c Qf g i n0 n1 (pc + 3) ls (v :: r) w → W p l e R s m args below meth c H locs (w.1 - n0) (am_ss w.1 - am_ss n0) Qf (F0 m pc lsr (.ref (am_ad g x) :: r.map (am_cv g))) := by
    intro v hv1 h1
    rw [hv1] at hv
    have k := h1 hn0 H locs lsr hR hS hl
    rcases hlink with ⟨-, hlink⟩ | ⟨-, hlink⟩
    · exact va_get hx hb hts (am_layT a _ hcq) hown hK hR.2.2 x he hcq b hk (hts _ hlink) (fun _ h => h) hv hd k
    · exact va_getN hx hb hts (am_layT a _ hcq) hown hK hR.2.2 x he hcq b hk (hts _ hlink) (fun _ h => h) hv hd k
  unfold am_fg at h
  split at h
  · next hkd => exact go _ (by rw [hkd]; rfl) h
  · next hkd => exact go _ (by rw [hkd]; rfl) h
  · next hkd =>
    rcases h with ⟨y, hy, h⟩ | ⟨hy, h⟩
    · exact go _ (by rw [hkd]; show va_rf ((am_gr w x b).map (am_ad g)) = _; rw [hy]; rfl) h
    · exact go _ (by rw [hkd]; show va_rf ((am_gr w x b).map (am_ad g)) = _; rw [hy]; rfl) h
  · next hkd => exact go _ (by rw [hkd]; rfl) h
  · exact h.elim
set_option maxHeartbeats 4000000 in
theorem am_s_put (C : am_ctx p s m args meth c g own i n0) {pc ix a b nest : Nat} (hd : decode (am_cc i) pc = .ok (.putfield ix, 3)) (hft : (own, ix, a, b, nest) ∈ am_ft) (hfin : (am_fld a b).2.2.2 = false ∨ (nest = 0 ∧ (am_y i).name = "<init>" ∧ (am_fld a b).1 = am_ow own)) {ls : List (Option Value)} {x : Nat} {v : Value} {r : List Value} {w : am_W} (hat : am_at w x (5, a))
    (h : am_fp (am_kd a b) w x b v fun w1 => am_AW p l e R s m args below meth c Qf g i n0 n1 (pc + 3) ls r w1) : am_AW p l e R s m args below meth c Qf g i n0 n1 pc ls (v :: .ref x :: r) w := by
  obtain ⟨hx, hb, hml, hown, hts, hlk, hrt, hnm, hg, hal, hsz, hlo⟩ := C
  intro hn0 H locs lsr hR hS hl
  have hK := hg.1.moved hal.alike
  obtain ⟨CC, T, N, hcq, hk, hfe, hlink⟩ := am_ft_use hft
  have he : (am_wl g w)[x]? = some (am_ad g x, .inr (a, am_fv g w x 0 (am_KD.getD a []))) := am_wl_at (g := g) hat
  have hty := am_tok a _ hcq b hk
  have hkt := (am_kd_get hcq hk).2
  have hlen : b < (am_fv g w x 0 (am_KD.getD a [])).length := by rw [am_fv_len, am_kd_len hcq]; exact hk
  have go : ∀ (u : Value) (w1 : am_W), narrow (am_tyf a b) u = u → fits (am_tyf a b) u = true → w1.1 = w.1 → (∀ y sh, y ≠ x → am_ce g w1 y sh = am_ce g w y sh) → (∀ i e, i ≠ b → am_v1 g w1 x i e = am_v1 g w x i e) → am_v1 g w1 x b (am_kd a b) = u → am_AW p l e R s m args below meth c Qf g i n0 n1 (pc + 3) ls r w1 → W p l e R s m args below meth c H locs (w.1 - n0) (am_ss w.1 - am_ss n0) Qf (F0 m pc lsr (u :: .ref (am_ad g x) :: r.map (am_cv g))) := by
    intro u w1 hn hf hw1 ho hfo hu h1
    have hset := am_wl_put (g := g) hat hcq hk hw1 ho hfo hu
    have kk : ∀ (H1 : Heap) (locs1 : List Loc), va_P g.2.1 am_cl ((am_wl g w).set x (am_ad g x, .inr (a, (am_fv g w x 0 (am_KD.getD a [])).set b u))) H1 → va_D (am_A g) ((am_wl g w).set x (am_ad g x, .inr (a, (am_fv g w x 0 (am_KD.getD a [])).set b u))) → va_S (am_A g) s.heap H1 locs1 → W p l e R s m args below meth c H1 locs1 (w.1 - n0) (am_ss w.1 - am_ss n0) Qf (F0 m (pc + 3) lsr (r.map (am_cv g))) := by
      intro H1 locs1 hP1 _ hS1
      rw [hset] at hP1
      exact am_goW hg hsz h1 (by rw [hw1]; exact hn0) (by rw [hw1]; exact hR.2.1) hP1 hS1 hl (by rw [hw1]) (by rw [hw1])
    rcases hlink with ⟨hn1, hlink⟩ | ⟨hn1, hlink⟩
    · cases hfb : (T b).2.2.2 with
      | false => exact va_put hx hb hts (am_layT a _ hcq) (am_tyf a) (am_tok a _ hcq) (am_nmk a _ hcq) hown hK hR.2.2 (am_D hg w) hS x he hcq b hk (hts _ hlink) (fun _ h => h) hfb hty hn hf hlen hd kk
      | true =>
        rcases hfin with h2 | ⟨-, h2, h3⟩
        · rw [hfe, hfb] at h2; cases h2
        · exact va_putF hx hb hts (am_layT a _ hcq) (am_tyf a) (am_tok a _ hcq) (am_nmk a _ hcq) hown hK hR.2.2 (am_D hg w) hS x he hcq b hk (hts _ hlink) (fun _ h => h) hfb (hnm h2) (by show (T b).1 = _; rw [← hfe]; exact h3) hty hn hf hlen hd kk
    · have hfb : (T b).2.2.2 = false := by
        rcases hfin with h2 | ⟨h2, -⟩
        · rw [← hfe]; exact h2
        · exact absurd h2 hn1
      exact va_putN hx hb hts (am_layT a _ hcq) (am_tyf a) (am_tok a _ hcq) (am_nmk a _ hcq) hown hK hR.2.2 (am_D hg w) hS x he hcq b hk (hts _ hlink) (fun _ h => h) hfb hty hn hf hlen hd kk
  unfold am_fp at h
  split at h
  · next hkd =>
    split at h
    · next y =>
      have ht := am_tk0 (hkt.symm.trans hkd)
      exact go (.int y) (am_si w x b y) (by rw [ht]; rfl) (by rw [ht]; rfl) rfl (fun y sh hy => am_si_o y sh hy) (fun i e hi => am_v1_si hi) (by rw [hkd]; show Value.int _ = _; rw [show am_gi (am_si w x b y) x b = y from am_u_self]) h
    · exact h.elim
  · next hkd =>
    split at h
    · next y =>
      have ht := am_tk1 (hkt.symm.trans hkd)
      exact go (.long y) (am_sl w x b y) (by rw [ht]; rfl) (by rw [ht]; rfl) rfl (fun y sh hy => am_sl_o y sh hy) (fun i e hi => am_v1_sl hi) (by rw [hkd]; show Value.long _ = _; rw [show am_gl (am_sl w x b y) x b = y from am_u_self]) h
    · exact h.elim
  · next hkd =>
    have ht := am_tk2 (hkt.symm.trans hkd)
    split at h
    · next y =>
      exact go (.ref (am_ad g y)) (am_sr w x b (some y)) (by rcases ht with ⟨n, ht⟩ | ⟨n, ht⟩ <;> rw [ht] <;> rfl) (by rcases ht with ⟨n, ht⟩ | ⟨n, ht⟩ <;> rw [ht] <;> rfl) rfl (fun y sh hy => am_sr_o y sh hy) (fun i e hi => am_v1_sr hi) (by rw [hkd]; show va_rf ((am_gr (am_sr w x b (some y)) x b).map (am_ad g)) = _; rw [show am_gr (am_sr w x b (some y)) x b = some y from am_u_self]; rfl) h
    · exact go .null (am_sr w x b none) (by rcases ht with ⟨n, ht⟩ | ⟨n, ht⟩ <;> rw [ht] <;> rfl) (by rcases ht with ⟨n, ht⟩ | ⟨n, ht⟩ <;> rw [ht] <;> rfl) rfl (fun y sh hy => am_sr_o y sh hy) (fun i e hi => am_v1_sr hi) (by rw [hkd]; show va_rf ((am_gr (am_sr w x b none) x b).map (am_ad g)) = _; rw [show am_gr (am_sr w x b none) x b = none from am_u_self]; rfl) h
    · exact h.elim
  · next hkd =>
    split at h
    · next y =>
      have ht := am_tk3 (hkt.symm.trans hkd)
      have h01 := h.1
      exact go (.int y) (am_si w x b y) (by rw [ht]; rcases h01 with q | q <;> rw [q] <;> rfl) (by rw [ht]; rcases h01 with q | q <;> rw [q] <;> rfl) rfl (fun y sh hy => am_si_o y sh hy) (fun i e hi => am_v1_si hi) (by rw [hkd]; show Value.int _ = _; rw [show am_gi (am_si w x b y) x b = y from am_u_self]) h.2
    · exact h.elim
  · exact h.elim
end AMH
