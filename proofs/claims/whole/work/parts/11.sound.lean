/-! ===== the abstract machine is sound ===== -/
/-- a String's length or char at a place: the call is gone through, whatever calls -/
def am_vs (l : Launch) (g : am_G) (own kk : Nat) (as : List Value) (z : Int32) : Prop :=
  ∀ (p : Program) (e : Env) (R : Room) (s : State) (m : MethodId) (args : Array Value) (below : List Frame) (meth : Method) (c : Code) (Qf : State → Prop) (i n0 d0 ix pc : Nat) (H : Heap) (locs : List Loc) (lsr : Array Slot) (cells slots : Nat) (r : List Value),
    am_ctx p s m args meth c g own i n0 → 4 ≤ d0 → (d0 + 1 ≤ R.frames ∧ 60 * (d0 + 1) ≤ R.locals) → (cells ≤ R.cells ∧ slots ≤ R.slots) → decode (am_cc i) pc = .ok (.invokevirtual ix, 3) → (own, ix, kk) ∈ am_st → am_ht r ≤ 8 → va_S (am_A g) s.heap H locs → lsr.size = am_nL i →
    W p l e R s m args below meth c H locs cells slots Qf (F0 m (pc + 3) lsr (.int z :: r.map (am_cv g))) → W p l e R s m args below meth c H locs cells slots Qf (F0 m pc lsr ((as.reverse ++ r).map (am_cv g)))
/-- what lies outside the world: int arrays (900 a place of one, 901 its length), statics (902), String constants (905; 903 the length, 904 a char) -/
def am_ext (l : Launch) (SP : am_S) (g : am_G) (own : Nat) : Prop :=
  (∀ x j w K, SP 900 [.ref x, .int j] w K → ∃ (L : Nat) (xs : Nat → Int32), ((va_X (am_ad g x) L xs g.1 g.1.heap ∧ am_ad g x < am_B g) ∨ va_T .int (am_ad g x) L (fun j => .int (xs j)) (am_A g) g.1 g.1.heap) ∧ vp_in j L ∧ K (some (.int (xs j.toNatClampNeg))) w) ∧
  (∀ x w K, SP 901 [.ref x] w K → ∃ (L : Nat) (xs : Nat → Int32), va_X (am_ad g x) L xs g.1 g.1.heap ∧ am_ad g x < am_B g ∧ K (some (.int (nI L))) w) ∧
  (∀ ix w K, ix < 65536 → SP 902 [.int (Int32.ofNat ix)] w K → ∃ (y : Value) (CC n d : String), K (some y) w ∧ va_Z CC n d (am_cv g y) (am_A g) g.1 g.1.heap ∧ (Cond.fieldLink (am_ow own) ix CC n d ∈ am_TB ∨ Cond.fieldLinkNest (am_ow own) ix CC n d "AirZone" ∈ am_TB)) ∧
  (∀ ix w K, ix < 65536 → SP 905 [.int (Int32.ofNat ix)] w K → ∃ (y : Nat) (tx : String), K (some (.ref y)) w ∧ vk_R (am_ow own) ix tx (am_ad g y) g.1) ∧
  (∀ kk as w K, kk = 903 ∨ kk = 904 → SP kk as w K → ∃ z : Int32, K (some (.int z)) w ∧ am_vs l g own kk as z)
section AMD
variable {p : Program} {l : Launch} {e : Env} {R : Room} {s : State} {m : MethodId} {args : Array Value} {below : List Frame} {meth : Method} {c : Code} {Qf : State → Prop} {g : am_G} {own i n0 n1 : Nat}
set_option maxHeartbeats 4000000 in
theorem am_s_c (C : am_ctx p s m args meth c g own i n0) {d0 mc ms : Nat} {SP : am_S} {K0 : Option Value → am_W → Prop} (hR0 : d0 + 1 ≤ R.frames ∧ 60 * (d0 + 1) ≤ R.locals ∧ mc ≤ R.cells ∧ ms ≤ R.slots) (hn1 : n1 = n0 + mc) (hms : am_ss n1 = am_ss n0 + ms)
    {ini : Bool} {M : am_M} {pc nx k a b : Nat} {v : Int32} {d : Instr × Nat} (hd : decode (am_cc i) pc = .ok d) (hn : nx = pc + d.2) (hc : am_dec own ini (am_rt i) (am_nL i) M (pc, nx, k, a, b, v) d = true)
    (hcal : k = 55 ∨ k = 61 → ∃ d1, d1 < d0 ∧ am_Met l g d1 a (SP a)) (hmc0 : k = 55 → am_mc a = 0 ∧ am_ms a = 0) (hrefs : k = 61 → ∀ as w K, SP a as w K → ∃ x t, as = .ref x :: t) (hX9 : am_ext l SP g own) (h66 : k = 66 ∨ k = 67 → 4 ≤ d0) {ls : List (Option Value)} {st : List Value} {w : am_W}
    (hEnd : k = 56 ∨ k = 63 ∨ k = 58 ∨ k = 59 → am_xc SP n1 K0 nx k a b v st w (fun pc st w => am_AW p l e R s m args below meth c Qf g i n0 n1 pc ls st w) → am_AW p l e R s m args below meth c Qf g i n0 n1 pc ls st w)
    (h : am_xc SP n1 K0 nx k a b v st w fun pc st w => am_AW p l e R s m args below meth c Qf g i n0 n1 pc ls st w) : am_AW p l e R s m args below meth c Qf g i n0 n1 pc ls st w := by
  have C0 := C
  obtain ⟨hx, hb, hml, hown, hts, hlk, hrt, hnm, hg, hal, hsz, hlo⟩ := C
  have hlow : ∀ {H : Heap} {locs : List Loc}, va_S (am_A g) s.heap H locs → ∀ q, q < am_B g → H[q]? = g.1.heap[q]? := fun hS q hq => (hS.2.1 q (by omega) (fun z => by have z : am_B g ≤ q := z; omega)).trans (hlo q hq)
  have hrm : d0 + 1 ≤ R.frames ∧ 60 * (d0 + 1) ≤ R.locals := ⟨hR0.1, hR0.2.1⟩
  have hbnd : n0 ≤ w.1 ∧ w.1 ≤ n1 → w.1 - n0 ≤ R.cells ∧ am_ss w.1 - am_ss n0 ≤ R.slots := fun q => by
    have q1 := am_ss_mono q.2
    have q2 := am_ss_mono q.1
    have q3 := hR0.2.2.1
    have q4 := hR0.2.2.2
    omega
  have h0 := h
  subst hn
  unfold am_xc at h
  split at h
  · -- 55
    obtain ⟨hm1, hm2⟩ := hmc0 rfl
    obtain ⟨d1, hd1, hM⟩ := hcal (Or.inl rfl)
    obtain ⟨bs, r, hst, hbl, hht, hrcv, hsp⟩ := am_rev_use _ _ _ h
    rw [List.append_nil] at hrcv hsp
    have hbr : bs = bs.reverse.reverse := by rw [List.reverse_reverse]
    rw [hbr] at hst
    have hbl2 : bs.reverse.length = b / 4 := by rw [List.length_reverse]; exact hbl
    generalize bs.reverse = as at hst hbl2 hrcv hsp
    subst hst
    intro hn0 H locs lsr hR hS hl
    have hfit : am_ss (w.1 + am_mc a) = am_ss w.1 + am_ms a := by rw [hm1, hm2]; rfl
    have hcells : w.1 - n0 + am_mc a ≤ R.cells ∧ am_ss w.1 - am_ss n0 + am_ms a ≤ R.slots := by rw [hm1, hm2]; exact hbnd hn0
    have go : d.2 = 3 → va_Run p l e R s m args below meth c H locs (w.1 - n0) (am_ss w.1 - am_ss n0) (am_mc a) (am_ms a) (F0 m pc lsr ((as.reverse ++ r).map (am_cv g))) (r.map (am_cv g)) (am_Q g (fun y w1 => w1.1 = w.1 → am_ra (b % 4) y r fun st1 => am_AW p l e R s m args below meth c Qf g i n0 n1 (pc + d.2) ls st1 w1) (w.1 + am_mc a) (as.map (am_cv g)).toArray) (am_A g) → W p l e R s m args below meth c H locs (w.1 - n0) (am_ss w.1 - am_ss n0) Qf (F0 m pc lsr ((as.reverse ++ r).map (am_cv g))) := by
      intro h3 hr
      refine am_after hsz hlo hn0.1 hfit hr hS fun y w1 H1 locs1 hk hw1 hR1 hS1 => ?_
      have hw2 : w1.1 = w.1 := by omega
      have h1 := am_ra_use (hk hw2)
      rw [am_map_tl]
      rw [h3] at h1
      exact h1 (by omega) H1 locs1 lsr hR1 hS1 hl
    simp only [am_dec] at hc
    split at hc
    · next ix =>
      simp only [Bool.and_eq_true, Bool.or_eq_true, decide_eq_true_eq] at hc
      rcases hc with ⟨hct | hct, hnp⟩
      · exact go rfl (am_run C0 hrm hd1 hM hsp hfit hht hct (by omega) ⟨fun _ => rfl, fun q => by omega, fun q => by omega⟩ hd (by rw [hbl2, hnp]; rfl) (fun _ => hrcv) (fun q => by omega) hR hS hl.1 hcells)
      · exact go rfl (am_run C0 hrm hd1 hM hsp hfit hht hct (by omega) ⟨fun _ => rfl, fun q => by omega, fun q => by omega⟩ hd (by rw [hbl2, hnp]; rfl) (fun _ => hrcv) (fun q => by omega) hR hS hl.1 hcells)
    · next ix =>
      simp only [Bool.and_eq_true, Bool.or_eq_true, decide_eq_true_eq] at hc
      rcases hc with ⟨hct | hct, hnp⟩
      · exact go rfl (am_run C0 hrm hd1 hM hsp hfit hht hct (by omega) ⟨fun q => by omega, fun _ => rfl, fun q => by omega⟩ hd (by rw [hbl2, hnp]; rfl) (fun q => by omega) (fun q => by omega) hR hS hl.1 hcells)
      · exact go rfl (am_run C0 hrm hd1 hM hsp hfit hht hct (by omega) ⟨fun q => by omega, fun _ => rfl, fun q => by omega⟩ hd (by rw [hbl2, hnp]; rfl) (fun q => by omega) (fun q => by omega) hR hS hl.1 hcells)
    · cases hc
  · -- 61
    obtain ⟨d1, hd1, hM⟩ := hcal (Or.inr rfl)
    obtain ⟨bs, r, hst, hbl, hht, hft, hsp⟩ := am_rev_use _ _ _ h
    rw [List.append_nil] at hsp
    have hbr : bs = bs.reverse.reverse := by rw [List.reverse_reverse]
    rw [hbr] at hst
    have hbl2 : bs.reverse.length = b / 4 := by rw [List.length_reverse]; exact hbl
    generalize bs.reverse = as at hst hbl2 hsp
    subst hst
    intro hn0 H locs lsr hR hS hl
    obtain ⟨hfa, hfit⟩ := hft
    have hcells : w.1 - n0 + am_mc a ≤ R.cells ∧ am_ss w.1 - am_ss n0 + am_ms a ≤ R.slots := by
      have q1 := am_ss_mono hfa
      have q2 := am_ss_mono hn0.1
      have q3 := hR0.2.2.1
      have q4 := hR0.2.2.2
      omega
    have go : d.2 = 3 → va_Run p l e R s m args below meth c H locs (w.1 - n0) (am_ss w.1 - am_ss n0) (am_mc a) (am_ms a) (F0 m pc lsr ((as.reverse ++ r).map (am_cv g))) (r.map (am_cv g)) (am_Q g (fun y w1 => w1.1 = w.1 + am_mc a → y = none ∧ am_AW p l e R s m args below meth c Qf g i n0 n1 (pc + d.2) ls r w1) (w.1 + am_mc a) (as.map (am_cv g)).toArray) (am_A g) → W p l e R s m args below meth c H locs (w.1 - n0) (am_ss w.1 - am_ss n0) Qf (F0 m pc lsr ((as.reverse ++ r).map (am_cv g))) := by
      intro h3 hr
      refine am_after hsz hlo hn0.1 hfit hr hS fun y w1 H1 locs1 hk hw1 hR1 hS1 => ?_
      obtain ⟨rfl, h1⟩ := hk hw1
      rw [h3] at h1
      exact h1 (by omega) H1 locs1 lsr hR1 hS1 hl
    simp only [am_dec] at hc
    split at hc
    · next ix =>
      simp only [Bool.and_eq_true, Bool.or_eq_true, decide_eq_true_eq] at hc
      rcases hc with ⟨hct | hct, hnp⟩
      · exact go rfl (am_run C0 hrm hd1 hM hsp hfit hht hct (by omega) ⟨fun q => by omega, fun q => by omega, fun _ => rfl⟩ hd (by rw [hbl2, hnp]; rfl) (fun q => by omega) (fun _ => hrefs rfl _ _ _ hsp) hR hS hl.1 hcells)
      · exact go rfl (am_run C0 hrm hd1 hM hsp hfit hht hct (by omega) ⟨fun q => by omega, fun q => by omega, fun _ => rfl⟩ hd (by rw [hbl2, hnp]; rfl) (fun q => by omega) (fun _ => hrefs rfl _ _ _ hsp) hR hS hl.1 hcells)
    · cases hc
  · -- 62
    simp only [am_dec] at hc
    split at hc
    · next ix =>
      split at h
      · next x r =>
        intro hn0 H locs lsr hR hS hl
        obtain ⟨z, hz, hz4⟩ := am_ct_use (of_decide_eq_true hc)
        have hzb := am_ctk z hz
        obtain ⟨z1, z2, z3, z4, p1, p2, p3, p4⟩ := z
        simp only [am_ct4, Prod.mk.injEq] at hz4
        obtain ⟨y1, y2, y3, y4⟩ := hz4
        rw [y1, y2, y3, y4] at hzb
        have hzb : am_pos (.methodLink (am_ow own) ix objectInit) p1 = true := hzb
        have hsum := am_ht_map (g := g) r
        have hht := h.1
        refine W.objInit hx hb hown (hts _ (am_tb_in (am_pos_in hzb) rfl)) (hts _ (am_tb_in am_obj.1 rfl)) (hts _ (am_tb_in am_obj.2 rfl)) (g := F0 m pc lsr (.ref (am_ad g x) :: r.map (am_cv g))) rfl (hl.1.trans hml.symm) rfl hd (by have q3 := hR0.1; omega) ?_ (h.2 hn0 H locs lsr hR hS hl)
        have := lv_room (m := m) (pc := pc) (ls := lsr) (rest := .ref (am_ad g x) :: r.map (am_cv g)) (st := r.map (am_cv g)) (by rw [hsum]; exact hht)
        have q3 := hR0.2.1
        omega
      · exact h.elim
    · cases hc
  · -- 64
    simp only [am_dec] at hc
    split at hc
    · next ix =>
      obtain ⟨z, hz, hz4⟩ := am_ct_use (of_decide_eq_true hc)
      have hzb := am_ctk z hz
      obtain ⟨z1, z2, z3, z4, p1, p2, p3, p4⟩ := z
      simp only [am_ct4, Prod.mk.injEq] at hz4
      obtain ⟨y1, y2, y3, y4⟩ := hz4
      rw [y1, y2, y3, y4] at hzb
      have hzb : (am_pos (.methodLink (am_ow own) ix (am_y a)) p1 && am_pos (.static (am_y a)) p2 && am_pos (.initialized "java/lang/Math") p4) = true := hzb
      simp only [Bool.and_eq_true] at hzb
      obtain ⟨⟨h1, h2⟩, h3⟩ := hzb
      have h1 := hts _ (am_tb_in (am_pos_in h1) rfl)
      have h2 := hts _ (am_tb_in (am_pos_in h2) rfl)
      have h3 := hts _ (am_tb_in (am_pos_in h3) rfl)
      obtain ⟨m1, m2, m3, m4, m5, m6⟩ := am_math
      split at h
      · rw [m1] at h1 h2
        split at h
        · next x r =>
          intro hn0 H locs lsr hR hS hl
          have hsum := am_ht_map (g := g) r
          have hht := h.1
          exact va_mabs hx hb (hml.trans hl.1.symm) hown h1 h2 h3 (hts _ (am_tb_in m4 rfl)) (by have q3 := hR0.1; omega) (by have q3 := hR0.2.1; rw [hsum]; omega) (hbnd hn0).1 (hbnd hn0).2 hd (h.2 hn0 H locs lsr hR hS hl)
        · exact h.elim
      · rw [m2] at h1 h2
        split at h
        · next y x r =>
          intro hn0 H locs lsr hR hS hl
          have hsum := am_ht_map (g := g) r
          have hht := h.1
          exact va_mmax hx hb (hml.trans hl.1.symm) hown h1 h2 h3 (hts _ (am_tb_in m5 rfl)) (by have q3 := hR0.1; omega) (by have q3 := hR0.2.1; rw [hsum]; omega) (hbnd hn0).1 (hbnd hn0).2 hd (h.2 hn0 H locs lsr hR hS hl)
        · exact h.elim
      · rw [m3] at h1 h2
        split at h
        · next y x r =>
          intro hn0 H locs lsr hR hS hl
          have hsum := am_ht_map (g := g) r
          have hht := h.1
          exact va_mmin hx hb (hml.trans hl.1.symm) hown h1 h2 h3 (hts _ (am_tb_in m6 rfl)) (by have q3 := hR0.1; omega) (by have q3 := hR0.2.1; rw [hsum]; omega) (hbnd hn0).1 (hbnd hn0).2 hd (h.2 hn0 H locs lsr hR hS hl)
        · exact h.elim
      · exact h.elim
    · cases hc
  · -- 68
    obtain rfl := of_decide_eq_true hc
    split at h
    · next j x r =>
      intro hn0 H locs lsr hR hS hl
      obtain ⟨L, xs, hXT, hin, hk⟩ := hX9.1 _ _ _ _ h
      rcases hXT with ⟨hXs, hbl⟩ | hTs
      rotate_left
      · have hT1 : va_T .int (am_ad g x) L (fun j => .int (xs j)) (am_A g) s s.heap := (hTs.moved hal.alike).kept (fun q h1 h2 => hlo q (Nat.lt_of_not_le h2))
        exact va_ti hx hb hT1 hS hin rfl hd (hk rfl hn0 H locs lsr hR hS hl)
      have hX1 : va_X (am_ad g x) L xs s s.heap := (hXs.moved hal.alike).kept (hlo _ hbl)
      exact va_sld hx hb hX1 (by omega) (fun z => by have z : am_B g ≤ am_ad g x := z; omega) hS hin hd (hk rfl hn0 H locs lsr hR hS hl)
    · exact h.elim
  · -- 69
    obtain rfl := of_decide_eq_true hc
    split at h
    · next x r =>
      intro hn0 H locs lsr hR hS hl
      obtain ⟨L, xs, hXs, hbl, hk⟩ := hX9.2.1 _ _ _ h
      have hX1 : va_X (am_ad g x) L xs s s.heap := (hXs.moved hal.alike).kept (hlo _ hbl)
      exact va_slen hx hb hX1 (by omega) (fun z => by have z : am_B g ≤ am_ad g x := z; omega) hS hd (hk rfl hn0 H locs lsr hR hS hl)
    · exact h.elim
  · -- 66
    simp only [am_dec] at hc
    split at hc
    · next ix =>
      have hc := of_decide_eq_true hc
      split at h
      · next x r =>
        intro hn0 H locs lsr hR hS hl
        obtain ⟨z, hk, hv⟩ := hX9.2.2.2.2 903 _ _ _ (Or.inl rfl) h.2
        exact hv p e R s m args below meth c Qf i n0 d0 ix pc H locs lsr (w.1 - n0) (am_ss w.1 - am_ss n0) r C0 (h66 (Or.inl rfl)) hrm (hbnd hn0) hd hc h.1 hS hl.1 (hk rfl hn0 H locs lsr hR hS hl)
      · exact h.elim
    · cases hc
  · -- 67
    simp only [am_dec] at hc
    split at hc
    · next ix =>
      have hc := of_decide_eq_true hc
      split at h
      · next j x r =>
        intro hn0 H locs lsr hR hS hl
        obtain ⟨z, hk, hv⟩ := hX9.2.2.2.2 904 _ _ _ (Or.inr rfl) h.2
        exact hv p e R s m args below meth c Qf i n0 d0 ix pc H locs lsr (w.1 - n0) (am_ss w.1 - am_ss n0) r C0 (h66 (Or.inr rfl)) hrm (hbnd hn0) hd hc h.1 hS hl.1 (hk rfl hn0 H locs lsr hR hS hl)
      · exact h.elim
    · cases hc
  · -- 70
    simp only [am_dec] at hc
    split at hc
    · next ix =>
      simp only [Bool.and_eq_true, decide_eq_true_eq] at hc
      obtain ⟨rfl, h16⟩ := hc
      intro hn0 H locs lsr hR hS hl
      obtain ⟨y, tx, hk, hZ⟩ := hX9.2.2.2.1 _ _ _ h16 h
      exact va_ldcS hx hb hown (vk_R.warm hal hZ) hd (hk rfl hn0 H locs lsr hR hS hl)
    · cases hc
  · -- 60
    simp only [am_dec] at hc
    split at hc
    · next ix =>
      simp only [Bool.and_eq_true, decide_eq_true_eq] at hc
      obtain ⟨rfl, h16⟩ := hc
      intro hn0 H locs lsr hR hS hl
      obtain ⟨y, CC, n, dd, hk, hZ, hlink⟩ := hX9.2.2.1 _ _ _ h16 h
      have hZ1 : va_Z CC n dd (am_cv g y) (am_A g) s s.heap := (hZ.moved hal.alike).kept (fun q h1 h2 => hlo q (Nat.lt_of_not_le h2))
      rcases hlink with hlink | hlink
      · exact va_gets hx hb hZ1 hS hown (hts _ hlink) (fun _ h => h) hd (hk rfl hn0 H locs lsr hR hS hl)
      · exact va_getsN hx hb hZ1 hS hown (hts _ hlink) (fun _ h => h) hd (hk rfl hn0 H locs lsr hR hS hl)
    · cases hc
  · exact hEnd (by omega) h0
  · exact hEnd (by omega) h0
  · exact hEnd (by omega) h0
  · exact hEnd (by omega) h0
  · exact h.elim
set_option maxHeartbeats 4000000 in
/-- the end of a method -/
theorem am_s_r (C : am_ctx p s m args meth c g own i n0) {mc ms : Nat} {SP : am_S} {K0 : Option Value → am_W → Prop} (hn1 : n1 = n0 + mc) (hms : am_ss n1 = am_ss n0 + ms)
    (hQf : Qf = MQ below (am_Q g K0 n1) args s mc ms (am_A g)) {ini : Bool} {M : am_M} {pc nx k a b : Nat} {v : Int32} {d : Instr × Nat} (hd : decode (am_cc i) pc = .ok d) (hc : am_dec own ini (am_rt i) (am_nL i) M (pc, nx, k, a, b, v) d = true) (hk4 : k = 56 ∨ k = 63 ∨ k = 58 ∨ k = 59) {ls : List (Option Value)} {st : List Value} {w : am_W}
    (h : am_xc SP n1 K0 nx k a b v st w fun pc st w => am_AW p l e R s m args below meth c Qf g i n0 n1 pc ls st w) : am_AW p l e R s m args below meth c Qf g i n0 n1 pc ls st w := by
  obtain ⟨hx, hb, hml, hown, hts, hlk, hrt, hnm, hg, hal, hsz, hlo⟩ := C
  have hlow : ∀ {H : Heap} {locs : List Loc}, va_S (am_A g) s.heap H locs → ∀ q, q < am_B g → H[q]? = g.1.heap[q]? := fun hS q hq => (hS.2.1 q (by omega) (fun z => by have z : am_B g ≤ q := z; omega)).trans (hlo q hq)
  have hret : ∀ {y : Option Value} {H : Heap} {locs : List Loc}, w.1 = n1 → K0 y w → am_rep g w H → va_S (am_A g) s.heap H locs → ∀ t : State, t.heap = H → s.WarmedH t.vm → am_Q g K0 n1 args s (.returned (y.map (am_cv g))) t :=
    fun {y} {H} {locs} hw hk hR hS t ht hW => ⟨y, w, rfl, hk, hw, State.WarmedH.trans hal hW, fun q hq => by rw [ht]; exact hlow hS q hq, by rw [ht]; exact hR⟩
  have hcnt : w.1 = n1 → w.1 - n0 = mc ∧ am_ss w.1 - am_ss n0 = ms := fun hw => by rw [hw]; omega
  unfold am_xc at h
  split at h
  · omega
  · omega
  · omega
  · omega
  · omega
  · omega
  · omega
  · omega
  · omega
  · omega
  · -- 56
    simp only [am_dec, Bool.and_eq_true, decide_eq_true_eq] at hc
    obtain ⟨rfl, hr1⟩ := hc
    split at h
    · next y =>
      intro hn0 H locs lsr hR hS hl
      obtain ⟨hw, hk⟩ := h
      obtain ⟨e1, e2⟩ := hcnt hw
      rw [e1, e2, hQf]
      exact W.iret hx hb (hrt.trans hr1) (hret hw hk hR hS) (fun q hq => hS.2.2 q hq) hd hlk
    · exact h.elim
  · -- 63
    simp only [am_dec, Bool.and_eq_true, decide_eq_true_eq] at hc
    obtain ⟨rfl, hr1⟩ := hc
    split at h
    · next y =>
      intro hn0 H locs lsr hR hS hl
      obtain ⟨hw, h01, hk⟩ := h
      obtain ⟨e1, e2⟩ := hcnt hw
      rw [e1, e2, hQf]
      exact W.zret hx hb (hrt.trans hr1) (by rcases h01 with q | q <;> rw [q] <;> rfl) (hret hw hk hR hS) (fun q hq => hS.2.2 q hq) hd hlk
    · exact h.elim
  · -- 58
    simp only [am_dec, Bool.and_eq_true, decide_eq_true_eq] at hc
    obtain ⟨rfl, hr1⟩ := hc
    have hrr : ∃ rt, am_rt i = some rt ∧ ((∃ n, rt = .object n) ∨ ∃ t, rt = .array t) := by
      split at hr1
      · next n hq => exact ⟨_, hq, Or.inl ⟨n, rfl⟩⟩
      · next n hq => exact ⟨_, hq, Or.inr ⟨n, rfl⟩⟩
      · cases hr1
    obtain ⟨rt, hr2, hr3⟩ := hrr
    split at h
    · next y =>
      intro hn0 H locs lsr hR hS hl
      obtain ⟨hw, hk⟩ := h
      obtain ⟨e1, e2⟩ := hcnt hw
      rw [e1, e2, hQf]
      exact W.aret hx hb (hrt.trans hr2) hr3 (Or.inr ⟨_, rfl⟩) (hret hw hk hR hS) (fun q hq => hS.2.2 q hq) hd hlk
    · intro hn0 H locs lsr hR hS hl
      obtain ⟨hw, hk⟩ := h
      obtain ⟨e1, e2⟩ := hcnt hw
      rw [e1, e2, hQf]
      exact W.aret hx hb (hrt.trans hr2) hr3 (Or.inl rfl) (hret hw hk hR hS) (fun q hq => hS.2.2 q hq) hd hlk
    · exact h.elim
  · -- 59
    simp only [am_dec, Bool.and_eq_true, decide_eq_true_eq] at hc
    obtain ⟨rfl, hr1⟩ := hc
    split at h
    · intro hn0 H locs lsr hR hS hl
      obtain ⟨hw, hk⟩ := h
      obtain ⟨e1, e2⟩ := hcnt hw
      rw [e1, e2, hQf]
      exact W.vret hx hb (hrt.trans hr1) (hret hw hk hR hS) (fun q hq => hS.2.2 q hq) hd hlk
    · exact h.elim
  · exact h.elim
end AMD
