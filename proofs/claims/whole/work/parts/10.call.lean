/-! ===== calls and returns; a method that the abstract machine runs is met ===== -/
def am_in (g : am_G) (w : am_W) (U : State) : Prop := g.1.WarmedH U.vm ∧ (∀ q, q < am_B g → U.heap[q]? = g.1.heap[q]?) ∧ am_rep g w U.heap
def am_Q (g : am_G) (K : Option Value → am_W → Prop) (n1 : Nat) : Array Value → State → Outcome → State → Prop := fun _ _ oc t => ∃ (r : Option Value) (w1 : am_W), oc = .returned (r.map (am_cv g)) ∧ K r w1 ∧ w1.1 = n1 ∧ am_in g w1 t
def am_wm (i : Nat) : List Cond := [.code (am_y i) (am_cc i) (am_nL i) (am_rt i)]
def am_room (d i : Nat) : Room := { frames := d + 1, cells := am_mc i, slots := am_ms i, locals := 60 * (d + 1) }
/-- method i keeps its spec, with d calls below it at most -/
def am_Met (l : Launch) (g : am_G) (d i : Nat) (S : List Value → am_W → (Option Value → am_W → Prop) → Prop) : Prop :=
  ∀ (as : List Value) (w : am_W) (K : Option Value → am_W → Prop), S as w K → am_ss (w.1 + am_mc i) = am_ss w.1 + am_ms i → Met l (am_y i) (am_wm i) (am_room d i) (va_Pc (as.map (am_cv g)) (am_in g w)) (am_Q g K (w.1 + am_mc i)) (am_mc i) (am_ms i) (am_A g)
theorem am_blind {g : am_G} {w : am_W} {as : List Value} : FrameBlind (va_Pc as (am_in g w)) := fun a U gg mk h => ⟨h.1, h.2.1, h.2.2.1, h.2.2.2⟩
theorem am_rev_use {K : List Value → List Value → Prop} : ∀ (n : Nat) (acc st : List Value), am_rev n acc st K → ∃ bs r, st = bs ++ r ∧ bs.length = n ∧ K (bs.reverse ++ acc) r
  | 0, acc, st, h => ⟨[], st, rfl, rfl, h⟩
  | n + 1, acc, v :: st, h => by
    obtain ⟨bs, r, h1, h2, h3⟩ := am_rev_use n (v :: acc) st h
    exact ⟨v :: bs, r, by rw [h1]; rfl, by rw [List.length_cons, h2], by rw [List.reverse_cons, List.append_assoc]; exact h3⟩
theorem am_goodwm {a : Nat} (h : a < 301) : GoodIn am_TB (am_wm a) := by
  intro w hw
  rw [List.mem_singleton.mp hw]
  exact ⟨am_tb_in (am_mtk h).2 rfl, Or.inl rfl⟩
theorem am_mtd {a : Nat} (h : a < 301) : (am_y a).cls ≠ "java/lang/invoke/MethodHandle" ∧ (am_y a).cls ≠ "java/lang/invoke/VarHandle" ∧ (parseMethodDescriptor (am_y a).desc).map (fun d => d.parameters.length) = some (am_npl.getD a 0) := by
  have h1 := (am_mtk h).1
  unfold am_mtb at h1
  rw [Bool.and_eq_true] at h1
  exact of_decide_eq_true h1.1
theorem am_mtn {a : Nat} (h : a < 301) : am_nL a ≤ 41 := by
  have h1 := (am_mtk h).1
  unfold am_mtb at h1
  rw [Bool.and_eq_true] at h1
  exact of_decide_eq_true h1.2
theorem am_ht_map {g : am_G} (r : List Value) : ((r.map (am_cv g)).map fun v => v.category).sum = am_ht r := by
  unfold am_ht
  rw [List.map_map]
  congr 1
  refine List.map_congr_left fun v _ => ?_
  exact am_cv_cat g v
theorem am_math : am_y 286 = Lib.Math.abs.name ∧ am_y 287 = Lib.Math.max.name ∧ am_y 288 = Lib.Math.min.name ∧ Cond.code Lib.Math.abs.name Lib.Math.abs.code 1 (some .int) ∈ lw_tbl ∧ Cond.code Lib.Math.max.name Lib.Math.max.code 2 (some .int) ∈ lw_tbl ∧ Cond.code Lib.Math.min.name Lib.Math.min.code 2 (some .int) ∈ lw_tbl := by decide +kernel
section AMC
variable {p : Program} {l : Launch} {e : Env} {R : Room} {s : State} {m : MethodId} {args : Array Value} {below : List Frame} {meth : Method} {c : Code} {Qf : State → Prop} {g : am_G} {own i n0 : Nat}
/-- behind a call -/
theorem am_after (hsz : s.heap.size = am_B g + n0) (hlo : ∀ q, q < am_B g → s.heap[q]? = g.1.heap[q]?) {w : am_W} {H : Heap} {locs : List Loc} {lsr : Array Slot} {mc ms pc : Nat} {st0 rest : List Value} {av : Array Value} {K : Option Value → am_W → Prop} (hn0 : n0 ≤ w.1) (hfit : am_ss (w.1 + mc) = am_ss w.1 + ms)
    (hr : va_Run p l e R s m args below meth c H locs (w.1 - n0) (am_ss w.1 - am_ss n0) mc ms (F0 m pc lsr st0) rest (am_Q g K (w.1 + mc) av) (am_A g)) (hS : va_S (am_A g) s.heap H locs)
    (kk : ∀ (y : Option Value) (w1 : am_W) (H1 : Heap) (locs1 : List Loc), K y w1 → w1.1 = w.1 + mc → am_rep g w1 H1 → va_S (am_A g) s.heap H1 locs1 → W p l e R s m args below meth c H1 locs1 (w1.1 - n0) (am_ss w1.1 - am_ss n0) Qf (F0 m (pc + 3) lsr ((y.map (am_cv g)).toList ++ rest))) : W p l e R s m args below meth c H locs (w.1 - n0) (am_ss w.1 - am_ss n0) Qf (F0 m pc lsr st0) := by
  intro T hT X
  obtain ⟨v, st₀, t, T', L, h0, X', hL, e1, e2, ⟨y, w1, hv, hK, hw1, hin⟩, st⟩ := hr T hT X
  cases hv
  have hm := am_ss_mono hn0
  have hc1 : w.1 - n0 + mc = w1.1 - n0 := by omega
  have hc2 : am_ss w.1 - am_ss n0 + ms = am_ss w1.1 - am_ss n0 := by rw [hw1]; omega
  rw [hc1, hc2] at X'
  obtain ⟨t2, a1, b1⟩ := kk y w1 T'.heap (locs ++ L) hK hw1 (by rw [e1]; exact hin.2.2) ⟨by rw [e1, hsz, hin.2.2.1]; omega, fun q h1 h2 => by
      have hq : q < am_B g := Nat.lt_of_not_le h2
      rw [e1, hin.2.1 q hq, hlo q hq], fun q hq => by
      rcases List.mem_append.mp hq with h | h
      · exact hS.2.2 q h
      · exact hL q h⟩ T' rfl X'
  exact ⟨t2, st t2 a1, b1⟩
/-- the answer of a call stands on the stack -/
theorem am_ra_use {y : Option Value} {r : List Value} {v : Nat} {K : List Value → Prop} (h : am_ra v y r K) : K (y.toList ++ r) := by
  match v, h with
  | 0, h => rw [h.1]; exact h.2
  | 1, h =>
    match y, h with
    | some (.int y), h => exact h
  | 2, h =>
    match y, h with
    | some (.long y), h => exact h
  | 3, h =>
    match y, h with
    | some (.ref y), h => exact h
    | some .null, h => exact h
theorem am_map_tl {g : am_G} (y : Option Value) (r : List Value) : (y.map (am_cv g)).toList ++ r.map (am_cv g) = (y.toList ++ r).map (am_cv g) := by
  cases y <;> rfl
theorem am_room_ok {d0 d1 a : Nat} (hR0 : d0 + 1 ≤ R.frames ∧ 60 * (d0 + 1) ≤ R.locals) (hd1 : d1 < d0) : (am_room d1 a).frames + 1 ≤ R.frames ∧ 8 + (am_nL a + 11) + (am_room d1 a).locals ≤ R.locals := by
  have hna : am_nL a ≤ 41 := by
    by_cases q : a < 301
    · exact am_mtn q
    · unfold am_nL
      by_cases q1 : a = 301
      · rw [q1]; exact Nat.le_of_ble_eq_true rfl
      · rw [am_me_lt q1, List.getD_eq_getElem?_getD, List.getElem?_eq_none (by rw [am_mtl]; omega)]
        exact Nat.le_of_ble_eq_true rfl
  refine ⟨by show d1 + 1 + 1 ≤ R.frames; omega, ?_⟩
  show 8 + (am_nL a + 11) + 60 * (d1 + 1) ≤ R.locals
  omega
/-- a call, whatever its kind: the run of it -/
theorem am_run (C : am_ctx p s m args meth c g own i n0) {d0 d1 pc a ix : Nat} {S : List Value → am_W → (Option Value → am_W → Prop) → Prop} (hR0 : d0 + 1 ≤ R.frames ∧ 60 * (d0 + 1) ≤ R.locals) (hd1 : d1 < d0) (hM : am_Met l g d1 a S) {as r : List Value} {w : am_W} {K : Option Value → am_W → Prop} (hsp : S as w K) (hfit : am_ss (w.1 + am_mc a) = am_ss w.1 + am_ms a) (hht : am_ht r ≤ 8)
    {kd : Nat} (hct : (own, ix, kd, a) ∈ am_ct) (hkd : kd < 6) {dd : Instr} (hdd : (kd = 0 ∨ kd = 3 → dd = .invokevirtual ix) ∧ (kd = 1 ∨ kd = 4 → dd = .invokestatic ix) ∧ (kd = 2 ∨ kd = 5 → dd = .invokespecial ix)) (hd : decode (am_cc i) pc = .ok (dd, 3)) (hlen : as.length = am_npl.getD a 0 + (if kd = 1 ∨ kd = 4 then 0 else 1)) (hrcv : kd = 0 ∨ kd = 3 → am_rcv (am_vc a) as w) (hini : kd = 2 ∨ kd = 5 → ∃ x t, as = .ref x :: t)
    {H : Heap} {locs : List Loc} {lsr : Array Slot} {cells slots : Nat} (hR : am_rep g w H) (hS : va_S (am_A g) s.heap H locs) (hlsz : lsr.size = am_nL i) (hcells : cells + am_mc a ≤ R.cells ∧ slots + am_ms a ≤ R.slots) :
    va_Run p l e R s m args below meth c H locs cells slots (am_mc a) (am_ms a) (F0 m pc lsr ((as.reverse ++ r).map (am_cv g))) (r.map (am_cv g)) (am_Q g K (w.1 + am_mc a) (as.map (am_cv g)).toArray) (am_A g) := by
  obtain ⟨hx, hb, hml, hown, hts, hlk, hrt, hnm, hg, hal, hsz, hlo⟩ := C
  have hK := hg.1.moved hal.alike
  have hS5 : CallFix p m c (am_cc i) (am_nL i) s args am_TB (am_ow own) := ⟨hx, hb, hml, hown, hts⟩
  have hlow : ∀ q, q < am_B g → H[q]? = g.1.heap[q]? := fun q hq => (hS.2.1 q (by omega) (fun z => by have z : am_B g ≤ q := z; omega)).trans (hlo q hq)
  have hMa := hM as w K hsp hfit
  have hroom := am_room_ok (R := R) (a := a) hR0 hd1
  have hW8 : 2 * (F0 m pc lsr ((as.reverse ++ r).map (am_cv g))).monitorRoom + ((r.map (am_cv g)).map fun v => v.category).sum ≤ 8 := lv_room (by rw [am_ht_map]; exact hht)
  have hpre : ∀ U : State, U.heap = H → s.WarmedH U.vm → am_in g w U := fun U hU hW => ⟨State.WarmedH.trans hal hW, fun q hq => by rw [hU]; exact hlow q hq, by rw [hU]; exact hR⟩
  have hrev : (as.reverse ++ r).map (am_cv g) = (as.map (am_cv g)).reverse ++ r.map (am_cv g) := by rw [List.map_append, List.map_reverse]
  obtain ⟨z, hz, hz4⟩ := am_ct_use hct
  have hzb := am_ctk z hz
  obtain ⟨o', ix', kd', a', p1, p2, p3, p4⟩ := z
  simp only [am_ct4, Prod.mk.injEq] at hz4
  obtain ⟨z1, z2, z3, z4⟩ := hz4
  rw [z1, z2, z3, z4] at hzb
  have virt : ∀ (hvc : am_rvc a = true), am_rcv (am_vc a) as w → ∃ (x : Nat) (t : List Value), as = .ref x :: t ∧ ∃ cellB : Cell, H[am_ad g x]? = some cellB ∧ cellB.vm.isStatics = false ∧ s.vm.findClass (am_y a).cls = some cellB.cls := by
    intro hvc hr0
    unfold am_rvc at hvc
    split at hvc
    · cases hvc
    · next n hn =>
      rw [hn] at hr0
      unfold am_rcv at hr0
      simp only at hr0
      split at hr0
      · next x t =>
        split at hvc
        · next q hq =>
          have he : (am_wl g w)[x]? = some (am_ad g x, .inr (n, am_fv g w x 0 (am_KD.getD n []))) := am_wl_at (g := g) hr0
          have := va_recv hK hR.2.2 hq he
          rw [of_decide_eq_true hvc] at this
          exact ⟨x, t, rfl, this⟩
        · cases hvc
      · exact hr0.elim
  match kd, hkd, hzb with
  | 0, _, hzb =>
    simp only [am_ctb, Bool.and_eq_true, decide_eq_true_eq] at hzb
    obtain ⟨⟨⟨⟨⟨⟨h1, h2⟩, h3⟩, h4⟩, h5⟩, h6⟩, h7⟩ := hzb
    obtain ⟨x, t, rfl, hcell⟩ := virt h6 (hrcv (Or.inl rfl))
    obtain rfl := hdd.1 (Or.inl rfl)
    have hb1 := callB_of (R := R) (s := s) (args := args) (own := am_ow own) (index := ix) (rm := am_room d1 a) (mc := am_mc a) (ms := am_ms a) (am_npl.getD a 0) hts (am_goodwm h5) rfl rfl rfl (hts _ (am_tb_in (am_pos_in h4) rfl)) (hts _ (am_tb_in (am_pos_in h1) rfl)) (am_mtd h5) hroom
    refine va_runV (C := (am_y a).cls) (b := am_ad g x) (As := t.map (am_cv g)) (rest := r.map (am_cv g)) hS5 hMa ⟨hb1, hts _ (am_tb_in (am_pos_in h2) rfl), hts _ (am_tb_in (am_pos_in h3) rfl)⟩ ⟨am_blind, hcell, fun U hU hW => ⟨rfl, hpre U hU hW⟩⟩ rfl ?_ hlsz ?_ hW8 hd hcells
    · rw [List.length_map]; simpa using hlen
    · show (((Value.ref x :: t).reverse ++ r).map (am_cv g)) = _
      rw [hrev]; simp [am_cv]
  | 1, _, hzb =>
    simp only [am_ctb, Bool.and_eq_true, decide_eq_true_eq] at hzb
    obtain ⟨⟨⟨⟨⟨h1, h2⟩, h4⟩, h5⟩, h6⟩, h7⟩ := hzb
    obtain rfl := hdd.2.1 (Or.inl rfl)
    have hb1 := callB_of (R := R) (s := s) (args := args) (own := am_ow own) (index := ix) (rm := am_room d1 a) (mc := am_mc a) (ms := am_ms a) (am_npl.getD a 0) hts (am_goodwm h5) rfl rfl rfl (hts _ (am_tb_in (am_pos_in h4) rfl)) (hts _ (am_tb_in (am_pos_in h1) rfl)) (am_mtd h5) hroom
    refine va_runS (As := as.map (am_cv g)) (rest := r.map (am_cv g)) hS5 hMa ⟨hb1, hts _ (am_tb_in (am_pos_in h2) rfl)⟩ ⟨am_blind, fun U hU hW => ⟨rfl, hpre U hU hW⟩⟩ rfl ?_ hlsz hrev hW8 hd hcells
    rw [List.length_map]; simpa using hlen
  | 2, _, hzb =>
    simp only [am_ctb, Bool.and_eq_true, decide_eq_true_eq] at hzb
    obtain ⟨⟨⟨⟨⟨⟨h1, h2⟩, h3⟩, h4⟩, h5⟩, h6⟩, h7⟩ := hzb
    obtain ⟨x, t, rfl⟩ := hini (Or.inl rfl)
    obtain rfl := hdd.2.2 (Or.inl rfl)
    have hb1 := callB_of (R := R) (s := s) (args := args) (own := am_ow own) (index := ix) (rm := am_room d1 a) (mc := am_mc a) (ms := am_ms a) (am_npl.getD a 0) hts (am_goodwm h5) rfl rfl rfl (hts _ (am_tb_in (am_pos_in h4) rfl)) (hts _ (am_tb_in (am_pos_in h1) rfl)) (am_mtd h5) hroom
    rw [h6] at hb1
    refine va_runI (b := am_ad g x) (As := t.map (am_cv g)) (rest := r.map (am_cv g)) hS5 hMa ⟨hb1, h3, hts _ (am_tb_in (am_pos_in h2) rfl)⟩ ⟨am_blind, fun U hU hW => ⟨rfl, hpre U hU hW⟩⟩ rfl ?_ hlsz ?_ hW8 hd hcells
    · rw [List.length_map]; simpa using hlen
    · show (((Value.ref x :: t).reverse ++ r).map (am_cv g)) = _
      rw [hrev]; simp [am_cv]
  | 3, _, hzb =>
    simp only [am_ctb, Bool.and_eq_true, decide_eq_true_eq] at hzb
    obtain ⟨⟨⟨⟨⟨⟨h1, h2⟩, h3⟩, h4⟩, h5⟩, h6⟩, h7⟩ := hzb
    obtain ⟨x, t, rfl, hcell⟩ := virt h6 (hrcv (Or.inr rfl))
    obtain rfl := hdd.1 (Or.inr rfl)
    have hb1 := va_cnB (R := R) (s := s) (args := args) (own := am_ow own) (index := ix) (host := "AirZone") (rm := am_room d1 a) (mc := am_mc a) (ms := am_ms a) (am_npl.getD a 0) hts (am_goodwm h5) rfl rfl rfl (va_Nw.of rfl (hts _ (am_tb_in (am_pos_in h1) rfl))) (hts _ (am_tb_in (am_pos_in h4) rfl)) (am_mtd h5) hroom
    refine va_runVN (C := (am_y a).cls) (b := am_ad g x) (As := t.map (am_cv g)) (rest := r.map (am_cv g)) hS5 hMa ⟨hb1, hts _ (am_tb_in (am_pos_in h2) rfl), hts _ (am_tb_in (am_pos_in h3) rfl)⟩ ⟨am_blind, hcell, fun U hU hW => ⟨rfl, hpre U hU hW⟩⟩ rfl ?_ hlsz ?_ hW8 hd hcells
    · rw [List.length_map]; simpa using hlen
    · show (((Value.ref x :: t).reverse ++ r).map (am_cv g)) = _
      rw [hrev]; simp [am_cv]
  | 4, _, hzb =>
    simp only [am_ctb, Bool.and_eq_true, decide_eq_true_eq] at hzb
    obtain ⟨⟨⟨⟨⟨h1, h2⟩, h4⟩, h5⟩, h6⟩, h7⟩ := hzb
    obtain rfl := hdd.2.1 (Or.inr rfl)
    have hb1 := va_cnB (R := R) (s := s) (args := args) (own := am_ow own) (index := ix) (host := "AirZone") (rm := am_room d1 a) (mc := am_mc a) (ms := am_ms a) (am_npl.getD a 0) hts (am_goodwm h5) rfl rfl rfl (va_Nw.of rfl (hts _ (am_tb_in (am_pos_in h1) rfl))) (hts _ (am_tb_in (am_pos_in h4) rfl)) (am_mtd h5) hroom
    refine va_runSN (As := as.map (am_cv g)) (rest := r.map (am_cv g)) hS5 hMa ⟨hb1, hts _ (am_tb_in (am_pos_in h2) rfl), trivial⟩ ⟨am_blind, fun U hU hW => ⟨rfl, hpre U hU hW⟩⟩ rfl ?_ hlsz hrev hW8 hd hcells
    rw [List.length_map]; simpa using hlen
  | 5, _, hzb =>
    simp only [am_ctb, Bool.and_eq_true, decide_eq_true_eq] at hzb
    obtain ⟨⟨⟨⟨⟨⟨h1, h2⟩, h3⟩, h4⟩, h5⟩, h6⟩, h7⟩ := hzb
    obtain ⟨x, t, rfl⟩ := hini (Or.inr rfl)
    obtain rfl := hdd.2.2 (Or.inr rfl)
    have hb1 := va_cnB (R := R) (s := s) (args := args) (own := am_ow own) (index := ix) (host := "AirZone") (rm := am_room d1 a) (mc := am_mc a) (ms := am_ms a) (am_npl.getD a 0) hts (am_goodwm h5) rfl rfl rfl (va_Nw.of rfl (hts _ (am_tb_in (am_pos_in h1) rfl))) (hts _ (am_tb_in (am_pos_in h4) rfl)) (am_mtd h5) hroom
    rw [h6] at hb1
    refine va_runIN (b := am_ad g x) (As := t.map (am_cv g)) (rest := r.map (am_cv g)) hS5 hMa ⟨hb1, h3, hts _ (am_tb_in (am_pos_in h2) rfl)⟩ ⟨am_blind, fun U hU hW => ⟨rfl, hpre U hU hW⟩⟩ rfl ?_ hlsz ?_ hW8 hd hcells
    · rw [List.length_map]; simpa using hlen
    · show (((Value.ref x :: t).reverse ++ r).map (am_cv g)) = _
      rw [hrev]; simp [am_cv]
end AMC
