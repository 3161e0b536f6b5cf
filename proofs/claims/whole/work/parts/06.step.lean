/-! ===== one step of the abstract machine is a step of the machine ===== -/
def am_ctx (p : Program) (s : State) (m : MethodId) (args : Array Value) (meth : Method) (c : Code) (g : am_G) (own i n0 : Nat) : Prop :=
  p.tables.exec = Jvm.exec ∧ c.code = am_cc i ∧ c.maxLocals = am_nL i ∧ s.vm.findClass (am_ow own) = some m.cls ∧ (∀ w ∈ am_TB, w.before args s = true) ∧ meth.locks = false ∧ meth.sig.returnType = am_rt i ∧ ((am_y i).name = "<init>" → meth.name = "<init>") ∧ am_gok g ∧ g.1.WarmedH s.vm ∧ s.heap.size = am_B g + n0 ∧ ∀ q, q < am_B g → s.heap[q]? = g.1.heap[q]?
def am_AW (p : Program) (l : Launch) (e : Env) (R : Room) (s : State) (m : MethodId) (args : Array Value) (below : List Frame) (meth : Method) (c : Code) (Qf : State → Prop) (g : am_G) (i n0 n1 : Nat) : am_P := fun pc ls st w =>
  n0 ≤ w.1 ∧ w.1 ≤ n1 → ∀ (H : Heap) (locs : List Loc) (lsr : Array Slot), am_rep g w H → va_S (am_A g) s.heap H locs → am_lv g lsr (am_nL i) ls → W p l e R s m args below meth c H locs (w.1 - n0) (am_ss w.1 - am_ss n0) Qf (F0 m pc lsr (st.map (am_cv g)))
theorem am_kt_ok0 : ∀ q ∈ am_kt, Cond.constant (am_ow q.1) q.2.1 q.2.2 ∈ lw_tbl := by decide +kernel
theorem am_klt_ok0 : ∀ q ∈ am_klt, Cond.constantLong (am_ow q.1) q.2.1 q.2.2 ∈ lw_tbl := by decide +kernel
theorem am_kt_ok (q : Nat × Nat × Int32) (h : q ∈ am_kt) : Cond.constant (am_ow q.1) q.2.1 q.2.2 ∈ am_TB := am_tb_in (am_kt_ok0 q h) rfl
theorem am_klt_ok (q : Nat × Nat × Int64) (h : q ∈ am_klt) : Cond.constantLong (am_ow q.1) q.2.1 q.2.2 ∈ am_TB := am_tb_in (am_klt_ok0 q h) rfl
section AMS
variable {p : Program} {l : Launch} {e : Env} {R : Room} {s : State} {m : MethodId} {args : Array Value} {below : List Frame} {meth : Method} {c : Code} {Qf : State → Prop} {g : am_G} {own i n0 n1 : Nat}
set_option maxHeartbeats 4000000 in
theorem am_s_p (C : am_ctx p s m args meth c g own i n0) {ini : Bool} {rt : Option FieldType} {M : am_M} {pc nx k a b : Nat} {v : Int32} {d : Instr × Nat} (hd : decode (am_cc i) pc = .ok d) (hn : nx = pc + d.2) (hc : am_dec own ini rt (am_nL i) M (pc, nx, k, a, b, v) d = true) {ls : List (Option Value)} {st : List Value} {w : am_W}
    (h : am_xp M.2.1 nx k a v ls st fun pc ls st => am_AW p l e R s m args below meth c Qf g i n0 n1 pc ls st w) : am_AW p l e R s m args below meth c Qf g i n0 n1 pc ls st w := by
  obtain ⟨hx, hb, hml, hown, hts, hlk, hrt, hnm, hg, hal, hsz, hlo⟩ := C
  intro hn0 H locs lsr hR hS hl
  have hlh := am_lv_has hl
  subst hn
  unfold am_xp at h
  split at h
  · -- 0
    simp only [am_dec] at hc
    split at hc
    · exact lv_iconst hx hb hd (of_decide_eq_true hc) (h hn0 H locs lsr hR hS hl)
    · exact lv_bipush hx hb hd (of_decide_eq_true hc) (h hn0 H locs lsr hR hS hl)
    · exact lv_sipush hx hb hd (of_decide_eq_true hc) (h hn0 H locs lsr hR hS hl)
    · exact lv_ldc hx hb hown (hts _ (am_kt_ok _ (of_decide_eq_true hc))) hd (h hn0 H locs lsr hR hS hl)
    · exact lv_ldcw hx hb hown (hts _ (am_kt_ok _ (of_decide_eq_true hc))) hd (h hn0 H locs lsr hR hS hl)
    · cases hc
  · -- 1
    simp only [am_dec] at hc
    split at hc
    · exact lv_lconst hx hb hd (of_decide_eq_true hc) (h hn0 H locs lsr hR hS hl)
    · exact lv_ldc2 hx hb hown (hts _ (am_klt_ok _ (of_decide_eq_true hc))) hd (h hn0 H locs lsr hR hS hl)
    · cases hc
  · -- 2
    simp only [am_dec] at hc
    split at hc
    · exact lv_null hx hb hd (h hn0 H locs lsr hR hS hl)
    · cases hc
  · -- 4
    unfold am_li at h
    split at h
    · next x hxl =>
      have hv := hl.2.2 _ _ hxl
      simp only [am_dec] at hc
      split at hc
      · obtain rfl := of_decide_eq_true hc
        exact lv_iload hx hb hd hv (h hn0 H locs lsr hR hS hl)
      · exact lv_iload_n hx hb hd (of_decide_eq_true hc) hv (h hn0 H locs lsr hR hS hl)
      · cases hc
    · exact h.elim
  · -- 5
    unfold am_ll at h
    split at h
    · next x hxl =>
      have hv := hl.2.2 _ _ hxl
      simp only [am_dec] at hc
      split at hc
      · obtain rfl := of_decide_eq_true hc
        exact lv_lload hx hb hd hv (h hn0 H locs lsr hR hS hl)
      · exact lv_lload_n hx hb hd (of_decide_eq_true hc) hv (h hn0 H locs lsr hR hS hl)
      · cases hc
    · exact h.elim
  · -- 6
    unfold am_la at h
    split at h
    · next x hxl =>
      have hv := hl.2.2 _ _ hxl
      simp only [am_dec] at hc
      split at hc
      · obtain rfl := of_decide_eq_true hc
        exact lv_aload hx hb hd hv (h hn0 H locs lsr hR hS hl)
      · exact lv_aload_n hx hb hd (of_decide_eq_true hc) hv (h hn0 H locs lsr hR hS hl)
      · cases hc
    · next hxl =>
      have hv := hl.2.2 _ _ hxl
      simp only [am_dec] at hc
      split at hc
      · obtain rfl := of_decide_eq_true hc
        exact lv_aloadN hx hb hd hv (h hn0 H locs lsr hR hS hl)
      · exact lv_aload_nN hx hb hd (of_decide_eq_true hc) hv (h hn0 H locs lsr hR hS hl)
      · cases hc
    · exact h.elim
  · -- 7
    split at h
    · simp only [am_dec] at hc
      split at hc
      · obtain ⟨rfl, h2⟩ := of_decide_eq_true hc
        exact lv_istore hx hb hd hlh h2 rfl fun ls1 h1 => h hn0 H locs ls1 hR hS (am_lv_s1 (ls := lsr) h1)
      · obtain ⟨h1, h2⟩ := of_decide_eq_true hc
        exact lv_istore_n hx hb hd h1 hlh h2 rfl fun ls1 h1 => h hn0 H locs ls1 hR hS (am_lv_s1 (ls := lsr) h1)
      · cases hc
    · exact h.elim
  · -- 8
    split at h
    · simp only [am_dec] at hc
      split at hc
      · obtain ⟨rfl, h2⟩ := of_decide_eq_true hc
        exact lv_lstore hx hb hd hlh h2 rfl fun ls1 h1 => h hn0 H locs ls1 hR hS (am_lv_s2 (ls := lsr) h1)
      · obtain ⟨h1, h2⟩ := of_decide_eq_true hc
        exact lv_lstore_n hx hb hd h1 hlh h2 rfl fun ls1 h1 => h hn0 H locs ls1 hR hS (am_lv_s2 (ls := lsr) h1)
      · cases hc
    · exact h.elim
  · -- 9
    split at h
    · simp only [am_dec] at hc
      split at hc
      · obtain ⟨rfl, h2⟩ := of_decide_eq_true hc
        exact lv_astore hx hb hd hlh h2 rfl fun ls1 h1 => h hn0 H locs ls1 hR hS (am_lv_s1 (ls := lsr) h1)
      · obtain ⟨h1, h2⟩ := of_decide_eq_true hc
        exact lv_astore_n hx hb hd h1 hlh h2 rfl fun ls1 h1 => h hn0 H locs ls1 hR hS (am_lv_s1 (ls := lsr) h1)
      · cases hc
    · simp only [am_dec] at hc
      split at hc
      · obtain ⟨rfl, h2⟩ := of_decide_eq_true hc
        exact lv_astoreN hx hb hd hlh h2 rfl fun ls1 h1 => h hn0 H locs ls1 hR hS (am_lv_s1 (ls := lsr) h1)
      · obtain ⟨h1, h2⟩ := of_decide_eq_true hc
        exact lv_astore_nN hx hb hd h1 hlh h2 rfl fun ls1 h1 => h hn0 H locs ls1 hR hS (am_lv_s1 (ls := lsr) h1)
      · cases hc
    · exact h.elim
  · -- 10
    unfold am_li at h
    split at h
    · next x hxl =>
      simp only [am_dec] at hc
      split at hc
      · obtain ⟨rfl, h2, h3⟩ := of_decide_eq_true hc
        obtain ⟨kx, hkx⟩ := List.getElem?_of_mem (am_prs_mem (g := g) hxl)
        exact lv_iinc hx hb hd hlh hkx (by rw [h3]) h2 rfl fun ls1 h1 => h hn0 H locs ls1 hR hS (am_lv_s1 (ls := lsr) h1)
      · cases hc
    · exact h.elim
  · obtain rfl := of_decide_eq_true hc
    split at h
    · exact lv_iadd hx hb hd (h hn0 H locs lsr hR hS hl)
    · exact h.elim
  · obtain rfl := of_decide_eq_true hc
    split at h
    · exact lv_isub hx hb hd (h hn0 H locs lsr hR hS hl)
    · exact h.elim
  · obtain rfl := of_decide_eq_true hc
    split at h
    · exact lv_imul hx hb hd (h hn0 H locs lsr hR hS hl)
    · exact h.elim
  · obtain rfl := of_decide_eq_true hc
    split at h
    · exact lv_iand hx hb hd (h hn0 H locs lsr hR hS hl)
    · exact h.elim
  · obtain rfl := of_decide_eq_true hc
    split at h
    · exact lv_ior hx hb hd (h hn0 H locs lsr hR hS hl)
    · exact h.elim
  · obtain rfl := of_decide_eq_true hc
    split at h
    · exact lv_ixor hx hb hd (h hn0 H locs lsr hR hS hl)
    · exact h.elim
  · obtain rfl := of_decide_eq_true hc
    split at h
    · exact lv_idiv hx hb hd h.1 (h.2 hn0 H locs lsr hR hS hl)
    · exact h.elim
  · obtain rfl := of_decide_eq_true hc
    split at h
    · exact lv_irem hx hb hd h.1 (h.2 hn0 H locs lsr hR hS hl)
    · exact h.elim
  · obtain rfl := of_decide_eq_true hc
    split at h
    · exact lv_ineg hx hb hd (h hn0 H locs lsr hR hS hl)
    · exact h.elim
  · obtain rfl := of_decide_eq_true hc
    split at h
    · exact lv_ishl hx hb hd (h hn0 H locs lsr hR hS hl)
    · exact h.elim
  · obtain rfl := of_decide_eq_true hc
    split at h
    · exact lv_ishr hx hb hd (h hn0 H locs lsr hR hS hl)
    · exact h.elim
  · obtain rfl := of_decide_eq_true hc
    split at h
    · exact lv_iushr hx hb hd rfl (h hn0 H locs lsr hR hS hl)
    · exact h.elim
  · obtain rfl := of_decide_eq_true hc
    split at h
    · exact lv_land hx hb hd (h hn0 H locs lsr hR hS hl)
    · exact h.elim
  · obtain rfl := of_decide_eq_true hc
    split at h
    · exact lv_lor hx hb hd (h hn0 H locs lsr hR hS hl)
    · exact h.elim
  · obtain rfl := of_decide_eq_true hc
    split at h
    · exact lv_lshl hx hb hd rfl (h hn0 H locs lsr hR hS hl)
    · exact h.elim
  · obtain rfl := of_decide_eq_true hc
    split at h
    · exact lv_lshr hx hb hd rfl (h hn0 H locs lsr hR hS hl)
    · exact h.elim
  · obtain rfl := of_decide_eq_true hc
    split at h
    · exact W.lcmp hx hb hd (h hn0 H locs lsr hR hS hl)
    · exact h.elim
  · obtain rfl := of_decide_eq_true hc
    split at h
    · exact lv_i2l hx hb hd rfl (h hn0 H locs lsr hR hS hl)
    · exact h.elim
  · obtain rfl := of_decide_eq_true hc
    split at h
    · exact lv_l2i hx hb hd rfl (h hn0 H locs lsr hR hS hl)
    · exact h.elim
  · obtain rfl := of_decide_eq_true hc
    split at h
    · exact lv_i2b hx hb hd rfl (h hn0 H locs lsr hR hS hl)
    · exact h.elim
  · obtain rfl := of_decide_eq_true hc
    split at h
    · exact lv_i2c hx hb hd rfl (h hn0 H locs lsr hR hS hl)
    · exact h.elim
  · obtain rfl := of_decide_eq_true hc
    split at h
    · exact lv_dup hx hb hd rfl (h hn0 H locs lsr hR hS hl)
    · exact lv_dup hx hb hd rfl (h hn0 H locs lsr hR hS hl)
    · exact h.elim
  · obtain rfl := of_decide_eq_true hc
    split at h
    · exact lv_pop hx hb hd rfl (h hn0 H locs lsr hR hS hl)
    · exact lv_pop hx hb hd rfl (h hn0 H locs lsr hR hS hl)
    · exact h.elim
  · obtain rfl := of_decide_eq_true hc
    split at h
    · exact lv_dup2_11 hx hb hd rfl rfl (h hn0 H locs lsr hR hS hl)
    · exact lv_dup2_11 hx hb hd rfl rfl (h hn0 H locs lsr hR hS hl)
    · exact h.elim
  · exact h.elim
/-- a switch goes to one place -/
def am_to (x : Int32) (d : Nat) : List (Int32 × Nat) → Nat
  | [] => d
  | q :: l => if x = q.1 then q.2 else am_to x d l
theorem am_sw_to {x : Int32} {Y : Nat → Prop} {d : Nat} : ∀ {l : List (Int32 × Nat)}, am_sw x Y d l → Y (am_to x d l)
  | [], h => h
  | q :: l, h => by
    unfold am_to
    split
    · next e => exact h.1 e
    · next e => exact am_sw_to (h.2 e)
theorem am_i32 {x : Int32} {z : Int} (h1 : -2147483648 ≤ z) (h2 : z ≤ 2147483647) : x = Int32.ofInt z ↔ x.toInt = z := by
  constructor
  · intro h
    rw [h, Int32.toInt_ofInt_of_le (by omega) (by omega)]
  · intro h
    rw [← h, Int32.ofInt_toInt]
theorem am_to_tb {x : Int32} {pc d : Nat} : ∀ (os : List Int) (lo : Int), -2147483648 ≤ lo → lo + os.length - 1 ≤ 2147483647 →
    (x.toInt < lo ∨ lo + os.length - 1 < x.toInt → am_to x d (am_tb pc lo os) = d) ∧ (∀ o, lo ≤ x.toInt → os[(x.toInt - lo).toNat]? = some o → am_to x d (am_tb pc lo os) = ((pc : Int) + o).toNat)
  | [], lo, _, _ => ⟨fun _ => rfl, fun o _ h => by simp at h⟩
  | o1 :: os, lo, h1, h2 => by
    have hl : (o1 :: os).length = os.length + 1 := rfl
    rw [hl] at h2
    have ih := am_to_tb (x := x) (pc := pc) (d := d) os (lo + 1) (by omega) (by omega)
    have hx : x = Int32.ofInt lo ↔ x.toInt = lo := am_i32 h1 (by omega)
    constructor
    · intro h
      rw [hl] at h
      show (if x = Int32.ofInt lo then _ else _) = d
      rw [if_neg (fun q => by have := hx.mp q; omega)]
      exact ih.1 (by omega)
    · intro o ho hs
      show (if x = Int32.ofInt lo then _ else _) = _
      by_cases q : x.toInt = lo
      · rw [if_pos (hx.mpr q)]
        rw [q, show (lo - lo).toNat = 0 by omega] at hs
        cases hs
        rfl
      · rw [if_neg (fun z => q (hx.mp z))]
        refine ih.2 o (by omega) ?_
        rw [show (x.toInt - lo).toNat = (x.toInt - (lo + 1)).toNat + 1 by omega] at hs
        exact hs
theorem am_to_lk {x : Int32} {pc : Nat} {df : Int} {d : Nat} (hd : (pc : Int) + df = (d : Int)) : ∀ (ps : List (Int × Int)), (∀ r ∈ ps, 0 ≤ (pc : Int) + r.2 ∧ -2147483648 ≤ r.1 ∧ r.1 ≤ 2147483647) →
    (pc : Int) + Op.lookupswitch.offset ps df x.toInt = (am_to x d (ps.map fun r => (Int32.ofInt r.1, ((pc : Int) + r.2).toNat)) : Nat)
  | [], _ => hd
  | (k, o) :: ps, h => by
    have h0 := h (k, o) List.mem_cons_self
    have hx : x = Int32.ofInt k ↔ x.toInt = k := am_i32 h0.2.1 h0.2.2
    have ih := am_to_lk (x := x) hd ps fun r hr => h r (List.mem_cons_of_mem _ hr)
    show _ = ((if x = Int32.ofInt k then ((pc : Int) + o).toNat else _ : Nat) : Int)
    by_cases q : x.toInt = k
    · rw [if_pos (hx.mpr q)]
      have : Op.lookupswitch.offset ((k, o) :: ps) df x.toInt = o := by simp [Op.lookupswitch.offset, q]
      rw [this]
      have h1 : 0 ≤ (pc : Int) + o := h0.1
      omega
    · rw [if_neg (fun z => q (hx.mp z))]
      rw [lv_osw (k := Int32.ofInt k) (fun z => q (hx.mp z)) (Int32.toInt_ofInt_of_le (by omega) (by omega))]
      exact ih
set_option maxHeartbeats 4000000 in
theorem am_s_j (C : am_ctx p s m args meth c g own i n0) {ini : Bool} {rt : Option FieldType} {M : am_M} {pc nx k a b : Nat} {v : Int32} {d : Instr × Nat} (hd : decode (am_cc i) pc = .ok d) (hn : nx = pc + d.2) (hc : am_dec own ini rt (am_nL i) M (pc, nx, k, a, b, v) d = true) {ls : List (Option Value)} {st : List Value} {w : am_W}
    (h : am_xj M.2.2 nx k a b st fun pc st => am_AW p l e R s m args below meth c Qf g i n0 n1 pc ls st w) : am_AW p l e R s m args below meth c Qf g i n0 n1 pc ls st w := by
  obtain ⟨hx, hb, hml, hown, hts, hlk, hrt, hnm, hg, hal, hsz, hlo⟩ := C
  intro hn0 H locs lsr hR hS hl
  subst hn
  unfold am_xj at h
  split at h
  · simp only [am_dec] at hc
    split at hc
    · exact lv_goto hx hb hd (of_decide_eq_true hc) (h hn0 H locs lsr hR hS hl)
    · cases hc
  · simp only [am_dec] at hc
    split at hc
    · split at h
      · simp only [Bool.and_eq_true, decide_eq_true_eq] at hc
        obtain ⟨⟨h1, rfl⟩, h3⟩ := hc
        have ht := of_decide_eq_true h1
        match b, h3, h, hd with
        | 0, _, h, hd => exact lv_if_eq hx hb hd ht (fun q => h.1 q hn0 H locs lsr hR hS hl) (fun q => h.2 q hn0 H locs lsr hR hS hl)
        | 1, _, h, hd => exact lv_if_ne hx hb hd ht (fun q => h.1 q hn0 H locs lsr hR hS hl) (fun q => h.2 q hn0 H locs lsr hR hS hl)
        | 2, _, h, hd => exact lv_if_lt hx hb hd ht (fun q => h.1 q hn0 H locs lsr hR hS hl) (fun q => h.2 q hn0 H locs lsr hR hS hl)
        | 3, _, h, hd => exact lv_if_ge hx hb hd ht (fun q => h.1 q hn0 H locs lsr hR hS hl) (fun q => h.2 q hn0 H locs lsr hR hS hl)
        | 4, _, h, hd => exact lv_if_gt hx hb hd ht (fun q => h.1 q hn0 H locs lsr hR hS hl) (fun q => h.2 q hn0 H locs lsr hR hS hl)
        | 5, _, h, hd => exact lv_if_le hx hb hd ht (fun q => h.1 q hn0 H locs lsr hR hS hl) (fun q => h.2 q hn0 H locs lsr hR hS hl)
        | b + 6, h3, _, _ => omega
      · exact h.elim
    · cases hc
  · simp only [am_dec] at hc
    split at hc
    · split at h
      · simp only [Bool.and_eq_true, decide_eq_true_eq] at hc
        obtain ⟨⟨h1, rfl⟩, h3⟩ := hc
        have ht := of_decide_eq_true h1
        match b, h3, h, hd with
        | 0, _, h, hd => exact lv_icmp_eq hx hb hd ht (fun q => h.1 q hn0 H locs lsr hR hS hl) (fun q => h.2 q hn0 H locs lsr hR hS hl)
        | 1, _, h, hd => exact lv_icmp_ne hx hb hd ht (fun q => h.1 q hn0 H locs lsr hR hS hl) (fun q => h.2 q hn0 H locs lsr hR hS hl)
        | 2, _, h, hd => exact lv_icmp_lt hx hb hd ht (fun q => h.1 q hn0 H locs lsr hR hS hl) (fun q => h.2 q hn0 H locs lsr hR hS hl)
        | 3, _, h, hd => exact lv_icmp_ge hx hb hd ht (fun q => h.1 q hn0 H locs lsr hR hS hl) (fun q => h.2 q hn0 H locs lsr hR hS hl)
        | 4, _, h, hd => exact lv_icmp_gt hx hb hd ht (fun q => h.1 q hn0 H locs lsr hR hS hl) (fun q => h.2 q hn0 H locs lsr hR hS hl)
        | 5, _, h, hd => exact lv_icmp_le hx hb hd ht (fun q => h.1 q hn0 H locs lsr hR hS hl) (fun q => h.2 q hn0 H locs lsr hR hS hl)
        | b + 6, h3, _, _ => omega
      · exact h.elim
    · cases hc
  · simp only [am_dec] at hc
    split at hc
    · split at h
      · exact lv_ifnullN hx hb hd (of_decide_eq_true hc) (h hn0 H locs lsr hR hS hl)
      · exact lv_ifnull hx hb hd (h hn0 H locs lsr hR hS hl)
      · exact h.elim
    · cases hc
  · simp only [am_dec] at hc
    split at hc
    · split at h
      · exact lv_ifnonnullN hx hb hd (h hn0 H locs lsr hR hS hl)
      · exact lv_ifnonnull hx hb hd (of_decide_eq_true hc) (h hn0 H locs lsr hR hS hl)
      · exact h.elim
    · cases hc
  · split at h
    · next x r =>
      have h := am_sw_to h
      simp only [am_dec] at hc
      split at hc
      · next df lo hi os len =>
        simp only [Bool.and_eq_true, decide_eq_true_eq, List.all_eq_true] at hc
        obtain ⟨⟨⟨h1, h2⟩, h3, h4, h5, h6⟩, h7⟩ := hc
        have ht := of_decide_eq_true h1
        rw [h2] at h
        have hlen : (os.toList.length : Int) = os.size := by simp
        have ht2 := am_to_tb (x := x) (pc := pc) (d := a) os.toList lo h3 (by omega)
        by_cases ho : x.toInt < lo ∨ hi < x.toInt
        · rw [ht2.1 (by omega)] at h
          exact lv_tableOut hx hb hd ho ht (h hn0 H locs lsr hR hS hl)
        · have hlt : (x.toInt - lo).toNat < os.toList.length := by omega
          have hsome := List.getElem?_eq_getElem hlt
          generalize hv : os.toList[(x.toInt - lo).toNat] = o at hsome
          have hmem : o ∈ os.toList := List.mem_of_getElem? hsome
          rw [ht2.2 o (by omega) hsome] at h
          refine lv_tableIn hx hb hd (fun q => ho (Or.inl q)) (fun q => ho (Or.inr q)) (off := o) (by rw [← Array.getElem?_toList]; exact hsome) ?_ (h hn0 H locs lsr hR hS hl)
          have := h7 o hmem
          omega
      · next df ps len =>
        simp only [Bool.and_eq_true, decide_eq_true_eq] at hc
        obtain ⟨⟨⟨h1, h2⟩, h3⟩, h4⟩ := hc
        have ht := of_decide_eq_true h1
        rw [h2] at h
        refine lv_lookup hx hb hd h3 rfl ?_ (h hn0 H locs lsr hR hS hl)
        exact am_to_lk ht ps.toList fun r hr => of_decide_eq_true (List.all_eq_true.mp h4 r hr)
      · cases hc
    · exact h.elim
  · exact h.elim
end AMS
