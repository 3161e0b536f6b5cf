/-! ===== load ===== -/
/-- of like ways between two points the first told is held -/
theorem hp_le {W : List (Nat × Nat × Nat)} {a b j : Nat} {q : Nat × Nat × Nat} (hq : W[j]? = some q) (hab : (a = q.1 ∧ b = q.2.1) ∨ (a = q.2.1 ∧ b = q.1)) : ∀ n, j < n → mi_ W (hp_ W n a b) ≤ q.2.2
  | 0, h => by omega
  | n + 1, h => by
    cases hr : W[n]? with
    | none =>
      rw [hp_n hr]
      by_cases e : j = n
      · rw [e, hr] at hq; cases hq
      · exact hp_le hq hab n (by omega)
    | some r =>
      rw [hp_s hr]
      by_cases e : j = n
      · rw [e, hr] at hq
        cases hq
        rw [if_pos hab, of_mi hr]
        by_cases c : q.2.2 < mi_ W (hp_ W n a b)
        · rw [if_pos c]; exact Nat.le_refl _
        · rw [if_neg c]; omega
      · have ih := hp_le hq hab n (by omega)
        by_cases d : (a = r.1 ∧ b = r.2.1) ∨ (a = r.2.1 ∧ b = r.1)
        · rw [if_pos d, of_mi hr]
          by_cases c : r.2.2 < mi_ W (hp_ W n a b)
          · rw [if_pos c]; omega
          · rw [if_neg c]; exact ih
        · rw [if_neg d]; exact ih
theorem hp_lt {W : List (Nat × Nat × Nat)} {a b j : Nat} {q : Nat × Nat × Nat} (hq : W[j]? = some q) (hab : (a = q.1 ∧ b = q.2.1) ∨ (a = q.2.1 ∧ b = q.1)) : ∀ n i, hp_ W n a b = some i → j < i → mi_ W (some i) < q.2.2
  | 0, _, h, _ => by cases h
  | n + 1, i, h, hji => by
    cases hr : W[n]? with
    | none =>
      rw [hp_n hr] at h
      exact hp_lt hq hab n i h hji
    | some r =>
      rw [hp_s hr] at h
      by_cases d : (a = r.1 ∧ b = r.2.1) ∨ (a = r.2.1 ∧ b = r.1)
      · rw [if_pos d] at h
        unfold of_ at h
        by_cases c : r.2.2 < mi_ W (hp_ W n a b)
        · rw [if_pos c] at h
          cases h
          rw [mi_some hr]
          have := hp_le hq hab n hji
          omega
        · rw [if_neg c] at h
          exact hp_lt hq hab n i h hji
      · rw [if_neg d] at h
        exact hp_lt hq hab n i h hji
theorem wayof_ {W : List (Nat × Nat × Nat)} (hW : wok_ W) {m : fm_} (hr : wm_ W m) (ht : tb_ (hm_ W) 121 m) {a b i : Nat} (ha : a < 12) (hb : b < 12) (hi : hp_ W W.length a b = some i) : f_X12_wayOf (nI a) (nI b) m = some (nI i, m) := by
  have hl := hW.1
  obtain ⟨h1, qi, h2, h3⟩ := hp_u _ _ _ _ hi
  have hmi : hm_ W a b = qi.2.2 := by unfold hm_; rw [hi, mi_some h2]
  have t := tb_c ht ha hb
  have vi := hW.2 qi (List.mem_of_getElem? h2)
  obtain ⟨gi1, gi2, gi3⟩ := hr.2 i qi h2
  obtain ⟨s, e, _⟩ := lp0_ (n := i) (F := fun j (_ : Unit) => f_X12_wayOf_2 (nI a) (nI b) (nI j) m) (I := fun _ _ => True) (fun j _ hj _ => by
    refine ⟨(), ?_, trivial⟩
    show f_X12_wayOf_2 (nI a) (nI b) (nI j) m = f_X12_wayOf_2 (nI a) (nI b) (nI (j + 1)) m
    have hjl : j < W.length := by omega
    have hq := List.getElem?_eq_getElem hjl
    generalize W[j] = q at hq
    obtain ⟨g1, g2, g3⟩ := hr.2 j q hq
    have vq := hW.2 q (List.mem_of_getElem? hq)
    rw [e_X12_wayOf_2]
    by_cases c1 : q.2.2 = qi.2.2
    · have hn : ¬ ((a = q.1 ∧ b = q.2.1) ∨ (a = q.2.1 ∧ b = q.1)) := fun x => by
        have := hp_lt hq x _ _ hi hj
        rw [mi_some h2] at this
        omega
      by_cases d1 : q.1 = a
      · have d2 : ¬ q.2.1 = b := by omega
        have d3 : ¬ (q.1 = b ∧ q.2.1 = a) := by omega
        by_cases d4 : q.1 = b
        · exfalso
          omega
        · simp (disch := omega) only [↓reduceIte, ↓ns_m1, ns_let, ns_lef, ns_ltt, ns_ltf, ns_eqt, ns_eqf, ns_gd, nI_clamp, nI_add, pk_sub, pk_mul, ns_m1a, ns_m1b, ns_m1c, ns_m1d, ns_m1e, ns_m1f, ns_m1g, ns_un1, ns_un0, ns_day1, Option.bind_some, gi_si_self, gi_si_ne, gl_si, gi_sl, gl_sl_self, gl_sl_ne, if_true, if_false, ns_i0, ns_i1, ns_i2, ns_i3, ns_i4, ns_i5, ns_i6, ns_i7, ns_i8, ns_i9, ns_i10, ns_i11, ns_i12, ns_i13, ns_i20, ns_i23, ns_i24, ns_i31, ns_i50, ns_i60, ns_i99, ns_i100, ns_i144, ns_i200, ns_i255, ns_i700, ns_i880, ns_i899, ns_i900, ns_i901, ns_i999, ns_i1000, ns_i1440, ns_i4095, ns_i1000000, g1, g2, g3, t, hmi]
      · by_cases d4 : q.1 = b
        · have d5 : ¬ q.2.1 = a := by omega
          simp (disch := omega) only [↓reduceIte, ↓ns_m1, ns_let, ns_lef, ns_ltt, ns_ltf, ns_eqt, ns_eqf, ns_gd, nI_clamp, nI_add, pk_sub, pk_mul, ns_m1a, ns_m1b, ns_m1c, ns_m1d, ns_m1e, ns_m1f, ns_m1g, ns_un1, ns_un0, ns_day1, Option.bind_some, gi_si_self, gi_si_ne, gl_si, gi_sl, gl_sl_self, gl_sl_ne, if_true, if_false, ns_i0, ns_i1, ns_i2, ns_i3, ns_i4, ns_i5, ns_i6, ns_i7, ns_i8, ns_i9, ns_i10, ns_i11, ns_i12, ns_i13, ns_i20, ns_i23, ns_i24, ns_i31, ns_i50, ns_i60, ns_i99, ns_i100, ns_i144, ns_i200, ns_i255, ns_i700, ns_i880, ns_i899, ns_i900, ns_i901, ns_i999, ns_i1000, ns_i1440, ns_i4095, ns_i1000000, g1, g2, g3, t, hmi]
        · simp (disch := omega) only [↓reduceIte, ↓ns_m1, ns_let, ns_lef, ns_ltt, ns_ltf, ns_eqt, ns_eqf, ns_gd, nI_clamp, nI_add, pk_sub, pk_mul, ns_m1a, ns_m1b, ns_m1c, ns_m1d, ns_m1e, ns_m1f, ns_m1g, ns_un1, ns_un0, ns_day1, Option.bind_some, gi_si_self, gi_si_ne, gl_si, gi_sl, gl_sl_self, gl_sl_ne, if_true, if_false, ns_i0, ns_i1, ns_i2, ns_i3, ns_i4, ns_i5, ns_i6, ns_i7, ns_i8, ns_i9, ns_i10, ns_i11, ns_i12, ns_i13, ns_i20, ns_i23, ns_i24, ns_i31, ns_i50, ns_i60, ns_i99, ns_i100, ns_i144, ns_i200, ns_i255, ns_i700, ns_i880, ns_i899, ns_i900, ns_i901, ns_i999, ns_i1000, ns_i1440, ns_i4095, ns_i1000000, g1, g2, g3, t, hmi]
    · simp (disch := omega) only [↓reduceIte, ↓ns_m1, ns_let, ns_lef, ns_ltt, ns_ltf, ns_eqt, ns_eqf, ns_gd, nI_clamp, nI_add, pk_sub, pk_mul, ns_m1a, ns_m1b, ns_m1c, ns_m1d, ns_m1e, ns_m1f, ns_m1g, ns_un1, ns_un0, ns_day1, Option.bind_some, gi_si_self, gi_si_ne, gl_si, gi_sl, gl_sl_self, gl_sl_ne, if_true, if_false, ns_i0, ns_i1, ns_i2, ns_i3, ns_i4, ns_i5, ns_i6, ns_i7, ns_i8, ns_i9, ns_i10, ns_i11, ns_i12, ns_i13, ns_i20, ns_i23, ns_i24, ns_i31, ns_i50, ns_i60, ns_i99, ns_i100, ns_i144, ns_i200, ns_i255, ns_i700, ns_i880, ns_i899, ns_i900, ns_i901, ns_i999, ns_i1000, ns_i1440, ns_i4095, ns_i1000000, g1, g2, g3, t, hmi]) (s := ()) trivial
  have e : f_X12_wayOf_2 (nI a) (nI b) (nI 0) m = f_X12_wayOf_2 (nI a) (nI b) (nI i) m := e
  show f_X12_wayOf_2 (nI a) (nI b) (nI 0) m = _
  rw [e, e_X12_wayOf_2]
  rcases h3 with ⟨x1, x2⟩ | ⟨x1, x2⟩
  · simp (disch := omega) only [↓reduceIte, ↓ns_m1, ns_let, ns_lef, ns_ltt, ns_ltf, ns_eqt, ns_eqf, ns_gd, nI_clamp, nI_add, pk_sub, pk_mul, ns_m1a, ns_m1b, ns_m1c, ns_m1d, ns_m1e, ns_m1f, ns_m1g, ns_un1, ns_un0, ns_day1, Option.bind_some, gi_si_self, gi_si_ne, gl_si, gi_sl, gl_sl_self, gl_sl_ne, if_true, if_false, ns_i0, ns_i1, ns_i2, ns_i3, ns_i4, ns_i5, ns_i6, ns_i7, ns_i8, ns_i9, ns_i10, ns_i11, ns_i12, ns_i13, ns_i20, ns_i23, ns_i24, ns_i31, ns_i50, ns_i60, ns_i99, ns_i100, ns_i144, ns_i200, ns_i255, ns_i700, ns_i880, ns_i899, ns_i900, ns_i901, ns_i999, ns_i1000, ns_i1440, ns_i4095, ns_i1000000, gi1, gi2, gi3, t, hmi]
  · have d1 : ¬ qi.1 = a := by have := vi.2.2.1; omega
    simp (disch := omega) only [↓reduceIte, ↓ns_m1, ns_let, ns_lef, ns_ltt, ns_ltf, ns_eqt, ns_eqf, ns_gd, nI_clamp, nI_add, pk_sub, pk_mul, ns_m1a, ns_m1b, ns_m1c, ns_m1d, ns_m1e, ns_m1f, ns_m1g, ns_un1, ns_un0, ns_day1, Option.bind_some, gi_si_self, gi_si_ne, gl_si, gi_sl, gl_sl_self, gl_sl_ne, if_true, if_false, ns_i0, ns_i1, ns_i2, ns_i3, ns_i4, ns_i5, ns_i6, ns_i7, ns_i8, ns_i9, ns_i10, ns_i11, ns_i12, ns_i13, ns_i20, ns_i23, ns_i24, ns_i31, ns_i50, ns_i60, ns_i99, ns_i100, ns_i144, ns_i200, ns_i255, ns_i700, ns_i880, ns_i899, ns_i900, ns_i901, ns_i999, ns_i1000, ns_i1440, ns_i4095, ns_i1000000, gi1, gi2, gi3, t, hmi]
/-- cars of one way along a route -/
def ldp_ (W : List (Nat × Nat × Nat)) (w k : Nat) : Nat → List Nat → Nat → Nat
  | _, [], acc => acc
  | p, q :: r, acc => ldp_ W w k q r (if hp_ W W.length p q = some w then acc + k else acc)
/-- each step of a route is by a way -/
def hops_ (W : List (Nat × Nat × Nat)) : Nat → List Nat → Prop
  | _, [] => True
  | p, q :: r => (∃ i, hp_ W W.length p q = some i) ∧ hops_ W q r
theorem ptl_hops {W : List (Nat × Nat × Nat)} (hW : wok_ W) {z v c g : Nat} : ∀ (n p t : Nat), hops_ W p (ptl_ W z v c g n p t)
  | 0, _, _ => trivial
  | n + 1, p, t => by
    by_cases h : p = g
    · subst h
      rw [ptl_g]
      exact trivial
    · cases e : nx_ W z v c g p t with
      | none =>
        have : ptl_ W z v c g (n + 1) p t = [] := by
          show (if p = g then [] else match nx_ W z v c g p t with
            | none => []
            | some q => q :: ptl_ W z v c g n q (nt_ z t q)) = _
          rw [if_neg h, e]
        rw [this]
        exact trivial
      | some q =>
        rw [ptl_s h e]
        have hq := nxp_u.mp (fst_u _ _ _ e).2.2
        exact ⟨(hm_some hW).mp hq.1, ptl_hops hW n q _⟩
theorem ldp_b {W : List (Nat × Nat × Nat)} {w k : Nat} (hk : k ≤ 99) : ∀ (r : List Nat) (p acc : Nat), ldp_ W w k p r acc ≤ acc + 99 * r.length
  | [], _, _ => by show _ ≤ _ + 99 * 0; exact Nat.le_refl _
  | q :: r, p, acc => by
    have := ldp_b (W := W) (w := w) hk r q (if hp_ W W.length p q = some w then acc + k else acc)
    show ldp_ W w k q r _ ≤ _
    rw [List.length_cons]
    by_cases c : hp_ W W.length p q = some w
    · rw [if_pos c] at this ⊢; omega
    · rw [if_neg c] at this ⊢; omega
/-- all trips -/
def lds_ (W : List (Nat × Nat × Nat)) (z : Nat) (O : List od_) (TR : tp_) (w d : Nat) (b : Bool) : Nat → Nat
  | 0 => 0
  | n + 1 => match TR[n]? with
    | none => lds_ W z O TR w d b n
    | some q => ldp_ W w q.2.2.1 q.1 (rtl_ W z O q d b) (lds_ W z O TR w d b n)
theorem lds_s {W : List (Nat × Nat × Nat)} {z : Nat} {O : List od_} {TR : tp_} {w d : Nat} {b : Bool} {n : Nat} {q : Nat × Nat × Nat × Nat × Nat} (h : TR[n]? = some q) : lds_ W z O TR w d b (n + 1) = ldp_ W w q.2.2.1 q.1 (rtl_ W z O q d b) (lds_ W z O TR w d b n) := by
  show (match TR[n]? with
    | none => lds_ W z O TR w d b n
    | some q => ldp_ W w q.2.2.1 q.1 (rtl_ W z O q d b) (lds_ W z O TR w d b n)) = _
  rw [h]
theorem lds_b {W : List (Nat × Nat × Nat)} {z : Nat} {O : List od_} {TR : tp_} (hT : tok_ W TR) {w d : Nat} {b : Bool} : ∀ n, lds_ W z O TR w d b n ≤ 1188 * n
  | 0 => Nat.zero_le _
  | n + 1 => by
    have ih := lds_b (O := O) hT (z := z) (w := w) (d := d) (b := b) n
    cases e : TR[n]? with
    | none =>
      have : lds_ W z O TR w d b (n + 1) = lds_ W z O TR w d b n := by
        show (match TR[n]? with
          | none => lds_ W z O TR w d b n
          | some q => ldp_ W w q.2.2.1 q.1 (rtl_ W z O q d b) (lds_ W z O TR w d b n)) = _
        rw [e]
      omega
    | some q =>
      have hv := hT.2 q (List.mem_of_getElem? e)
      have hb := (rtl_12 (W := W) (z := z) (O := O) (d := d) (b := b) hv.1).1
      have := ldp_b (W := W) (w := w) hv.2.2.2.2.2.1 (rtl_ W z O q d b) q.1 (lds_ W z O TR w d b n)
      rw [List.length_cons] at hb
      rw [lds_s e]
      omega
theorem ld_c {W : List (Nat × Nat × Nat)} {m : fm_} (hr : hr_ W m) {V : List Nat} {n0 : Nat} (hV : rou_ V n0 m) (h12 : V.length ≤ 12) (hx : ∀ x ∈ V, x < 12) {w k i : Nat} (hw : w < 24) (hk : k ≤ 99) (hi : i < 20) (hc : gi_ m 101 i = nI k) {x2 x3 : Int32} (hWl : W.length ≤ 24) : ∀ (r : List Nat) (x j acc : Nat), V.drop j = x :: r → f_X10_carsOn_26 (nI w) x2 x3 (nI acc) (nI i) (nI (j + 1)) m = f_X10_carsOn_6 (nI w) x2 x3 (nI (ldp_ W w k x r acc)) (nI (i + 1)) m := by
  intro r
  induction r with
  | nil =>
    intro x j acc h
    obtain ⟨h1, h2, h3⟩ := drop_s h
    have : V.length ≤ j + 1 := by
      have := congrArg List.length h2
      rw [List.length_drop, List.length_nil] at this
      omega
    rw [e_X10_carsOn_26]
    simp (disch := omega) only [↓reduceIte, ↓ns_m1, ns_let, ns_lef, ns_ltt, ns_ltf, ns_eqt, ns_eqf, ns_gd, nI_clamp, nI_add, pk_sub, pk_mul, ns_m1a, ns_m1b, ns_m1c, ns_m1d, ns_m1e, ns_m1f, ns_m1g, ns_un1, ns_un0, ns_day1, Option.bind_some, gi_si_self, gi_si_ne, gl_si, gi_sl, gl_sl_self, gl_sl_ne, if_true, if_false, ns_i0, ns_i1, ns_i2, ns_i3, ns_i4, ns_i5, ns_i6, ns_i7, ns_i8, ns_i9, ns_i10, ns_i11, ns_i12, ns_i13, ns_i20, ns_i23, ns_i24, ns_i31, ns_i50, ns_i60, ns_i99, ns_i100, ns_i144, ns_i200, ns_i255, ns_i700, ns_i880, ns_i899, ns_i900, ns_i901, ns_i999, ns_i1000, ns_i1440, ns_i4095, ns_i1000000, hV.1]
    rfl
  | cons y r ih =>
    intro x j acc h
    obtain ⟨h1, h2, h3⟩ := drop_s h
    obtain ⟨k1, k2, k3⟩ := drop_s h2
    have g1 := hV.2.2.2 j x h1
    have g2 := hV.2.2.2 (j + 1) y k1
    have bx := hx x (List.mem_of_getElem? h1)
    have by1 := hx y (List.mem_of_getElem? k1)
    have hop := hop_ hr bx by1
    have es : j + 1 - 1 = j := by omega
    have ih1 := ih y (j + 1) (acc + k) h2
    have ih2 := ih y (j + 1) acc h2
    rw [e_X10_carsOn_26]
    show _ = f_X10_carsOn_6 (nI w) x2 x3 (nI (ldp_ W w k y r (if hp_ W W.length x y = some w then acc + k else acc))) (nI (i + 1)) m
    cases e : hp_ W W.length x y with
    | none =>
      rw [e] at hop
      have hop : f_X9_hop (nI x) (nI y) m = some (-1, m) := hop
      have en : ¬ (none : Option Nat) = some w := fun q => by cases q
      simp (disch := omega) only [↓reduceIte, ↓ns_m1, ns_let, ns_lef, ns_ltt, ns_ltf, ns_eqt, ns_eqf, ns_gd, nI_clamp, nI_add, pk_sub, pk_mul, ns_m1a, ns_m1b, ns_m1c, ns_m1d, ns_m1e, ns_m1f, ns_m1g, ns_un1, ns_un0, ns_day1, Option.bind_some, gi_si_self, gi_si_ne, gl_si, gi_sl, gl_sl_self, gl_sl_ne, if_true, if_false, ns_i0, ns_i1, ns_i2, ns_i3, ns_i4, ns_i5, ns_i6, ns_i7, ns_i8, ns_i9, ns_i10, ns_i11, ns_i12, ns_i13, ns_i20, ns_i23, ns_i24, ns_i31, ns_i50, ns_i60, ns_i99, ns_i100, ns_i144, ns_i200, ns_i255, ns_i700, ns_i880, ns_i899, ns_i900, ns_i901, ns_i999, ns_i1000, ns_i1440, ns_i4095, ns_i1000000, hV.1, es, g1, g2, hop, en, ih2]
    | some u =>
      rw [e] at hop
      have hop : f_X9_hop (nI x) (nI y) m = some (nI u, m) := hop
      have hu := (hp_u _ _ _ _ e).1
      by_cases c : u = w
      · subst c
        simp (disch := omega) only [↓reduceIte, ↓ns_m1, ns_let, ns_lef, ns_ltt, ns_ltf, ns_eqt, ns_eqf, ns_gd, nI_clamp, nI_add, pk_sub, pk_mul, ns_m1a, ns_m1b, ns_m1c, ns_m1d, ns_m1e, ns_m1f, ns_m1g, ns_un1, ns_un0, ns_day1, Option.bind_some, gi_si_self, gi_si_ne, gl_si, gi_sl, gl_sl_self, gl_sl_ne, if_true, if_false, ns_i0, ns_i1, ns_i2, ns_i3, ns_i4, ns_i5, ns_i6, ns_i7, ns_i8, ns_i9, ns_i10, ns_i11, ns_i12, ns_i13, ns_i20, ns_i23, ns_i24, ns_i31, ns_i50, ns_i60, ns_i99, ns_i100, ns_i144, ns_i200, ns_i255, ns_i700, ns_i880, ns_i899, ns_i900, ns_i901, ns_i999, ns_i1000, ns_i1440, ns_i4095, ns_i1000000, hV.1, es, g1, g2, hop, hc, ih1]
      · have en : ¬ some u = some w := fun q => c (Option.some.inj q)
        simp (disch := omega) only [↓reduceIte, ↓ns_m1, ns_let, ns_lef, ns_ltt, ns_ltf, ns_eqt, ns_eqf, ns_gd, nI_clamp, nI_add, pk_sub, pk_mul, ns_m1a, ns_m1b, ns_m1c, ns_m1d, ns_m1e, ns_m1f, ns_m1g, ns_un1, ns_un0, ns_day1, Option.bind_some, gi_si_self, gi_si_ne, gl_si, gi_sl, gl_sl_self, gl_sl_ne, if_true, if_false, ns_i0, ns_i1, ns_i2, ns_i3, ns_i4, ns_i5, ns_i6, ns_i7, ns_i8, ns_i9, ns_i10, ns_i11, ns_i12, ns_i13, ns_i20, ns_i23, ns_i24, ns_i31, ns_i50, ns_i60, ns_i99, ns_i100, ns_i144, ns_i200, ns_i255, ns_i700, ns_i880, ns_i899, ns_i900, ns_i901, ns_i999, ns_i1000, ns_i1440, ns_i4095, ns_i1000000, hV.1, es, g1, g2, hop, en, ih2]
def sld_ (W : List (Nat × Nat × Nat)) (z : Nat) (O : List od_) (TR : tp_) (x1 x2 : Int32) (b : Bool) : Int32 := match nat_ x1 W.length, nat_ x2 100 with
  | some w, some d => nI (lds_ W z O TR w d b TR.length)
  | _, _ => -1
theorem load_c {W : List (Nat × Nat × Nat)} {z : Nat} {O : List od_} {TR : tp_} (hk : dwok_ W z O TR) {m : fm_} (hm : dwc_ W z O TR m) (x1 x2 : Int32) (b : Bool) : ∃ m1, f_X11_load x1 x2 (b01_ b) m = some (sld_ W z O TR x1 x2 b, m1) ∧ dwc_ W z O TR m1 := by
  have hl := hk.2.2.2.1
  have hWl := hk.1.1
  unfold f_X11_load sld_
  rw [hm.1.1.1.1]
  rcases nat_ix x1 (n := W.length) (by omega) with ⟨e, _⟩ | ⟨w, hw, rfl, e, -⟩
  · rw [e]
    simp (disch := omega) only [↓reduceIte, ↓ns_m1, ns_let, ns_lef, ns_ltt, ns_ltf, ns_eqt, ns_eqf, ns_gd, nI_clamp, nI_add, pk_sub, pk_mul, ns_m1a, ns_m1b, ns_m1c, ns_m1d, ns_m1e, ns_m1f, ns_m1g, ns_un1, ns_un0, ns_day1, Option.bind_some, gi_si_self, gi_si_ne, gl_si, gi_sl, gl_sl_self, gl_sl_ne, if_true, if_false, ns_i0, ns_i1, ns_i2, ns_i3, ns_i4, ns_i5, ns_i6, ns_i7, ns_i8, ns_i9, ns_i10, ns_i11, ns_i12, ns_i13, ns_i20, ns_i23, ns_i24, ns_i31, ns_i50, ns_i60, ns_i99, ns_i100, ns_i144, ns_i200, ns_i255, ns_i700, ns_i880, ns_i899, ns_i900, ns_i901, ns_i999, ns_i1000, ns_i1440, ns_i4095, ns_i1000000, und0 e]
    exact ⟨m, rfl, hm⟩
  rcases nat_ix x2 (n := 100) (by omega) with ⟨e2, _⟩ | ⟨d, hd, rfl, e2, -⟩
  · rw [e, e2]
    simp (disch := omega) only [↓reduceIte, ↓ns_m1, ns_let, ns_lef, ns_ltt, ns_ltf, ns_eqt, ns_eqf, ns_gd, nI_clamp, nI_add, pk_sub, pk_mul, ns_m1a, ns_m1b, ns_m1c, ns_m1d, ns_m1e, ns_m1f, ns_m1g, ns_un1, ns_un0, ns_day1, Option.bind_some, gi_si_self, gi_si_ne, gl_si, gi_sl, gl_sl_self, gl_sl_ne, if_true, if_false, ns_i0, ns_i1, ns_i2, ns_i3, ns_i4, ns_i5, ns_i6, ns_i7, ns_i8, ns_i9, ns_i10, ns_i11, ns_i12, ns_i13, ns_i20, ns_i23, ns_i24, ns_i31, ns_i50, ns_i60, ns_i99, ns_i100, ns_i144, ns_i200, ns_i255, ns_i700, ns_i880, ns_i899, ns_i900, ns_i901, ns_i999, ns_i1000, ns_i1440, ns_i4095, ns_i1000000, day0 e2]
    exact ⟨m, rfl, hm⟩
  rw [e, e2]
  obtain ⟨s, e1, h1⟩ := lp0_ (n := TR.length) (F := fun i (y : Int32 × fm_) => f_X10_carsOn_6 (nI w) (nI d) (b01_ b) y.1 (nI i) y.2) (I := fun i y => y.1 = nI (lds_ W z O TR w d b i) ∧ dwc_ W z O TR y.2) (fun i y hi hI => by
    obtain ⟨x, m0⟩ := y
    obtain ⟨i1, i2⟩ := hI
    have i1 : x = nI (lds_ W z O TR w d b i) := i1
    have i2 : dwc_ W z O TR m0 := i2
    subst i1
    have hq := List.getElem?_eq_getElem hi
    generalize TR[i] = q at hq
    have hv := hk.2.2.2.2 q (List.mem_of_getElem? hq)
    obtain ⟨m2, e2, r2, w2⟩ := follow_c hk i2 hq hd b
    have hb := rtl_12 (W := W) (z := z) (O := O) (d := d) (b := b) hv.1
    have hc := (w2.2.2.2 i q hq).2.2.1
    have ld := ld_c w2.1.1 r2 hb.1 hb.2 (show w < 24 by omega) hv.2.2.2.2.2.1 (show i < 20 by omega) hc hWl (x2 := nI d) (x3 := b01_ b) (rtl_ W z O q d b) q.1 0 (lds_ W z O TR w d b i) rfl
    refine ⟨(nI (lds_ W z O TR w d b (i + 1)), m2), ?_, rfl, w2⟩
    show f_X10_carsOn_6 (nI w) (nI d) (b01_ b) (nI (lds_ W z O TR w d b i)) (nI i) m0 = f_X10_carsOn_6 (nI w) (nI d) (b01_ b) (nI (lds_ W z O TR w d b (i + 1))) (nI (i + 1)) m2
    rw [e_X10_carsOn_6, lds_s hq]
    simp (disch := omega) only [↓reduceIte, ↓ns_m1, ns_let, ns_lef, ns_ltt, ns_ltf, ns_eqt, ns_eqf, ns_gd, nI_clamp, nI_add, pk_sub, pk_mul, ns_m1a, ns_m1b, ns_m1c, ns_m1d, ns_m1e, ns_m1f, ns_m1g, ns_un1, ns_un0, ns_day1, Option.bind_some, gi_si_self, gi_si_ne, gl_si, gi_sl, gl_sl_self, gl_sl_ne, if_true, if_false, ns_i0, ns_i1, ns_i2, ns_i3, ns_i4, ns_i5, ns_i6, ns_i7, ns_i8, ns_i9, ns_i10, ns_i11, ns_i12, ns_i13, ns_i20, ns_i23, ns_i24, ns_i31, ns_i50, ns_i60, ns_i99, ns_i100, ns_i144, ns_i200, ns_i255, ns_i700, ns_i880, ns_i899, ns_i900, ns_i901, ns_i999, ns_i1000, ns_i1440, ns_i4095, ns_i1000000, i2.2.2.1, e2]
    exact ld) (s := (nI 0, m)) ⟨rfl, hm⟩
  have e1 : f_X10_carsOn_6 (nI w) (nI d) (b01_ b) (nI 0) (nI 0) m = f_X10_carsOn_6 (nI w) (nI d) (b01_ b) s.1 (nI TR.length) s.2 := e1
  have e3 : f_X10_carsOn (nI w) (nI d) (b01_ b) m = some (s.1, s.2) := by
    show f_X10_carsOn_6 (nI w) (nI d) (b01_ b) (nI 0) (nI 0) m = _
    rw [e1, e_X10_carsOn_6]
    simp (disch := omega) only [↓reduceIte, ↓ns_m1, ns_let, ns_lef, ns_ltt, ns_ltf, ns_eqt, ns_eqf, ns_gd, nI_clamp, nI_add, pk_sub, pk_mul, ns_m1a, ns_m1b, ns_m1c, ns_m1d, ns_m1e, ns_m1f, ns_m1g, ns_un1, ns_un0, ns_day1, Option.bind_some, gi_si_self, gi_si_ne, gl_si, gi_sl, gl_sl_self, gl_sl_ne, if_true, if_false, ns_i0, ns_i1, ns_i2, ns_i3, ns_i4, ns_i5, ns_i6, ns_i7, ns_i8, ns_i9, ns_i10, ns_i11, ns_i12, ns_i13, ns_i20, ns_i23, ns_i24, ns_i31, ns_i50, ns_i60, ns_i99, ns_i100, ns_i144, ns_i200, ns_i255, ns_i700, ns_i880, ns_i899, ns_i900, ns_i901, ns_i999, ns_i1000, ns_i1440, ns_i4095, ns_i1000000, h1.2.2.2.1]
  simp (disch := omega) only [↓reduceIte, ↓ns_m1, ns_let, ns_lef, ns_ltt, ns_ltf, ns_eqt, ns_eqf, ns_gd, nI_clamp, nI_add, pk_sub, pk_mul, ns_m1a, ns_m1b, ns_m1c, ns_m1d, ns_m1e, ns_m1f, ns_m1g, ns_un1, ns_un0, ns_day1, Option.bind_some, gi_si_self, gi_si_ne, gl_si, gi_sl, gl_sl_self, gl_sl_ne, if_true, if_false, ns_i0, ns_i1, ns_i2, ns_i3, ns_i4, ns_i5, ns_i6, ns_i7, ns_i8, ns_i9, ns_i10, ns_i11, ns_i12, ns_i13, ns_i20, ns_i23, ns_i24, ns_i31, ns_i50, ns_i60, ns_i99, ns_i100, ns_i144, ns_i200, ns_i255, ns_i700, ns_i880, ns_i899, ns_i900, ns_i901, ns_i999, ns_i1000, ns_i1440, ns_i4095, ns_i1000000, e3]
  exact ⟨s.2, by rw [h1.1], h1.2⟩
theorem ld_m {W : List (Nat × Nat × Nat)} (hW : wok_ W) {m : fm_} (hr : wm_ W m) (ht : tb_ (hm_ W) 121 m) {V : List Nat} (hV : pth_ V m) (h12 : V.length ≤ 12) (hx : ∀ x ∈ V, x < 12) {w k i : Nat} (hw : w < 24) (hk : k ≤ 99) (hi : i < 20) (hc : gi_ m 162 i = nI k) {x2 x3 : Int32} : ∀ (r : List Nat) (x j acc : Nat), V.drop j = x :: r → hops_ W x r → f_X12_load_48 (nI w) x2 x3 (nI acc) (nI i) (nI (j + 1)) m = f_X12_load_27 (nI w) x2 x3 (nI (ldp_ W w k x r acc)) (nI (i + 1)) m := by
  have hWl := hW.1
  intro r
  induction r with
  | nil =>
    intro x j acc h _
    obtain ⟨h1, h2, h3⟩ := drop_s h
    have : V.length ≤ j + 1 := by
      have := congrArg List.length h2
      rw [List.length_drop, List.length_nil] at this
      omega
    rw [e_X12_load_48]
    simp (disch := omega) only [↓reduceIte, ↓ns_m1, ns_let, ns_lef, ns_ltt, ns_ltf, ns_eqt, ns_eqf, ns_gd, nI_clamp, nI_add, pk_sub, pk_mul, ns_m1a, ns_m1b, ns_m1c, ns_m1d, ns_m1e, ns_m1f, ns_m1g, ns_un1, ns_un0, ns_day1, Option.bind_some, gi_si_self, gi_si_ne, gl_si, gi_sl, gl_sl_self, gl_sl_ne, if_true, if_false, ns_i0, ns_i1, ns_i2, ns_i3, ns_i4, ns_i5, ns_i6, ns_i7, ns_i8, ns_i9, ns_i10, ns_i11, ns_i12, ns_i13, ns_i20, ns_i23, ns_i24, ns_i31, ns_i50, ns_i60, ns_i99, ns_i100, ns_i144, ns_i200, ns_i255, ns_i700, ns_i880, ns_i899, ns_i900, ns_i901, ns_i999, ns_i1000, ns_i1440, ns_i4095, ns_i1000000, hV.1]
    rfl
  | cons y r ih =>
    intro x j acc h hh
    obtain ⟨h1, h2, h3⟩ := drop_s h
    obtain ⟨k1, k2, k3⟩ := drop_s h2
    have g1 := hV.2 j x h1
    have g2 := hV.2 (j + 1) y k1
    have bx := hx x (List.mem_of_getElem? h1)
    have by1 := hx y (List.mem_of_getElem? k1)
    obtain ⟨⟨u, e⟩, hh2⟩ := hh
    have hu := (hp_u _ _ _ _ e).1
    have wo := wayof_ hW hr ht bx by1 e
    have es : j + 1 - 1 = j := by omega
    have ih1 := ih y (j + 1) (acc + k) h2 hh2
    have ih2 := ih y (j + 1) acc h2 hh2
    have e0 : acc + 0 = acc := by omega
    rw [e_X12_load_48]
    show _ = f_X12_load_27 (nI w) x2 x3 (nI (ldp_ W w k y r (if hp_ W W.length x y = some w then acc + k else acc))) (nI (i + 1)) m
    rw [e]
    by_cases c : u = w
    · subst c
      simp (disch := omega) only [↓reduceIte, ↓ns_m1, ns_let, ns_lef, ns_ltt, ns_ltf, ns_eqt, ns_eqf, ns_gd, nI_clamp, nI_add, pk_sub, pk_mul, ns_m1a, ns_m1b, ns_m1c, ns_m1d, ns_m1e, ns_m1f, ns_m1g, ns_un1, ns_un0, ns_day1, Option.bind_some, gi_si_self, gi_si_ne, gl_si, gi_sl, gl_sl_self, gl_sl_ne, if_true, if_false, ns_i0, ns_i1, ns_i2, ns_i3, ns_i4, ns_i5, ns_i6, ns_i7, ns_i8, ns_i9, ns_i10, ns_i11, ns_i12, ns_i13, ns_i20, ns_i23, ns_i24, ns_i31, ns_i50, ns_i60, ns_i99, ns_i100, ns_i144, ns_i200, ns_i255, ns_i700, ns_i880, ns_i899, ns_i900, ns_i901, ns_i999, ns_i1000, ns_i1440, ns_i4095, ns_i1000000, hV.1, es, g1, g2, wo, hc, ih1]
    · have en : ¬ some u = some w := fun q => c (Option.some.inj q)
      simp (disch := omega) only [↓reduceIte, ↓ns_m1, ns_let, ns_lef, ns_ltt, ns_ltf, ns_eqt, ns_eqf, ns_gd, nI_clamp, nI_add, pk_sub, pk_mul, ns_m1a, ns_m1b, ns_m1c, ns_m1d, ns_m1e, ns_m1f, ns_m1g, ns_un1, ns_un0, ns_day1, Option.bind_some, gi_si_self, gi_si_ne, gl_si, gi_sl, gl_sl_self, gl_sl_ne, if_true, if_false, ns_i0, ns_i1, ns_i2, ns_i3, ns_i4, ns_i5, ns_i6, ns_i7, ns_i8, ns_i9, ns_i10, ns_i11, ns_i12, ns_i13, ns_i20, ns_i23, ns_i24, ns_i31, ns_i50, ns_i60, ns_i99, ns_i100, ns_i144, ns_i200, ns_i255, ns_i700, ns_i880, ns_i899, ns_i900, ns_i901, ns_i999, ns_i1000, ns_i1440, ns_i4095, ns_i1000000, hV.1, es, g1, g2, wo, en, e0, ih2]
theorem load_m {W : List (Nat × Nat × Nat)} {z : Nat} {O : List od_} {TR : tp_} (hk : dwok_ W z O TR) {m : fm_} (hm : dwm_ W z O TR m) (x1 x2 : Int32) (b : Bool) : ∃ m1, f_X12_load x1 x2 (b01_ b) m = some (sld_ W z O TR x1 x2 b, m1) ∧ dwm_ W z O TR m1 := by
  have hl := hk.2.2.2.1
  have hWl := hk.1.1
  unfold f_X12_load sld_
  rw [hm.1.1]
  rcases nat_ix x1 (n := W.length) (by omega) with ⟨e, q | ⟨q, q2⟩⟩ | ⟨w, hw, rfl, e, -⟩
  · rw [e, if_pos q]
    exact ⟨m, rfl, hm⟩
  · rw [e, if_neg q, if_pos q2]
    exact ⟨m, rfl, hm⟩
  rcases nat_ix x2 (n := 100) (by omega) with ⟨e2, _⟩ | ⟨d, hd, rfl, e2, -⟩
  · rw [e, e2]
    simp (disch := omega) only [↓reduceIte, ↓ns_m1, ns_let, ns_lef, ns_ltt, ns_ltf, ns_eqt, ns_eqf, ns_gd, nI_clamp, nI_add, pk_sub, pk_mul, ns_m1a, ns_m1b, ns_m1c, ns_m1d, ns_m1e, ns_m1f, ns_m1g, ns_un1, ns_un0, ns_day1, Option.bind_some, gi_si_self, gi_si_ne, gl_si, gi_sl, gl_sl_self, gl_sl_ne, if_true, if_false, ns_i0, ns_i1, ns_i2, ns_i3, ns_i4, ns_i5, ns_i6, ns_i7, ns_i8, ns_i9, ns_i10, ns_i11, ns_i12, ns_i13, ns_i20, ns_i23, ns_i24, ns_i31, ns_i50, ns_i60, ns_i99, ns_i100, ns_i144, ns_i200, ns_i255, ns_i700, ns_i880, ns_i899, ns_i900, ns_i901, ns_i999, ns_i1000, ns_i1440, ns_i4095, ns_i1000000, day0m e2]
    exact ⟨m, rfl, hm⟩
  rw [e, e2]
  obtain ⟨s, e1, h1⟩ := lp0_ (n := TR.length) (F := fun i (y : Int32 × fm_) => f_X12_load_27 (nI w) (nI d) (b01_ b) y.1 (nI i) y.2) (I := fun i y => y.1 = nI (lds_ W z O TR w d b i) ∧ dwm_ W z O TR y.2) (fun i y hi hI => by
    obtain ⟨x, m0⟩ := y
    obtain ⟨i1, i2⟩ := hI
    have i1 : x = nI (lds_ W z O TR w d b i) := i1
    have i2 : dwm_ W z O TR m0 := i2
    subst i1
    have hq := List.getElem?_eq_getElem hi
    generalize TR[i] = q at hq
    have hv := hk.2.2.2.2 q (List.mem_of_getElem? hq)
    obtain ⟨m2, e2, r2, w2⟩ := go_ hk i2 hq hd b
    have hb := rtl_12 (W := W) (z := z) (O := O) (d := d) (b := b) hv.1
    have hc := (w2.2.2.2.2.2 i q hq).2.2.1
    have ld := ld_m hk.1 w2.1 w2.2.2.1.2 r2 hb.1 hb.2 (show w < 24 by omega) hv.2.2.2.2.2.1 (show i < 20 by omega) hc (x2 := nI d) (x3 := b01_ b) (rtl_ W z O q d b) q.1 0 (lds_ W z O TR w d b i) rfl (ptl_hops hk.1 _ _ _)
    refine ⟨(nI (lds_ W z O TR w d b (i + 1)), m2), ?_, rfl, w2⟩
    show f_X12_load_27 (nI w) (nI d) (b01_ b) (nI (lds_ W z O TR w d b i)) (nI i) m0 = f_X12_load_27 (nI w) (nI d) (b01_ b) (nI (lds_ W z O TR w d b (i + 1))) (nI (i + 1)) m2
    rw [e_X12_load_27, lds_s hq]
    simp (disch := omega) only [↓reduceIte, ↓ns_m1, ns_let, ns_lef, ns_ltt, ns_ltf, ns_eqt, ns_eqf, ns_gd, nI_clamp, nI_add, pk_sub, pk_mul, ns_m1a, ns_m1b, ns_m1c, ns_m1d, ns_m1e, ns_m1f, ns_m1g, ns_un1, ns_un0, ns_day1, Option.bind_some, gi_si_self, gi_si_ne, gl_si, gi_sl, gl_sl_self, gl_sl_ne, if_true, if_false, ns_i0, ns_i1, ns_i2, ns_i3, ns_i4, ns_i5, ns_i6, ns_i7, ns_i8, ns_i9, ns_i10, ns_i11, ns_i12, ns_i13, ns_i20, ns_i23, ns_i24, ns_i31, ns_i50, ns_i60, ns_i99, ns_i100, ns_i144, ns_i200, ns_i255, ns_i700, ns_i880, ns_i899, ns_i900, ns_i901, ns_i999, ns_i1000, ns_i1440, ns_i4095, ns_i1000000, i2.2.2.2.2.1, e2]
    exact ld) (s := (nI 0, m)) ⟨rfl, hm⟩
  have e1 : f_X12_load_27 (nI w) (nI d) (b01_ b) (nI 0) (nI 0) m = f_X12_load_27 (nI w) (nI d) (b01_ b) s.1 (nI TR.length) s.2 := e1
  have e3 : f_X12_load_27 (nI w) (nI d) (b01_ b) (nI 0) (nI 0) m = some (s.1, s.2) := by
    rw [e1, e_X12_load_27]
    simp (disch := omega) only [↓reduceIte, ↓ns_m1, ns_let, ns_lef, ns_ltt, ns_ltf, ns_eqt, ns_eqf, ns_gd, nI_clamp, nI_add, pk_sub, pk_mul, ns_m1a, ns_m1b, ns_m1c, ns_m1d, ns_m1e, ns_m1f, ns_m1g, ns_un1, ns_un0, ns_day1, Option.bind_some, gi_si_self, gi_si_ne, gl_si, gi_sl, gl_sl_self, gl_sl_ne, if_true, if_false, ns_i0, ns_i1, ns_i2, ns_i3, ns_i4, ns_i5, ns_i6, ns_i7, ns_i8, ns_i9, ns_i10, ns_i11, ns_i12, ns_i13, ns_i20, ns_i23, ns_i24, ns_i31, ns_i50, ns_i60, ns_i99, ns_i100, ns_i144, ns_i200, ns_i255, ns_i700, ns_i880, ns_i899, ns_i900, ns_i901, ns_i999, ns_i1000, ns_i1440, ns_i4095, ns_i1000000, h1.2.2.2.2.2.1]
  simp (disch := omega) only [↓reduceIte, ↓ns_m1, ns_let, ns_lef, ns_ltt, ns_ltf, ns_eqt, ns_eqf, ns_gd, nI_clamp, nI_add, pk_sub, pk_mul, ns_m1a, ns_m1b, ns_m1c, ns_m1d, ns_m1e, ns_m1f, ns_m1g, ns_un1, ns_un0, ns_day1, Option.bind_some, gi_si_self, gi_si_ne, gl_si, gi_sl, gl_sl_self, gl_sl_ne, if_true, if_false, ns_i0, ns_i1, ns_i2, ns_i3, ns_i4, ns_i5, ns_i6, ns_i7, ns_i8, ns_i9, ns_i10, ns_i11, ns_i12, ns_i13, ns_i20, ns_i23, ns_i24, ns_i31, ns_i50, ns_i60, ns_i99, ns_i100, ns_i144, ns_i200, ns_i255, ns_i700, ns_i880, ns_i899, ns_i900, ns_i901, ns_i999, ns_i1000, ns_i1440, ns_i4095, ns_i1000000, ns_day2, e3]
  exact ⟨s.2, by rw [h1.1], h1.2⟩
