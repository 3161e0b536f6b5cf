/-! ===== readings of a plate by minutes ===== -/
/-- where x goes, coming from n down -/
def plcn_ (mn : Nat → Nat) (L : List Nat) (x : Nat) : Nat → Nat
  | 0 => 0
  | n + 1 => if mn (rg_ L n) ≤ mn x then n + 1 else plcn_ mn L x n
def insat_ (L : List Nat) (x q : Nat) : List Nat := L.take q ++ x :: L.drop q
def ins_ (mn : Nat → Nat) (L : List Nat) (x : Nat) : List Nat := insat_ L x (plcn_ mn L x L.length)
theorem plcn_le {mn : Nat → Nat} {L : List Nat} {x : Nat} : ∀ n, plcn_ mn L x n ≤ n
  | 0 => Nat.le_refl _
  | n + 1 => by
    have := plcn_le (mn := mn) (L := L) (x := x) n
    unfold plcn_
    by_cases c : mn (rg_ L n) ≤ mn x
    · rw [if_pos c]; exact Nat.le_refl _
    · rw [if_neg c]; omega
theorem plcn_u {mn : Nat → Nat} {L : List Nat} {x : Nat} : ∀ n, (∀ j, plcn_ mn L x n ≤ j → j < n → mn x < mn (rg_ L j)) ∧ (0 < plcn_ mn L x n → mn (rg_ L (plcn_ mn L x n - 1)) ≤ mn x)
  | 0 => ⟨fun j _ h => by omega, fun h => absurd h (Nat.not_lt_zero _)⟩
  | n + 1 => by
    have ih := plcn_u (mn := mn) (L := L) (x := x) n
    by_cases c : mn (rg_ L n) ≤ mn x
    · have e : plcn_ mn L x (n + 1) = n + 1 := if_pos c
      rw [e]
      exact ⟨fun j h1 h2 => by omega, fun _ => c⟩
    · have e : plcn_ mn L x (n + 1) = plcn_ mn L x n := if_neg c
      rw [e]
      refine ⟨fun j h1 h2 => ?_, ih.2⟩
      by_cases ej : j = n
      · rw [ej]; omega
      · exact ih.1 j h1 (by omega)
theorem insat_len {L : List Nat} {x q : Nat} (hq : q ≤ L.length) : (insat_ L x q).length = L.length + 1 := by
  unfold insat_
  rw [List.length_append, List.length_cons, List.length_take, List.length_drop]
  omega
theorem insat_get {L : List Nat} {x q j r : Nat} (hq : q ≤ L.length) (h : (insat_ L x q)[j]? = some r) : (j < q ∧ L[j]? = some r) ∨ (j = q ∧ r = x) ∨ (q < j ∧ L[j - 1]? = some r) := by
  unfold insat_ at h
  have lt : (L.take q).length = q := by rw [List.length_take]; omega
  by_cases c : j < q
  · rw [List.getElem?_append_left (by omega), List.getElem?_take_of_lt c] at h
    exact Or.inl ⟨c, h⟩
  · rw [List.getElem?_append_right (by omega), lt] at h
    by_cases c2 : j = q
    · rw [c2, Nat.sub_self] at h
      cases h
      exact Or.inr (Or.inl ⟨c2, rfl⟩)
    · obtain ⟨i, hi⟩ : ∃ i, j - q = i + 1 := ⟨j - q - 1, by omega⟩
      rw [hi, List.getElem?_cons_succ, List.getElem?_drop, show q + i = j - 1 by omega] at h
      exact Or.inr (Or.inr ⟨by omega, h⟩)
theorem rg_mem {L : List Nat} {x : Nat} (h : x ∈ L) : ∃ j, j < L.length ∧ rg_ L j = x ∧ L[j]? = some x := by
  obtain ⟨j, hj⟩ := List.getElem?_of_mem h
  exact ⟨j, (List.getElem?_eq_some_iff.mp hj).1, rg_s hj, hj⟩
def srt_ (mn : Nat → Nat) (L : List Nat) : Prop := ∀ i j r s : Nat, i < j → L[i]? = some r → L[j]? = some s → mn r ≤ mn s
theorem ins_srt {mn : Nat → Nat} {L : List Nat} {x : Nat} (h : srt_ mn L) : srt_ mn (ins_ mn L x) := by
  have hq := plcn_le (mn := mn) (L := L) (x := x) L.length
  obtain ⟨u1, u2⟩ := plcn_u (mn := mn) (L := L) (x := x) L.length
  unfold ins_
  generalize plcn_ mn L x L.length = q at hq u1 u2
  intro i j r s hij hi hj
  have lo : ∀ l t : Nat, l < q → L[l]? = some t → mn t ≤ mn x := fun l t hl ht => by
    have e := List.getElem?_eq_getElem (show q - 1 < L.length by omega)
    have u3 := u2 (by omega)
    rw [rg_s e] at u3
    by_cases c : l = q - 1
    · rw [c, e] at ht; cases ht; exact u3
    · exact Nat.le_trans (h l (q - 1) t _ (by omega) ht e) u3
  have hi2 : ∀ l t : Nat, q ≤ l → L[l]? = some t → mn x ≤ mn t := fun l t hl ht => by
    have := u1 l hl (List.getElem?_eq_some_iff.mp ht).1
    rw [rg_s ht] at this
    omega
  rcases insat_get hq hi with ⟨a1, a2⟩ | ⟨a1, a2⟩ | ⟨a1, a2⟩
  · rcases insat_get hq hj with ⟨b1, b2⟩ | ⟨b1, b2⟩ | ⟨b1, b2⟩
    · exact h i j r s hij a2 b2
    · rw [b2]; exact lo i r a1 a2
    · exact h i (j - 1) r s (by omega) a2 b2
  · rcases insat_get hq hj with ⟨b1, b2⟩ | ⟨b1, b2⟩ | ⟨b1, b2⟩
    · omega
    · omega
    · rw [a2]; exact hi2 (j - 1) s (by omega) b2
  · rcases insat_get hq hj with ⟨b1, b2⟩ | ⟨b1, b2⟩ | ⟨b1, b2⟩
    · omega
    · omega
    · exact h (i - 1) (j - 1) r s (by omega) a2 b2
/-- those of a list that are of a plate, one after another put in -/
def gof_ (mn : Nat → Nat) (op : Nat → Bool) (l : List Nat) : List Nat := l.foldl (fun L r => if op r = true then ins_ mn L r else L) []
theorem gof_app {mn : Nat → Nat} {op : Nat → Bool} {l : List Nat} {r : Nat} : gof_ mn op (l ++ [r]) = if op r = true then ins_ mn (gof_ mn op l) r else gof_ mn op l := by
  unfold gof_
  rw [List.foldl_append]
  rfl
theorem gof_ok {mn : Nat → Nat} {op : Nat → Bool} : ∀ (n : Nat) (l : List Nat), l.length = n → (gof_ mn op l).length ≤ l.length ∧ srt_ mn (gof_ mn op l) ∧ ∀ x ∈ gof_ mn op l, x ∈ l
  | 0, l, h => by
    rw [List.length_eq_zero_iff.mp h]
    exact ⟨Nat.le_refl _, fun i j r s _ hi => (by cases hi), fun x hx => hx⟩
  | n + 1, l, h => by
    obtain ⟨l', r, rfl⟩ : ∃ l' r, l = l' ++ [r] := by
      have hne : l ≠ [] := fun e => by rw [e] at h; cases h
      exact ⟨l.dropLast, l.getLast hne, (List.dropLast_concat_getLast hne).symm⟩
    have hl : l'.length = n := by rw [List.length_append] at h; exact Nat.succ.inj h
    obtain ⟨h1, h2, h3⟩ := gof_ok (mn := mn) (op := op) n l' hl
    rw [gof_app, List.length_append]
    by_cases c : op r = true
    · rw [if_pos c]
      have hq := plcn_le (mn := mn) (L := gof_ mn op l') (x := r) (gof_ mn op l').length
      refine ⟨?_, ins_srt h2, fun x hx => ?_⟩
      · show (insat_ _ _ _).length ≤ _
        rw [insat_len hq]
        show _ ≤ l'.length + 1
        omega
      · obtain ⟨j, hj⟩ := List.getElem?_of_mem hx
        rcases insat_get hq hj with ⟨_, b⟩ | ⟨_, b⟩ | ⟨_, b⟩
        · exact List.mem_append.mpr (Or.inl (h3 x (List.mem_of_getElem? b)))
        · rw [b]; exact List.mem_append.mpr (Or.inr (List.mem_singleton.mpr rfl))
        · exact List.mem_append.mpr (Or.inl (h3 x (List.mem_of_getElem? b)))
    · rw [if_neg c]
      exact ⟨Nat.le_trans h1 (Nat.le_succ _), h2, fun x hx => List.mem_append.mpr (Or.inl (h3 x hx))⟩
theorem gof_filter {mn : Nat → Nat} {op p : Nat → Bool} : ∀ (l L : List Nat), (∀ r ∈ l, op r = true → p r = true) → (l.filter p).foldl (fun L r => if op r = true then ins_ mn L r else L) L = l.foldl (fun L r => if op r = true then ins_ mn L r else L) L
  | [], _, _ => rfl
  | r :: l, L, h => by
    have ih := fun L => gof_filter (mn := mn) (op := op) (p := p) l L fun x hx => h x (List.mem_cons_of_mem _ hx)
    by_cases c : p r = true
    · rw [List.filter_cons_of_pos c, List.foldl_cons, List.foldl_cons, ih]
    · rw [List.filter_cons_of_neg c, List.foldl_cons, ih]
      have : ¬ op r = true := fun q => c (h r (List.mem_cons_self ..) q)
      rw [if_neg this]
/-! the class: one more is put in -/
def shf_ (a b0 : Nat) (L : List Nat) (pl : Nat) (m : fm_) : Prop := (∀ j r : Nat, j < pl → L[j]? = some r → gi_ m a (b0 + j) = nI r) ∧ ∀ j r : Nat, pl ≤ j → L[j]? = some r → gi_ m a (b0 + (j + 1)) = nI r
theorem g58_ {W : List (Nat × Nat × Nat)} {P : pl_} {F : List fa_} {T : Nat} {C : List (Nat × Nat × Nat)} (hk : kok_ W P F T C) {L : List Nat} (hL : L.length < 7) (hLr : ∀ r ∈ L, ∃ q, F[r]? = some q ∧ q.1 = 1) {x : Nat} {qx : fa_} (hx : F[x]? = some qx) (hx1 : qx.1 = 1) {x1 x2 x3 : Int32} : ∀ (pl : Nat) (m : fm_), pl ≤ L.length → kwc_ W P F T C m → gi_ m 82 9 = nI L.length → shf_ 87 0 L pl m → ∃ m', f_X6_gatherOf_58 x1 x2 x3 (nI x) (nI pl) m = f_X6_gatherOf_7 x1 x2 (x3 + 1) m' ∧ kwc_ W P F T C m' ∧ rowc_ (insat_ L x (plcn_ (mnt_ F) L x pl)) m' ∧ sa_ [(87, 87, 0), (82, 82, 10)] m m' := by
  have fin : ∀ (pl : Nat) (m : fm_), pl ≤ L.length → kwc_ W P F T C m → gi_ m 82 9 = nI L.length → shf_ 87 0 L pl m → kwc_ W P F T C (si_ (si_ m 87 pl (nI x)) 82 9 (nI (L.length + 1))) ∧ rowc_ (insat_ L x pl) (si_ (si_ m 87 pl (nI x)) 82 9 (nI (L.length + 1))) ∧ sa_ [(87, 87, 0), (82, 82, 10)] m (si_ (si_ m 87 pl (nI x)) 82 9 (nI (L.length + 1))) := fun pl m hpl hm h9 hs => by
    have sA : sa_ [(87, 87, 0), (82, 82, 10)] m (si_ (si_ m 87 pl (nI x)) 82 9 (nI (L.length + 1))) := sa_si (by rfl) (sa_si (by rfl) sa_rf)
    refine ⟨kwc_ag hm (sa_ag (by rfl) sA), ⟨by rw [gi_si_self, insat_len hpl], fun j r hj => ?_⟩, sA⟩
    rcases insat_get hpl hj with ⟨a1, a2⟩ | ⟨a1, a2⟩ | ⟨a1, a2⟩
    · have := hs.1 j r a1 a2
      rw [Nat.zero_add] at this
      simp (disch := omega) only [↓reduceIte, ↓ns_m1, ns_let, ns_lef, ns_ltt, ns_ltf, ns_eqt, ns_eqf, ns_gd, nI_clamp, nI_add, pk_sub, pk_mul, ns_m1a, ns_m1b, ns_m1c, ns_m1d, ns_m1e, ns_m1f, ns_m1g, ns_un1, ns_un0, ns_day1, Option.bind_some, gi_si_self, gi_si_ne, gl_si, gi_sl, gl_sl_self, gl_sl_ne, if_true, if_false, ns_i0, ns_i1, ns_i2, ns_i3, ns_i4, ns_i5, ns_i6, ns_i7, ns_i8, ns_i9, ns_i10, ns_i11, ns_i12, ns_i13, ns_i20, ns_i23, ns_i24, ns_i31, ns_i50, ns_i60, ns_i99, ns_i100, ns_i144, ns_i200, ns_i255, ns_i700, ns_i880, ns_i899, ns_i900, ns_i901, ns_i999, ns_i1000, ns_i1440, ns_i4095, ns_i1000000, this]
    · rw [a1, a2]
      simp (disch := omega) only [↓reduceIte, ↓ns_m1, ns_let, ns_lef, ns_ltt, ns_ltf, ns_eqt, ns_eqf, ns_gd, nI_clamp, nI_add, pk_sub, pk_mul, ns_m1a, ns_m1b, ns_m1c, ns_m1d, ns_m1e, ns_m1f, ns_m1g, ns_un1, ns_un0, ns_day1, Option.bind_some, gi_si_self, gi_si_ne, gl_si, gi_sl, gl_sl_self, gl_sl_ne, if_true, if_false, ns_i0, ns_i1, ns_i2, ns_i3, ns_i4, ns_i5, ns_i6, ns_i7, ns_i8, ns_i9, ns_i10, ns_i11, ns_i12, ns_i13, ns_i20, ns_i23, ns_i24, ns_i31, ns_i50, ns_i60, ns_i99, ns_i100, ns_i144, ns_i200, ns_i255, ns_i700, ns_i880, ns_i899, ns_i900, ns_i901, ns_i999, ns_i1000, ns_i1440, ns_i4095, ns_i1000000]
    · have := hs.2 (j - 1) r (by omega) a2
      rw [Nat.zero_add, show j - 1 + 1 = j by omega] at this
      simp (disch := omega) only [↓reduceIte, ↓ns_m1, ns_let, ns_lef, ns_ltt, ns_ltf, ns_eqt, ns_eqf, ns_gd, nI_clamp, nI_add, pk_sub, pk_mul, ns_m1a, ns_m1b, ns_m1c, ns_m1d, ns_m1e, ns_m1f, ns_m1g, ns_un1, ns_un0, ns_day1, Option.bind_some, gi_si_self, gi_si_ne, gl_si, gi_sl, gl_sl_self, gl_sl_ne, if_true, if_false, ns_i0, ns_i1, ns_i2, ns_i3, ns_i4, ns_i5, ns_i6, ns_i7, ns_i8, ns_i9, ns_i10, ns_i11, ns_i12, ns_i13, ns_i20, ns_i23, ns_i24, ns_i31, ns_i50, ns_i60, ns_i99, ns_i100, ns_i144, ns_i200, ns_i255, ns_i700, ns_i880, ns_i899, ns_i900, ns_i901, ns_i999, ns_i1000, ns_i1440, ns_i4095, ns_i1000000, this]
  intro pl
  induction pl with
  | zero =>
    intro m hpl hm h9 hs
    refine ⟨_, ?_, fin 0 m hpl hm h9 hs⟩
    rw [e_X6_gatherOf_58]
    simp (disch := omega) only [↓reduceIte, ↓ns_m1, ns_let, ns_lef, ns_ltt, ns_ltf, ns_eqt, ns_eqf, ns_gd, nI_clamp, nI_add, pk_sub, pk_mul, ns_m1a, ns_m1b, ns_m1c, ns_m1d, ns_m1e, ns_m1f, ns_m1g, ns_un1, ns_un0, ns_day1, Option.bind_some, gi_si_self, gi_si_ne, gl_si, gi_sl, gl_sl_self, gl_sl_ne, if_true, if_false, ns_i0, ns_i1, ns_i2, ns_i3, ns_i4, ns_i5, ns_i6, ns_i7, ns_i8, ns_i9, ns_i10, ns_i11, ns_i12, ns_i13, ns_i20, ns_i23, ns_i24, ns_i31, ns_i50, ns_i60, ns_i99, ns_i100, ns_i144, ns_i200, ns_i255, ns_i700, ns_i880, ns_i899, ns_i900, ns_i901, ns_i999, ns_i1000, ns_i1440, ns_i4095, ns_i1000000, h9]
  | succ pl ih =>
    intro m hpl hm h9 hs
    have ej := List.getElem?_eq_getElem (show pl < L.length by omega)
    generalize L[pl] = u at ej
    obtain ⟨qu, hu, hu1⟩ := hLr u (List.mem_of_getElem? ej)
    obtain ⟨mu, _, mu2, _, _, u2, _⟩ := fr_c hk hm hu hu1
    obtain ⟨mx, _, mx2, _, _, _, _⟩ := fr_c hk hm hx hx1
    have gu := hs.1 pl u (by omega) ej
    rw [Nat.zero_add] at gu
    have ep : pl + 1 - 1 = pl := by omega
    unfold plcn_
    rw [rg_s ej]
    by_cases c : mnt_ F u ≤ mnt_ F x
    · rw [if_pos c]
      refine ⟨_, ?_, fin (pl + 1) m hpl hm h9 hs⟩
      rw [e_X6_gatherOf_58]
      simp (disch := omega) only [↓reduceIte, ↓ns_m1, ns_let, ns_lef, ns_ltt, ns_ltf, ns_eqt, ns_eqf, ns_gd, nI_clamp, nI_add, pk_sub, pk_mul, ns_m1a, ns_m1b, ns_m1c, ns_m1d, ns_m1e, ns_m1f, ns_m1g, ns_un1, ns_un0, ns_day1, Option.bind_some, gi_si_self, gi_si_ne, gl_si, gi_sl, gl_sl_self, gl_sl_ne, if_true, if_false, ns_i0, ns_i1, ns_i2, ns_i3, ns_i4, ns_i5, ns_i6, ns_i7, ns_i8, ns_i9, ns_i10, ns_i11, ns_i12, ns_i13, ns_i20, ns_i23, ns_i24, ns_i31, ns_i50, ns_i60, ns_i99, ns_i100, ns_i144, ns_i200, ns_i255, ns_i700, ns_i880, ns_i899, ns_i900, ns_i901, ns_i999, ns_i1000, ns_i1440, ns_i4095, ns_i1000000, ep, gu, mu, mx, h9]
    · rw [if_neg c]
      have sA : sa_ [(87, 87, 0)] m (si_ m 87 (pl + 1) (nI u)) := sa_si (by rfl) sa_rf
      obtain ⟨m', e1, h1, h2, h3⟩ := ih (si_ m 87 (pl + 1) (nI u)) (by omega) (kwc_ag hm (sa_ag (by rfl) sA)) ((gi_si_ne (by omega)).trans h9) ⟨fun j r hj hr => by
        have := hs.1 j r (by omega) hr
        rw [Nat.zero_add] at this ⊢
        rw [gi_si_ne (by omega)]
        exact this, fun j r hj hr => by
        by_cases e : j = pl
        · rw [e] at hr ⊢
          rw [ej] at hr
          cases hr
          rw [Nat.zero_add, gi_si_self]
        · have := hs.2 j r (by omega) hr
          rw [Nat.zero_add] at this ⊢
          rw [gi_si_ne (by omega)]
          exact this⟩
      refine ⟨m', ?_, h1, h2, sa_t (sa_up (by rfl) sA) h3⟩
      rw [e_X6_gatherOf_58]
      simp (disch := omega) only [↓reduceIte, ↓ns_m1, ns_let, ns_lef, ns_ltt, ns_ltf, ns_eqt, ns_eqf, ns_gd, nI_clamp, nI_add, pk_sub, pk_mul, ns_m1a, ns_m1b, ns_m1c, ns_m1d, ns_m1e, ns_m1f, ns_m1g, ns_un1, ns_un0, ns_day1, Option.bind_some, gi_si_self, gi_si_ne, gl_si, gi_sl, gl_sl_self, gl_sl_ne, if_true, if_false, ns_i0, ns_i1, ns_i2, ns_i3, ns_i4, ns_i5, ns_i6, ns_i7, ns_i8, ns_i9, ns_i10, ns_i11, ns_i12, ns_i13, ns_i20, ns_i23, ns_i24, ns_i31, ns_i50, ns_i60, ns_i99, ns_i100, ns_i144, ns_i200, ns_i255, ns_i700, ns_i880, ns_i899, ns_i900, ns_i901, ns_i999, ns_i1000, ns_i1440, ns_i4095, ns_i1000000, ep, gu, mu, mx, e1]
/-! minutes within the zone between two readings -/
def stv_ (W : List (Nat × Nat × Nat)) (z : Nat) (F : List fa_) (C : List (Nat × Nat × Nat)) (r s : Nat) (b : Bool) : Nat := if bb_ z (pnt_ F C r) = 1 then (if bb_ z (pnt_ F C s) = 1 then (if b = true then mnt_ F s - mnt_ F r else min (mnt_ F s - mnt_ F r) (byo_ W z (pnt_ F C r) (pnt_ F C s))) else (if b = true then mnt_ F s - mnt_ F r else 0)) else (if b = true then (if bb_ z (pnt_ F C s) = 1 then mnt_ F s - mnt_ F r else mnt_ F s - mnt_ F r - byz_ W z (pnt_ F C r) (pnt_ F C s)) else 0)
theorem stv_b {W : List (Nat × Nat × Nat)} {z : Nat} {F : List fa_} {C : List (Nat × Nat × Nat)} {r s : Nat} {b : Bool} : stv_ W z F C r s b ≤ mnt_ F s := by
  unfold stv_
  split
  · split
    · split <;> omega
    · split <;> omega
  · split
    · split <;> omega
    · omega
theorem mxs_ {a b : Nat} (ha : a < 2 ^ 30) (hb : b < 2 ^ 30) : mx_ (nI 0) (nI a - nI b) = nI (a - b) := by
  by_cases c : b ≤ a
  · rw [pk_sub c, ns_mx (by omega) (by omega), Nat.zero_max]
  · have h1 := pk_sneg (a := a) (b := b) hb (by omega)
    unfold mx_
    rw [if_neg, show a - b = 0 by omega]
    intro h2
    rw [Int32.lt_iff_toInt_lt] at h1 h2
    have e : (nI 0).toInt = (0 : Int32).toInt := rfl
    omega
/-- the tables that staying is read from -/
def stw_ (W : List (Nat × Nat × Nat)) (z : Nat) (m : fm_) : Prop := gi_ m 6 4 = nI z ∧ tb_ (byz_ W z) 16 m ∧ tb_ (byo_ W z) 17 m
theorem zon_c {W : List (Nat × Nat × Nat)} {P : pl_} {F : List fa_} {T : Nat} {C : List (Nat × Nat × Nat)} (hk : kok_ W P F T C) {z : Nat} (hz : z < 4096) {m : fm_} (hm : kwc_ W P F T C m) (h6 : gi_ m 6 4 = nI z) {r : Nat} {q : fa_} (hr : F[r]? = some q) (h1 : q.1 = 1) : f_X6_isInZone (nI r) m = some (nI (bb_ z (pnt_ F C r)), m) := by
  obtain ⟨_, _, _, pt, pl, _, _⟩ := fr_c hk hm hr h1
  have iz := isz_c hz h6 pl
  have hb := bb_lt z (pnt_ F C r)
  unfold f_X6_isInZone
  by_cases c : bb_ z (pnt_ F C r) = 1
  · simp (disch := omega) only [↓reduceIte, ↓ns_m1, ns_let, ns_lef, ns_ltt, ns_ltf, ns_eqt, ns_eqf, ns_gd, nI_clamp, nI_add, pk_sub, pk_mul, ns_m1a, ns_m1b, ns_m1c, ns_m1d, ns_m1e, ns_m1f, ns_m1g, ns_un1, ns_un0, ns_day1, Option.bind_some, gi_si_self, gi_si_ne, gl_si, gi_sl, gl_sl_self, gl_sl_ne, if_true, if_false, ns_i0, ns_i1, ns_i2, ns_i3, ns_i4, ns_i5, ns_i6, ns_i7, ns_i8, ns_i9, ns_i10, ns_i11, ns_i12, ns_i13, ns_i20, ns_i23, ns_i24, ns_i31, ns_i50, ns_i60, ns_i99, ns_i100, ns_i144, ns_i200, ns_i255, ns_i700, ns_i880, ns_i899, ns_i900, ns_i901, ns_i999, ns_i1000, ns_i1440, ns_i4095, ns_i1000000, pt, iz, c]
  · have c0 : bb_ z (pnt_ F C r) = 0 := by omega
    simp (disch := omega) only [↓reduceIte, ↓ns_m1, ns_let, ns_lef, ns_ltt, ns_ltf, ns_eqt, ns_eqf, ns_gd, nI_clamp, nI_add, pk_sub, pk_mul, ns_m1a, ns_m1b, ns_m1c, ns_m1d, ns_m1e, ns_m1f, ns_m1g, ns_un1, ns_un0, ns_day1, Option.bind_some, gi_si_self, gi_si_ne, gl_si, gi_sl, gl_sl_self, gl_sl_ne, if_true, if_false, ns_i0, ns_i1, ns_i2, ns_i3, ns_i4, ns_i5, ns_i6, ns_i7, ns_i8, ns_i9, ns_i10, ns_i11, ns_i12, ns_i13, ns_i20, ns_i23, ns_i24, ns_i31, ns_i50, ns_i60, ns_i99, ns_i100, ns_i144, ns_i200, ns_i255, ns_i700, ns_i880, ns_i899, ns_i900, ns_i901, ns_i999, ns_i1000, ns_i1440, ns_i4095, ns_i1000000, pt, iz, c0]
theorem stb_c {W : List (Nat × Nat × Nat)} {P : pl_} {F : List fa_} {T : Nat} {C : List (Nat × Nat × Nat)} (hk : kok_ W P F T C) {z : Nat} (hz : z < 4096) {m : fm_} (hm : kwc_ W P F T C m) (hs : stw_ W z m) {r s : Nat} {q u : fa_} (hr : F[r]? = some q) (h1 : q.1 = 1) (hs2 : F[s]? = some u) (h2 : u.1 = 1) (hle : mnt_ F r ≤ mnt_ F s) (b : Bool) : f_X6_stayBetween (nI r) (nI s) (b01_ b) m = some (nI (stv_ W z F C r s b), m) := by
  obtain ⟨mr, _, mr2, pr, plr, _, _⟩ := fr_c hk hm hr h1
  obtain ⟨ms, _, ms2, ps, pls, _, _⟩ := fr_c hk hm hs2 h2
  have zr := zon_c hk hz hm hs.1 hr h1
  have zs := zon_c hk hz hm hs.1 hs2 h2
  have hbr := bb_lt z (pnt_ F C r)
  have hbs := bb_lt z (pnt_ F C s)
  have byz := byzone_ hs.2.1 plr pls
  have byo := byout_ hs.2.2 plr pls
  have f1 : byz_ W z (pnt_ F C r) (pnt_ F C s) ≤ 1000000 := jb_far _ _ _ _ _
  have f2 : byo_ W z (pnt_ F C r) (pnt_ F C s) ≤ 1000000 := jb_far _ _ _ _ _
  have mx := mxs_ (a := mnt_ F s - mnt_ F r) (b := byz_ W z (pnt_ F C r) (pnt_ F C s)) (by omega) (by omega)
  have e1t : b01_ true = nI 1 := rfl
  have e0t : b01_ false = nI 0 := rfl
  have hsub : nI (mnt_ F s) - nI (mnt_ F r) = nI (mnt_ F s - mnt_ F r) := pk_sub hle
  unfold f_X6_stayBetween stv_
  rw [ms]
  simp only [Option.bind_some]
  rw [mr]
  simp only [Option.bind_some]
  rw [pr]
  simp only [Option.bind_some]
  rw [ps]
  simp only [Option.bind_some]
  rw [zr]
  simp only [Option.bind_some]
  rw [hsub]
  by_cases c1 : bb_ z (pnt_ F C r) = 1
  · by_cases c2 : bb_ z (pnt_ F C s) = 1
    · cases b with
      | true =>
        simp only [c1, c2, if_true]
        simp (disch := omega) only [↓reduceIte, ↓ns_m1, ns_let, ns_lef, ns_ltt, ns_ltf, ns_eqt, ns_eqf, ns_gd, nI_clamp, nI_add, pk_sub, pk_mul, ns_m1a, ns_m1b, ns_m1c, ns_m1d, ns_m1e, ns_m1f, ns_m1g, ns_un1, ns_un0, ns_day1, Option.bind_some, gi_si_self, gi_si_ne, gl_si, gi_sl, gl_sl_self, gl_sl_ne, if_true, if_false, ns_i0, ns_i1, ns_i2, ns_i3, ns_i4, ns_i5, ns_i6, ns_i7, ns_i8, ns_i9, ns_i10, ns_i11, ns_i12, ns_i13, ns_i20, ns_i23, ns_i24, ns_i31, ns_i50, ns_i60, ns_i99, ns_i100, ns_i144, ns_i200, ns_i255, ns_i700, ns_i880, ns_i899, ns_i900, ns_i901, ns_i999, ns_i1000, ns_i1440, ns_i4095, ns_i1000000, zs, c2, e1t]
      | false =>
        simp only [c1, c2, if_true, show ¬ (false = true) by decide, if_false]
        simp (disch := omega) only [↓reduceIte, ↓ns_m1, ns_let, ns_lef, ns_ltt, ns_ltf, ns_eqt, ns_eqf, ns_gd, nI_clamp, nI_add, pk_sub, pk_mul, ns_m1a, ns_m1b, ns_m1c, ns_m1d, ns_m1e, ns_m1f, ns_m1g, ns_un1, ns_un0, ns_day1, Option.bind_some, gi_si_self, gi_si_ne, gl_si, gi_sl, gl_sl_self, gl_sl_ne, if_true, if_false, ns_i0, ns_i1, ns_i2, ns_i3, ns_i4, ns_i5, ns_i6, ns_i7, ns_i8, ns_i9, ns_i10, ns_i11, ns_i12, ns_i13, ns_i20, ns_i23, ns_i24, ns_i31, ns_i50, ns_i60, ns_i99, ns_i100, ns_i144, ns_i200, ns_i255, ns_i700, ns_i880, ns_i899, ns_i900, ns_i901, ns_i999, ns_i1000, ns_i1440, ns_i4095, ns_i1000000, zs, c2, e0t, byo, ns_mn]
        rfl
    · have c20 : bb_ z (pnt_ F C s) = 0 := by omega
      cases b with
      | true =>
        simp only [c1, c20, if_true, show ¬ (0 : Nat) = 1 by omega, if_false]
        simp (disch := omega) only [↓reduceIte, ↓ns_m1, ns_let, ns_lef, ns_ltt, ns_ltf, ns_eqt, ns_eqf, ns_gd, nI_clamp, nI_add, pk_sub, pk_mul, ns_m1a, ns_m1b, ns_m1c, ns_m1d, ns_m1e, ns_m1f, ns_m1g, ns_un1, ns_un0, ns_day1, Option.bind_some, gi_si_self, gi_si_ne, gl_si, gi_sl, gl_sl_self, gl_sl_ne, if_true, if_false, ns_i0, ns_i1, ns_i2, ns_i3, ns_i4, ns_i5, ns_i6, ns_i7, ns_i8, ns_i9, ns_i10, ns_i11, ns_i12, ns_i13, ns_i20, ns_i23, ns_i24, ns_i31, ns_i50, ns_i60, ns_i99, ns_i100, ns_i144, ns_i200, ns_i255, ns_i700, ns_i880, ns_i899, ns_i900, ns_i901, ns_i999, ns_i1000, ns_i1440, ns_i4095, ns_i1000000, zr, zs, c1, c20, e1t]
      | false =>
        simp only [c1, c20, if_true, show ¬ (0 : Nat) = 1 by omega, show ¬ (false = true) by decide, if_false]
        simp (disch := omega) only [↓reduceIte, ↓ns_m1, ns_let, ns_lef, ns_ltt, ns_ltf, ns_eqt, ns_eqf, ns_gd, nI_clamp, nI_add, pk_sub, pk_mul, ns_m1a, ns_m1b, ns_m1c, ns_m1d, ns_m1e, ns_m1f, ns_m1g, ns_un1, ns_un0, ns_day1, Option.bind_some, gi_si_self, gi_si_ne, gl_si, gi_sl, gl_sl_self, gl_sl_ne, if_true, if_false, ns_i0, ns_i1, ns_i2, ns_i3, ns_i4, ns_i5, ns_i6, ns_i7, ns_i8, ns_i9, ns_i10, ns_i11, ns_i12, ns_i13, ns_i20, ns_i23, ns_i24, ns_i31, ns_i50, ns_i60, ns_i99, ns_i100, ns_i144, ns_i200, ns_i255, ns_i700, ns_i880, ns_i899, ns_i900, ns_i901, ns_i999, ns_i1000, ns_i1440, ns_i4095, ns_i1000000, zs, c20, e0t]
        rfl
  · have c10 : bb_ z (pnt_ F C r) = 0 := by omega
    cases b with
    | false =>
      simp only [c10, show ¬ (0 : Nat) = 1 by omega, show ¬ (false = true) by decide, if_false]
      simp (disch := omega) only [↓reduceIte, ↓ns_m1, ns_let, ns_lef, ns_ltt, ns_ltf, ns_eqt, ns_eqf, ns_gd, nI_clamp, nI_add, pk_sub, pk_mul, ns_m1a, ns_m1b, ns_m1c, ns_m1d, ns_m1e, ns_m1f, ns_m1g, ns_un1, ns_un0, ns_day1, Option.bind_some, gi_si_self, gi_si_ne, gl_si, gi_sl, gl_sl_self, gl_sl_ne, if_true, if_false, ns_i0, ns_i1, ns_i2, ns_i3, ns_i4, ns_i5, ns_i6, ns_i7, ns_i8, ns_i9, ns_i10, ns_i11, ns_i12, ns_i13, ns_i20, ns_i23, ns_i24, ns_i31, ns_i50, ns_i60, ns_i99, ns_i100, ns_i144, ns_i200, ns_i255, ns_i700, ns_i880, ns_i899, ns_i900, ns_i901, ns_i999, ns_i1000, ns_i1440, ns_i4095, ns_i1000000, e0t]
      rfl
    | true =>
      by_cases c2 : bb_ z (pnt_ F C s) = 1
      · simp only [c10, c2, if_true, show ¬ (0 : Nat) = 1 by omega, if_false]
        simp (disch := omega) only [↓reduceIte, ↓ns_m1, ns_let, ns_lef, ns_ltt, ns_ltf, ns_eqt, ns_eqf, ns_gd, nI_clamp, nI_add, pk_sub, pk_mul, ns_m1a, ns_m1b, ns_m1c, ns_m1d, ns_m1e, ns_m1f, ns_m1g, ns_un1, ns_un0, ns_day1, Option.bind_some, gi_si_self, gi_si_ne, gl_si, gi_sl, gl_sl_self, gl_sl_ne, if_true, if_false, ns_i0, ns_i1, ns_i2, ns_i3, ns_i4, ns_i5, ns_i6, ns_i7, ns_i8, ns_i9, ns_i10, ns_i11, ns_i12, ns_i13, ns_i20, ns_i23, ns_i24, ns_i31, ns_i50, ns_i60, ns_i99, ns_i100, ns_i144, ns_i200, ns_i255, ns_i700, ns_i880, ns_i899, ns_i900, ns_i901, ns_i999, ns_i1000, ns_i1440, ns_i4095, ns_i1000000, zr, zs, c10, c2, e1t]
      · have c20 : bb_ z (pnt_ F C s) = 0 := by omega
        simp only [c10, c20, if_true, show ¬ (0 : Nat) = 1 by omega, if_false]
        have mx : mx_ 0 (nI (mnt_ F s - mnt_ F r) - nI (byz_ W z (pnt_ F C r) (pnt_ F C s))) = nI (mnt_ F s - mnt_ F r - byz_ W z (pnt_ F C r) (pnt_ F C s)) := mx
        rw [e1t, if_pos (show nI 0 = (0 : Int32) from rfl), if_neg (show ¬ nI 1 = (0 : Int32) by decide), zr]
        simp only [Option.bind_some]
        rw [c10, if_pos (show nI 0 = (0 : Int32) from rfl), zs]
        simp only [Option.bind_some]
        rw [c20, if_pos (show nI 0 = (0 : Int32) from rfl), byz]
        simp only [Option.bind_some]
        rw [mx]
