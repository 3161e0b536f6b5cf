/-! ===== the abstract world and the heap ===== -/
/-- a start: the state at the law's entry; the classes' numbers; the array classes; the addresses -/
abbrev am_G : Type := State × va_G × (Nat → ClassId) × (Nat → Nat)
def am_B (g : am_G) : Nat := g.1.heap.size
def am_A (g : am_G) : Nat → Prop := fun q => am_B g ≤ q
def am_ad (g : am_G) (a : Nat) : Nat := g.2.2.2 a
def am_cA (g : am_G) (a : Nat) : ClassId := g.2.2.1 a
def am_cv (g : am_G) : Value → Value
  | .ref a => .ref (am_ad g a)
  | v => v
def am_tys (g : am_G) : List (ClassId × FieldType) := [(am_cA g 0, .int), (am_cA g 1, .byte), (am_cA g 2, .boolean), (am_cA g 3, .long), (am_cA g 4, .object "AirZone$Orders")]
def am_v1 (g : am_G) (w : am_W) (x k d : Nat) : Value := match d with
  | 1 => .long (am_gl w x k)
  | 2 => va_rf ((am_gr w x k).map (am_ad g))
  | _ => .int (am_gi w x k)
def am_fv (g : am_G) (w : am_W) (x : Nat) : Nat → List Nat → List Value
  | _, [] => []
  | k, d :: r => am_v1 g w x k d :: am_fv g w x (k + 1) r
def am_ce (g : am_G) (w : am_W) (x : Nat) (sh : Nat × Nat) : va_E := match sh.1 with
  | 0 => .inl (am_cA g 0, sh.2, .inl (w.2.1 x))
  | 1 => .inl (am_cA g 1, sh.2, .inl (w.2.1 x))
  | 2 => .inl (am_cA g 2, sh.2, .inl (w.2.1 x))
  | 3 => .inl (am_cA g 3, sh.2, .inr (.inl (w.2.2.1 x)))
  | 4 => .inl (am_cA g 4, sh.2, .inr (.inr (.inr (.inr (fun j => (w.2.2.2 x j).map (am_ad g))))))
  | _ => .inr (sh.2, am_fv g w x 0 (am_KD.getD sh.2 []))
def am_wl (g : am_G) (w : am_W) : va_W := (am_SH.take w.1).mapIdx fun x sh => (am_ad g x, am_ce g w x sh)
def am_rep (g : am_G) (w : am_W) (H : Heap) : Prop := H.size = am_B g + w.1 ∧ w.1 ≤ 168 ∧ va_P g.2.1 am_cl (am_wl g w) H
/-- words that are kept as the machine warms -/
def am_okw : Cond → Bool
  | .fieldLinkNest .. => true
  | .methodLinkNest .. => true
  | .arrayOver (.object _) => true
  | w => goodWord w
def am_TB : List Cond := lw_tbl.filter am_okw
theorem am_tb_in {w : Cond} (h : w ∈ lw_tbl) (hw : am_okw w = true) : w ∈ am_TB := List.mem_filter.mpr ⟨h, hw⟩
def am_gok (g : am_G) : Prop := va_K g.2.1 am_cl (am_tys g) g.1 ∧ (∀ a, a < 168 → am_ad g a = am_B g + a) ∧ ∃ A : Array Value, ∀ w ∈ lw_tbl, w.before A g.1 = true
theorem am_gok.ad {g : am_G} (h : am_gok g) : ∀ a, a < 168 → am_ad g a = am_B g + a := h.2.1
theorem am_words {g : am_G} (h : am_gok g) {s : State} (hW : g.1.WarmedH s.vm) (args : Array Value) : ∀ w ∈ am_TB, w.before args s = true := by
  obtain ⟨-, -, A, hA⟩ := h
  intro w hw
  obtain ⟨h1, h2⟩ := List.mem_filter.mp hw
  have h3 := hA w h1
  unfold am_okw at h2
  split at h2
  · exact va_Nw.use rfl (va_Nw.warmF hW (va_Nw.of rfl h3))
  · exact va_Nw.use rfl (va_Nw.warmM hW (va_Nw.of rfl h3))
  · exact va_AO.use (va_AO.moved hW.alike (va_AO.of h3))
  · exact word_at hW (good_of_word h2) h3
theorem am_wl_at {g : am_G} {w : am_W} {x : Nat} {sh : Nat × Nat} (h : am_at w x sh) : (am_wl g w)[x]? = some (am_ad g x, am_ce g w x sh) := by
  obtain ⟨h1, h2⟩ := h
  unfold am_wl
  rw [List.getElem?_mapIdx, List.getElem?_take_of_lt h2, h1]
  rfl
theorem am_wl_len {g : am_G} {w : am_W} (h : w.1 ≤ 168) : (am_wl g w).length = w.1 := by
  unfold am_wl
  rw [List.length_mapIdx, List.length_take, am_len]
  omega
theorem am_wl_get {g : am_G} {w : am_W} {x : Nat} {q : Nat × va_E} (h : (am_wl g w)[x]? = some q) : x < w.1 ∧ x < 168 ∧ ∃ sh, am_SH[x]? = some sh ∧ q = (am_ad g x, am_ce g w x sh) := by
  unfold am_wl at h
  rw [List.getElem?_mapIdx] at h
  have hl : x < (am_SH.take w.1).length := by
    refine Nat.lt_of_not_le fun hn => ?_
    rw [List.getElem?_eq_none hn] at h
    cases h
  rw [List.length_take, am_len] at hl
  have h2 : x < w.1 := by omega
  rw [List.getElem?_take_of_lt h2] at h
  cases hs : am_SH[x]? with
  | none => rw [hs] at h; cases h
  | some sh =>
    rw [hs] at h
    cases h
    exact ⟨h2, by omega, sh, rfl, rfl⟩
theorem am_D {g : am_G} (hg : am_gok g) (w : am_W) : va_D (am_A g) (am_wl g w) := by
  refine ⟨fun i j p q hi hj hpq => ?_, fun k q hk => ?_⟩
  · obtain ⟨-, hi2, sh, -, rfl⟩ := am_wl_get hi
    obtain ⟨-, hj2, sh2, -, rfl⟩ := am_wl_get hj
    have hpq : am_ad g i = am_ad g j := hpq
    rw [hg.ad i hi2, hg.ad j hj2] at hpq
    omega
  · obtain ⟨-, h2, sh, -, rfl⟩ := am_wl_get hk
    show am_B g ≤ am_ad g k
    rw [hg.ad k h2]
    omega
theorem am_wl_set {g : am_G} {w w1 : am_W} {x : Nat} {sh : Nat × Nat} {e : va_E} (h : am_at w x sh) (hn : w1.1 = w.1) (ho : ∀ y sh, y ≠ x → am_ce g w1 y sh = am_ce g w y sh) (he : am_ce g w1 x sh = e) : (am_wl g w).set x (am_ad g x, e) = am_wl g w1 := by
  refine List.ext_getElem? fun j => ?_
  by_cases hj : j = x
  · subst hj
    have hl : j < (am_wl g w).length := (List.getElem?_eq_some_iff.mp (am_wl_at (g := g) h)).1
    rw [List.getElem?_set_self hl, am_wl_at (g := g) (w := w1) ⟨h.1, by rw [hn]; exact h.2⟩, he]
  · rw [List.getElem?_set_ne (Ne.symm hj)]
    unfold am_wl
    rw [List.getElem?_mapIdx, List.getElem?_mapIdx, hn]
    cases (am_SH.take w.1)[j]? with
    | none => rfl
    | some s => show some (am_ad g j, am_ce g w j s) = some (am_ad g j, am_ce g w1 j s); rw [ho j s hj]
theorem am_fv_len {g : am_G} {w : am_W} {x : Nat} : ∀ (r : List Nat) (k : Nat), (am_fv g w x k r).length = r.length
  | [], _ => rfl
  | _ :: r, k => congrArg (· + 1) (am_fv_len r (k + 1))
theorem am_fv_get {g : am_G} {w : am_W} {x : Nat} : ∀ (r : List Nat) (k j d : Nat), r[j]? = some d → (am_fv g w x k r)[j]? = some (am_v1 g w x (k + j) d)
  | [], _, _, _, h => by simp at h
  | e :: r, k, 0, d, h => by
    simp at h
    subst h
    rfl
  | e :: r, k, j + 1, d, h => by
    have h1 : r[j]? = some d := by simpa using h
    have := am_fv_get (g := g) (w := w) (x := x) r (k + 1) j d h1
    show (am_fv g w x (k + 1) r)[j]? = _
    rw [this, show k + 1 + j = k + (j + 1) by omega]
theorem am_fv_set {g : am_G} {w w1 : am_W} {x : Nat} {v : Value} : ∀ (r : List Nat) (k j d : Nat), r[j]? = some d → (∀ i e, i ≠ k + j → am_v1 g w1 x i e = am_v1 g w x i e) → am_v1 g w1 x (k + j) d = v → (am_fv g w x k r).set j v = am_fv g w1 x k r
  | [], _, _, _, h, _, _ => by simp at h
  | e :: r, k, 0, d, h, ho, hv => by
    simp at h
    subst h
    show v :: am_fv g w x (k + 1) r = am_v1 g w1 x k e :: am_fv g w1 x (k + 1) r
    rw [← hv]
    congr 1
    have : ∀ (r : List Nat) (m : Nat), k < m → am_fv g w x m r = am_fv g w1 x m r := by
      intro r
      induction r with
      | nil => intro m _; rfl
      | cons e r ih =>
        intro m hm
        show am_v1 g w x m e :: _ = am_v1 g w1 x m e :: _
        rw [ho m e (by omega), ih (m + 1) (by omega)]
    exact this r (k + 1) (by omega)
  | e :: r, k, j + 1, d, h, ho, hv => by
    have h1 : r[j]? = some d := by simpa using h
    show am_v1 g w x k e :: (am_fv g w x (k + 1) r).set j v = am_v1 g w1 x k e :: am_fv g w1 x (k + 1) r
    rw [am_fv_set r (k + 1) j d h1 (fun i e hi => ho i e (by omega)) (by rw [show k + 1 + j = k + (j + 1) by omega]; exact hv), ho k e (by omega)]
theorem am_fv_eq {g : am_G} {w w1 : am_W} {x : Nat} (h : ∀ k d, am_v1 g w1 x k d = am_v1 g w x k d) : ∀ (r : List Nat) (k : Nat), am_fv g w1 x k r = am_fv g w x k r
  | [], _ => rfl
  | e :: r, k => by
    show am_v1 g w1 x k e :: _ = am_v1 g w x k e :: _
    rw [h k e, am_fv_eq h r (k + 1)]
theorem am_u_ne {α : Type} {f : Nat → Nat → α} {a k : Nat} {x : α} {b : Nat} (h : b ≠ a) : am_u f a k x b = f b := by
  funext j
  simp [am_u, h]
theorem am_u_eq {f : Nat → Nat → Int32} {a k : Nat} {x : Int32} : am_u f a k x a = upd (f a) k x := by
  funext j
  simp [am_u, upd]
theorem am_u_eqL {f : Nat → Nat → Int64} {a k : Nat} {x : Int64} : am_u f a k x a = vp_updL (f a) k x := by
  funext j
  simp [am_u, vp_updL]
theorem am_u_at {α : Type} {f : Nat → Nat → α} {a k : Nat} {x : α} {b j : Nat} (h : ¬ (b = a ∧ j = k)) : am_u f a k x b j = f b j := by
  unfold am_u
  split
  · split
    · next h1 h2 => exact absurd ⟨h1, h2⟩ h
    · rfl
  · rfl
theorem am_u_self {α : Type} {f : Nat → Nat → α} {a k : Nat} {x : α} : am_u f a k x a k = x := by simp [am_u]
/-- a cell whose ints, longs and references are the same is the same -/
theorem am_ce_eq {g : am_G} {w w1 : am_W} {x : Nat} (hi : w1.2.1 x = w.2.1 x) (hl : w1.2.2.1 x = w.2.2.1 x) (hr : w1.2.2.2 x = w.2.2.2 x) (sh : Nat × Nat) : am_ce g w1 x sh = am_ce g w x sh := by
  have hv : ∀ k d, am_v1 g w1 x k d = am_v1 g w x k d := by
    intro k d
    unfold am_v1 am_gi am_gl am_gr
    rw [hi, hl, hr]
  unfold am_ce
  rw [hi, hl, hr, am_fv_eq hv]
theorem am_si_o {g : am_G} {w : am_W} {a k : Nat} {v : Int32} (y : Nat) (sh : Nat × Nat) (h : y ≠ a) : am_ce g (am_si w a k v) y sh = am_ce g w y sh := am_ce_eq (w := w) (w1 := am_si w a k v) (am_u_ne h) rfl rfl sh
theorem am_sl_o {g : am_G} {w : am_W} {a k : Nat} {v : Int64} (y : Nat) (sh : Nat × Nat) (h : y ≠ a) : am_ce g (am_sl w a k v) y sh = am_ce g w y sh := am_ce_eq (w := w) (w1 := am_sl w a k v) rfl (am_u_ne h) rfl sh
theorem am_sr_o {g : am_G} {w : am_W} {a k : Nat} {v : Option Nat} (y : Nat) (sh : Nat × Nat) (h : y ≠ a) : am_ce g (am_sr w a k v) y sh = am_ce g w y sh := am_ce_eq (w := w) (w1 := am_sr w a k v) rfl rfl (am_u_ne h) sh
theorem am_wl_push {g : am_G} {w : am_W} {sh : Nat × Nat} (h : am_SH[w.1]? = some sh) : am_wl g (am_nw w) = am_wl g w ++ [(am_ad g w.1, am_ce g (am_nw w) w.1 sh)] := by
  have hl : w.1 < am_SH.length := (List.getElem?_eq_some_iff.mp h).1
  have hlen : (am_wl g w).length = w.1 := am_wl_len (by rw [am_len] at hl; omega)
  refine List.ext_getElem? fun j => ?_
  by_cases hj : j < w.1
  · rw [List.getElem?_append_left (by rw [hlen]; exact hj)]
    unfold am_wl
    rw [List.getElem?_mapIdx, List.getElem?_mapIdx, List.getElem?_take_of_lt hj, List.getElem?_take_of_lt (show j < (am_nw w).1 from Nat.lt_succ_of_lt hj)]
    cases am_SH[j]? with
    | none => rfl
    | some s =>
      show some (am_ad g j, am_ce g (am_nw w) j s) = some (am_ad g j, am_ce g w j s)
      have hne : ¬ j = w.1 := by omega
      rw [am_ce_eq (w := w) (w1 := am_nw w) (x := j) (by funext i; simp [am_nw, am_z, hne]) (by funext i; simp [am_nw, am_z, hne]) (by funext i; simp [am_nw, am_z, hne])]
  · rw [List.getElem?_append_right (by rw [hlen]; omega), hlen]
    by_cases hj2 : j = w.1
    · subst hj2
      rw [am_wl_at (g := g) (w := am_nw w) (sh := sh) ⟨h, Nat.lt_succ_self _⟩, Nat.sub_self]
      rfl
    · rw [List.getElem?_eq_none, List.getElem?_eq_none]
      · simp; omega
      · rw [am_wl_len]
        · show w.1 + 1 ≤ j; omega
        · show w.1 + 1 ≤ 168; rw [am_len] at hl; omega
/-- what is known of the size from below -/
theorem am_low {g : am_G} (hg : am_gok g) {w : am_W} {H : Heap} (hw : w.1 ≤ 168) (hB : am_B g ≤ H.size) (hP : va_P g.2.1 am_cl (am_wl g w) H) : am_B g + w.1 ≤ H.size := by
  by_cases h0 : w.1 = 0
  · omega
  · have hl : w.1 - 1 < (am_wl g w).length := by rw [am_wl_len hw]; omega
    have h1 := (hP (w.1 - 1) _ (List.getElem?_eq_getElem hl)).lt
    obtain ⟨-, -, sh, -, he⟩ := am_wl_get (List.getElem?_eq_getElem hl)
    rw [he] at h1
    have h1 : am_ad g (w.1 - 1) < H.size := h1
    rw [hg.ad _ (by omega)] at h1
    omega
theorem am_cv_cat (g : am_G) (v : Value) : (am_cv g v).category = v.category := by cases v <;> rfl
theorem am_cv_rv (g : am_G) (o : Option Nat) : va_rf (o.map (am_ad g)) = am_cv g (am_rv o) := by cases o <;> rfl
/-! ===== locals ===== -/
def am_lv (g : am_G) (ls : Array Slot) (nL : Nat) (l : List (Option Value)) : Prop := ls.size = nL ∧ lv_wf ls ∧ ∀ (i : Nat) (v : Value), l[i]? = some (some v) → ls[i]? = some (.val (am_cv g v))
def am_prs (g : am_G) (l : List (Option Value)) : List (Nat × Value) := (List.range l.length).filterMap fun j => match l[j]? with
  | some (some v) => some (j, am_cv g v)
  | _ => none
theorem am_prs_mem {g : am_G} {l : List (Option Value)} {i : Nat} {v : Value} (h : l[i]? = some (some v)) : (i, am_cv g v) ∈ am_prs g l := by
  unfold am_prs
  refine List.mem_filterMap.mpr ⟨i, List.mem_range.mpr (List.getElem?_eq_some_iff.mp h).1, ?_⟩
  rw [h]
theorem am_prs_of {g : am_G} {l : List (Option Value)} {q : Nat × Value} (h : q ∈ am_prs g l) : ∃ v, l[q.1]? = some (some v) ∧ q.2 = am_cv g v := by
  unfold am_prs at h
  obtain ⟨j, -, hj⟩ := List.mem_filterMap.mp h
  split at hj
  · next v hv =>
    cases hj
    exact ⟨v, hv, rfl⟩
  · cases hj
theorem am_lv_has {g : am_G} {ls : Array Slot} {nL : Nat} {l : List (Option Value)} (h : am_lv g ls nL l) : lv_has ls nL (am_prs g l) := by
  refine ⟨h.1, h.2.1, fun q hq => ?_⟩
  obtain ⟨v, h1, h2⟩ := am_prs_of hq
  rw [h2]
  exact h.2.2 _ _ h1
theorem am_k2_of {o : Option Value} {u : Value} (h : am_k2 o = some u) : o = some u ∧ ¬ u.category = 2 := by
  unfold am_k2 at h
  split at h
  · cases h
  · cases h
  · next n1 n2 =>
    subst h
    refine ⟨rfl, fun hc => ?_⟩
    cases u with
    | long x => exact n1 x rfl
    | double x => exact n2 x rfl
    | _ => simp [Value.category] at hc
theorem am_s1_get : ∀ (i : Nat) (v : Value) (l : List (Option Value)) (j : Nat) (u : Value), (am_s1 i v l)[j]? = some (some u) → (j = i ∧ u = v) ∨ (j ≠ i ∧ l[j]? = some (some u) ∧ ¬ (j + 1 = i ∧ u.category = 2))
  | _, _, [], j, u, h => by simp [am_s1] at h
  | 0, v, o :: r, 0, u, h => by simp [am_s1] at h; exact Or.inl ⟨rfl, h.symm⟩
  | 0, v, o :: r, j + 1, u, h => by
    simp [am_s1] at h
    exact Or.inr ⟨by omega, by simpa using h, by omega⟩
  | 1, v, o :: r, 0, u, h => by
    simp [am_s1] at h
    obtain ⟨h1, h2⟩ := am_k2_of h
    exact Or.inr ⟨by omega, by simp [h1], fun q => h2 q.2⟩
  | 1, v, o :: r, j + 1, u, h => by
    have h : (am_s1 0 v r)[j]? = some (some u) := by simpa [am_s1] using h
    rcases am_s1_get 0 v r j u h with ⟨h1, h2⟩ | ⟨h1, h2, h3⟩
    · exact Or.inl ⟨by omega, h2⟩
    · exact Or.inr ⟨by omega, by simpa using h2, by omega⟩
  | i + 2, v, o :: r, 0, u, h => by
    simp [am_s1] at h
    exact Or.inr ⟨by omega, by simp [h], by omega⟩
  | i + 2, v, o :: r, j + 1, u, h => by
    have h : (am_s1 (i + 1) v r)[j]? = some (some u) := by simpa [am_s1] using h
    rcases am_s1_get (i + 1) v r j u h with ⟨h1, h2⟩ | ⟨h1, h2, h3⟩
    · exact Or.inl ⟨by omega, h2⟩
    · exact Or.inr ⟨by omega, by simpa using h2, fun q => h3 ⟨by omega, q.2⟩⟩
theorem am_s2_get : ∀ (i : Nat) (v : Value) (l : List (Option Value)) (j : Nat) (u : Value), (am_s2 i v l)[j]? = some (some u) → (j = i ∧ u = v) ∨ (j ≠ i ∧ j ≠ i + 1 ∧ l[j]? = some (some u) ∧ ¬ (j + 1 = i ∧ u.category = 2))
  | 0, v, [], j, u, h => by simp [am_s2] at h
  | 0, v, [o], j, u, h => by simp [am_s2] at h
  | 0, v, o :: o2 :: r, 0, u, h => by simp [am_s2] at h; exact Or.inl ⟨rfl, h.symm⟩
  | 0, v, o :: o2 :: r, 1, u, h => by simp [am_s2] at h
  | 0, v, o :: o2 :: r, j + 2, u, h => by
    simp [am_s2] at h
    exact Or.inr ⟨by omega, by omega, by simpa using h, by omega⟩
  | 1, v, [], j, u, h => by simp [am_s2] at h
  | 1, v, o :: r, 0, u, h => by
    simp [am_s2] at h
    obtain ⟨h1, h2⟩ := am_k2_of h
    exact Or.inr ⟨by omega, by omega, by simp [h1], fun q => h2 q.2⟩
  | 1, v, o :: r, j + 1, u, h => by
    have h : (am_s2 0 v r)[j]? = some (some u) := by simpa [am_s2] using h
    rcases am_s2_get 0 v r j u h with ⟨h1, h2⟩ | ⟨h1, h0, h2, h3⟩
    · exact Or.inl ⟨by omega, h2⟩
    · exact Or.inr ⟨by omega, by omega, by simpa using h2, by omega⟩
  | i + 2, v, [], j, u, h => by simp [am_s2] at h
  | i + 2, v, o :: r, 0, u, h => by
    simp [am_s2] at h
    exact Or.inr ⟨by omega, by omega, by simp [h], by omega⟩
  | i + 2, v, o :: r, j + 1, u, h => by
    have h : (am_s2 (i + 1) v r)[j]? = some (some u) := by simpa [am_s2] using h
    rcases am_s2_get (i + 1) v r j u h with ⟨h1, h2⟩ | ⟨h1, h0, h2, h3⟩
    · exact Or.inl ⟨by omega, h2⟩
    · exact Or.inr ⟨by omega, by omega, by simpa using h2, fun q => h3 ⟨by omega, q.2⟩⟩
theorem am_lv_s1 {g : am_G} {ls ls1 : Array Slot} {nL i : Nat} {l : List (Option Value)} {v : Value} (h1 : lv_has ls1 nL ((i, am_cv g v) :: (am_prs g l).filter (fun q => !(q.1 == i) && !(q.1 + 1 == i && q.2.category == 2)))) : am_lv g ls1 nL (am_s1 i v l) := by
  refine ⟨h1.1, h1.2.1, fun j u hj => ?_⟩
  rcases am_s1_get i v l j u hj with ⟨e1, e2⟩ | ⟨e1, e2, e3⟩
  · subst e1; subst e2
    exact h1.2.2 (j, am_cv g u) List.mem_cons_self
  · refine h1.2.2 (j, am_cv g u) (List.mem_cons_of_mem _ (List.mem_filter.mpr ⟨am_prs_mem e2, ?_⟩))
    simp only [am_cv_cat]
    simp
    exact ⟨e1, Decidable.not_and_iff_or_not.mp e3⟩
theorem am_lv_s2 {g : am_G} {ls ls1 : Array Slot} {nL i : Nat} {l : List (Option Value)} {v : Value} (h1 : lv_has ls1 nL ((i, am_cv g v) :: (am_prs g l).filter (fun q => !(q.1 == i) && (!(q.1 == i + 1) && !(q.1 + 1 == i && q.2.category == 2))))) : am_lv g ls1 nL (am_s2 i v l) := by
  refine ⟨h1.1, h1.2.1, fun j u hj => ?_⟩
  rcases am_s2_get i v l j u hj with ⟨e1, e2⟩ | ⟨e1, e0, e2, e3⟩
  · subst e1; subst e2
    exact h1.2.2 (j, am_cv g u) List.mem_cons_self
  · refine h1.2.2 (j, am_cv g u) (List.mem_cons_of_mem _ (List.mem_filter.mpr ⟨am_prs_mem e2, ?_⟩))
    simp only [am_cv_cat]
    simp
    exact ⟨e1, e0, Decidable.not_and_iff_or_not.mp e3⟩
/-- the locals at a method's entry -/
def am_ea : List Value → List (Option Value)
  | [] => []
  | .long x :: r => some (.long x) :: none :: am_ea r
  | .double x :: r => some (.double x) :: none :: am_ea r
  | v :: r => some v :: am_ea r
def am_ent (nL : Nat) (vs : List Value) : List (Option Value) := am_ea vs ++ List.replicate (nL - (am_ea vs).length) none
theorem am_ea_in {g : am_G} : ∀ (vs : List Value) (k j : Nat) (v : Value), (am_ea vs)[j]? = some (some v) → (k + j, am_cv g v) ∈ lv_args k (vs.map (am_cv g))
  | [], _, _, _, h => by simp [am_ea] at h
  | u :: r, k, j, v, h => by
    have hc := am_cv_cat g u
    show (k + j, am_cv g v) ∈ (k, am_cv g u) :: lv_args (if (am_cv g u).category = 2 then k + 2 else k + 1) (r.map (am_cv g))
    rw [hc]
    have two : ∀ (j : Nat), u.category = 2 → (some u :: none :: am_ea r)[j]? = some (some v) → (k + j, am_cv g v) ∈ (k, am_cv g u) :: lv_args (if u.category = 2 then k + 2 else k + 1) (r.map (am_cv g)) := by
      intro j hu h
      match j, h with
      | 0, h => simp at h; subst h; exact List.mem_cons_self
      | 1, h => simp at h
      | j + 2, h =>
        have h : (am_ea r)[j]? = some (some v) := by simpa using h
        rw [if_pos hu]
        have := am_ea_in (g := g) r (k + 2) j v h
        rw [show k + 2 + j = k + (j + 2) by omega] at this
        exact List.mem_cons_of_mem _ this
    have one : ∀ (j : Nat), ¬ u.category = 2 → (some u :: am_ea r)[j]? = some (some v) → (k + j, am_cv g v) ∈ (k, am_cv g u) :: lv_args (if u.category = 2 then k + 2 else k + 1) (r.map (am_cv g)) := by
      intro j hu h
      match j, h with
      | 0, h => simp at h; subst h; exact List.mem_cons_self
      | j + 1, h =>
        have h : (am_ea r)[j]? = some (some v) := by simpa using h
        rw [if_neg hu]
        have := am_ea_in (g := g) r (k + 1) j v h
        rw [show k + 1 + j = k + (j + 1) by omega] at this
        exact List.mem_cons_of_mem _ this
    cases u with
    | long x => exact two j rfl h
    | double x => exact two j rfl h
    | int x => exact one j (by simp [Value.category]) h
    | float x => exact one j (by simp [Value.category]) h
    | null => exact one j (by simp [Value.category]) h
    | ref x => exact one j (by simp [Value.category]) h
    | retAddr x => exact one j (by simp [Value.category]) h
theorem am_lv_ent {g : am_G} {ls : Array Slot} {nL : Nat} {vs : List Value} (h : lv_has ls nL (lv_args 0 (vs.map (am_cv g)))) : am_lv g ls nL (am_ent nL vs) := by
  refine ⟨h.1, h.2.1, fun i v hi => ?_⟩
  unfold am_ent at hi
  by_cases hl : i < (am_ea vs).length
  · rw [List.getElem?_append_left hl] at hi
    have := am_ea_in (g := g) vs 0 i v hi
    rw [Nat.zero_add] at this
    exact h.2.2 _ this
  · rw [List.getElem?_append_right (by omega), List.getElem?_replicate] at hi
    split at hi <;> simp at hi
