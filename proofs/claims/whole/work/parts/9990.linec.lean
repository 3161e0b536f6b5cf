/-! ===== the class reads a line of orders ===== -/
def ofs_ (o : Nat) (m m1 : fm_) : Prop := ∀ a k, ¬ a = 1 → ¬ a = 68 → ¬ (o ≤ a ∧ a ≤ o + 4) → gi_ m1 a k = gi_ m a k
theorem ofs_r {o : Nat} {m : fm_} : ofs_ o m m := fun _ _ _ _ _ => rfl
theorem ofs_t {o : Nat} {m m1 m2 : fm_} (h : ofs_ o m m1) (k : ofs_ o m1 m2) : ofs_ o m m2 := fun a j h1 h2 h3 => (k a j h1 h2 h3).trans (h a j h1 h2 h3)
theorem ofs_o {o : Nat} {m m1 : fm_} (h : ofr_ o m m1) : ofs_ o m m1 := fun a k h1 h2 h3 => h a k h1 (by omega) (by omega) (by omega)
theorem ofs_1 {o : Nat} {m m1 : fm_} (h : sa_ tfw_ m m1) : ofs_ o m m1 := ofs_o (ofr_1 h)
theorem flc_si {f : Nat × Nat} {m : fm_} (h : flc_ f m) {a k : Nat} {x : Int32} (ha : 6 ≤ a) : flc_ f (si_ m a k x) := ⟨by rw [gi_si_ne (by omega)]; exact h.1, by rw [gi_si_ne (by omega)]; exact h.2⟩
def ccb_ (o s : Nat) (c : cd_) (n : Nat) (m : fm_) : Prop := (∀ i q, c[i]? = some q → gi_ m (o + 1) (s + i) = enc_ q) ∧ gi_ m (o + 1) (s + c.length) = -100 ∧ s + c.length < n
def ocb_ (o : Nat) (x : Int32) (c : Option cd_) (n : Nat) (m : fm_) : Prop := match c with
  | none => x = -1
  | some c => ∃ s, x = nI s ∧ ccb_ o s c n m
def hrc_ (o : Nat) (h : Option (Nat × Nat)) (m : fm_) : Prop := match h with
  | none => gi_ m o 7 = -1 ∧ gi_ m o 8 = -1
  | some q => gi_ m o 7 = nI q.1 ∧ gi_ m o 8 = nI q.2
def clc_ (o : Nat) (cl : List (Nat × cd_)) (n : Nat) (m : fm_) : Prop := ∀ l q, cl[l]? = some q → gi_ m (o + 2) l = nI q.1 ∧ ∃ s, gi_ m (o + 3) l = nI s ∧ ccb_ o s q.2 n m
def odc_ (o : Nat) (d : od_) (n : Nat) (m : fm_) : Prop := gi_ m o 0 = nI d.1 ∧ (∀ k, k < 10 → gi_ m (o + 4) k = ooc_ (d.2.1 k)) ∧ hrc_ o d.2.2.1 m ∧ gi_ m o 9 = ooc_ d.2.2.2.1 ∧ gi_ m o 5 = nI d.2.2.2.2.1.length ∧ clc_ o d.2.2.2.2.1 n m ∧ ocb_ o (gi_ m o 10) d.2.2.2.2.2.1 n m ∧ ocb_ o (gi_ m o 11) d.2.2.2.2.2.2 n m
theorem ccb_g {o s : Nat} {c : cd_} {n n1 : Nat} {m m1 : fm_} (h : ccb_ o s c n m) (hn : n ≤ n1) (hf : ∀ k, k < n → gi_ m1 (o + 1) k = gi_ m (o + 1) k) : ccb_ o s c n1 m1 := by
  obtain ⟨h1, h2, h3⟩ := h
  refine ⟨fun i q hi => ?_, (hf _ h3).trans h2, by omega⟩
  have := (List.getElem?_eq_some_iff.mp hi).1
  exact (hf _ (by omega)).trans (h1 i q hi)
theorem ocb_g {o : Nat} {x : Int32} {c : Option cd_} {n n1 : Nat} {m m1 : fm_} (h : ocb_ o x c n m) (hn : n ≤ n1) (hf : ∀ k, k < n → gi_ m1 (o + 1) k = gi_ m (o + 1) k) : ocb_ o x c n1 m1 := by
  cases c with
  | none => exact h
  | some c =>
    obtain ⟨s, e1, e2⟩ := h
    exact ⟨s, e1, ccb_g e2 hn hf⟩
theorem clc_g {o : Nat} {cl : List (Nat × cd_)} {n n1 : Nat} {m m1 : fm_} (h : clc_ o cl n m) (hn : n ≤ n1) (hf : ∀ k, k < n → gi_ m1 (o + 1) k = gi_ m (o + 1) k) (h2 : ∀ k, k < cl.length → gi_ m1 (o + 2) k = gi_ m (o + 2) k ∧ gi_ m1 (o + 3) k = gi_ m (o + 3) k) : clc_ o cl n1 m1 := by
  intro l q hl
  obtain ⟨e1, s, e2, e3⟩ := h l q hl
  have hk := h2 l (List.getElem?_eq_some_iff.mp hl).1
  exact ⟨hk.1.trans e1, s, hk.2.trans e2, ccb_g e3 hn hf⟩
theorem hrc_g {o : Nat} {h : Option (Nat × Nat)} {m m1 : fm_} (k : hrc_ o h m) (h7 : gi_ m1 o 7 = gi_ m o 7) (h8 : gi_ m1 o 8 = gi_ m o 8) : hrc_ o h m1 := by
  cases h with
  | none => exact ⟨h7.trans k.1, h8.trans k.2⟩
  | some q => exact ⟨h7.trans k.1, h8.trans k.2⟩
theorem odc_g {o : Nat} {d : od_} {n n1 : Nat} {m m1 : fm_} (h : odc_ o d n m) (hn : n ≤ n1) (hf : ∀ a k, o ≤ a → a ≤ o + 4 → ¬ (a = o ∧ k = 2) → ¬ (a = o + 1 ∧ n ≤ k) → gi_ m1 a k = gi_ m a k) : odc_ o d n1 m1 := by
  obtain ⟨c1, c2, c3, c4, c5, c6, c7, c8⟩ := h
  have h1 : ∀ k, k < n → gi_ m1 (o + 1) k = gi_ m (o + 1) k := fun k hk => hf _ _ (by omega) (by omega) (by omega) (by omega)
  refine ⟨(hf _ _ (by omega) (by omega) (by omega) (by omega)).trans c1, fun k hk => (hf _ _ (by omega) (by omega) (by omega) (by omega)).trans (c2 k hk), hrc_g c3 (hf _ _ (by omega) (by omega) (by omega) (by omega)) (hf _ _ (by omega) (by omega) (by omega) (by omega)), (hf _ _ (by omega) (by omega) (by omega) (by omega)).trans c4, (hf _ _ (by omega) (by omega) (by omega) (by omega)).trans c5, clc_g c6 hn h1 (fun k hk => ⟨hf _ _ (by omega) (by omega) (by omega) (by omega), hf _ _ (by omega) (by omega) (by omega) (by omega)⟩), ?_, ?_⟩
  · rw [hf o 10 (by omega) (by omega) (by omega) (by omega)]
    exact ocb_g c7 hn h1
  · rw [hf o 11 (by omega) (by omega) (by omega) (by omega)]
    exact ocb_g c8 hn h1
/-- the word when, an e, over what stands -/
theorem whn2_c {o : Nat} (ho : 32 ≤ o) (ho2 : o ≤ 62) {al : Nat → Bool} {ln : Nat} (hal : may_ ln al) {u n : Nat} {ts : List tkn_} {m : fm_} (h : csn_ ts m) (h3 : gi_ m 68 3 = nI u) (h2 : gi_ m 68 2 = nI ln) (hn : gi_ m o 2 = nI n) (hu : u ≤ 50) (hnu : 2 * n ≤ 11 * u) : (∃ e m1, whn_ al u ts = .inl e ∧ f_X5_readWhen o m = some (nI 0, m1) ∧ flc_ e m1) ∨ (∃ S1 u1 r m1, whn_ al u ts = .inr (S1, u1, r) ∧ f_X5_readWhen o m = some (nI 1, m1) ∧ csn_ r m1 ∧ gi_ m1 68 3 = nI u1 ∧ gi_ m1 o 2 = nI (n + S1.length + 1) ∧ ccb_ o n S1 (n + S1.length + 1) m1 ∧ (∀ k, k < n → gi_ m1 (o + 1) k = gi_ m (o + 1) k) ∧ ofr_ o m m1 ∧ u < u1 ∧ u1 ≤ 50 ∧ 2 * (n + S1.length + 1) ≤ 11 * u1) := by
  have Bd : ∃ B, B = (List.range n).map fun i => gi_ m (o + 1) i := ⟨_, rfl⟩
  obtain ⟨B, hB⟩ := Bd
  have lB : B.length = n := by rw [hB, List.length_map, List.length_range]
  have gB : ∀ i, i < n → B[i]? = some (gi_ m (o + 1) i) := fun i hi => by
    rw [hB, List.getElem?_map, List.getElem?_range hi]
    rfl
  have c0 : cts_ o B ln u [] ts m := by
    refine ⟨h, ⟨?_, fun i x hi _ => ?_⟩, h3, h2⟩
    · rw [hn, lB]
      show nI n = nI (min (n + 0) 400)
      rw [Nat.min_eq_left (by omega)]
      rfl
    · rw [List.map_nil, List.append_nil] at hi
      have hl := (List.getElem?_eq_some_iff.mp hi).1
      rw [gB i (by omega)] at hi
      injection hi with hi
  rcases whn_c ho ho2 hal c0 hu with ⟨e, m1, a1, a2, a3⟩ | ⟨S1, u1, r, m1, a1, a2, a3, a4, a5, a6, a7, a8, a9⟩
  · exact Or.inl ⟨e, m1, a1, a2, a3⟩
  · have jt := whn_t h.2.2 a1
    have hS : 2 * S1.length + 2 ≤ 11 * (u1 - u) := jt.2.2.2.1
    rw [lB, Nat.min_eq_left (by omega)] at a5
    refine Or.inr ⟨S1, u1, r, m1, a1, a2, a3, a4, a5, ⟨fun i q hi => ?_, ?_, by omega⟩, fun k hk => ?_, a7, a8, a9, by omega⟩
    · have hl := (List.getElem?_eq_some_iff.mp hi).1
      refine a6 (n + i) (enc_ q) ?_ (by omega)
      rw [List.append_assoc, List.getElem?_append_right (by omega), lB, Nat.add_sub_cancel_left, List.getElem?_append_left (by rw [List.length_map]; exact hl), List.getElem?_map, hi]
      rfl
    · refine a6 (n + S1.length) (-100) ?_ (by omega)
      rw [List.getElem?_append_right (by rw [List.length_append, List.length_map]; omega), List.length_append, List.length_map, lB, Nat.sub_self]
      rfl
    · refine a6 k _ ?_ (by omega)
      rw [List.append_assoc, List.getElem?_append_left (by omega)]
      exact gB k hk
/-- what the class holds of orders that it reads -/
def dtc_ (o : Nat) (d : od_) (u n : Nat) (ts : List tkn_) (m : fm_) : Prop := csn_ ts m ∧ odc_ o d n m ∧ gi_ m o 2 = nI n ∧ gi_ m 68 3 = nI u ∧ 2 * n ≤ 11 * u ∧ u ≤ 50
def LR_ (o : Nat) (spec : ors_) (lhs : Option (Int32 × fm_)) (m : fm_) : Prop := (∃ f m1, spec = .inl f ∧ lhs = some (nI 0, m1) ∧ flc_ f m1) ∨ (∃ d1 u1 r1 n1 m1, spec = .inr (d1, u1, r1) ∧ lhs = some (nI 1, m1) ∧ dtc_ o d1 u1 n1 r1 m1 ∧ ofs_ o m m1)
/-- behind a line's head: the end of the line -/
theorem fin_c {o : Nat} (ho : 32 ≤ o) {d : od_} {u n : Nat} {ts : List tkn_} {m : fm_} (h : dtc_ o d u n ts m) : (∃ f m1, tqk_ 59 ts = .inl f ∧ f_X8_take 59 m = some (nI 0, m1) ∧ flc_ f m1) ∨ (∃ r m1, tqk_ 59 ts = .inr r ∧ f_X8_take 59 m = some (nI 1, m1) ∧ dtc_ o d u n r m1 ∧ ofs_ o m m1) := by
  obtain ⟨h1, h2, h3, h4, h5, h6⟩ := h
  rcases tak_c h1 (k := 59) (by omega) (by omega) with ⟨g, m3, b1, b2, b3, _⟩ | ⟨r2, m3, b1, b2, b3, b4⟩
  · exact Or.inl ⟨g, m3, b1, b2, b3⟩
  · have gg := tfw_6 b4
    exact Or.inr ⟨r2, m3, b1, b2, ⟨b3, odc_g h2 (Nat.le_refl n) (fun a k k1 k2 _ _ => gg a k (by omega)), (gg _ _ (by omega)).trans h3, (gg _ _ (by omega)).trans h4, h5, h6⟩, ofs_1 b4⟩
theorem ocb_n {o : Nat} {x : Int32} {c : Option cd_} {n : Nat} {m : fm_} (h : ocb_ o x c n m) (hn : n ≤ 400) : x = -1 ↔ c = none := by
  cases c with
  | none => exact ⟨fun _ => rfl, fun _ => h⟩
  | some c =>
    obtain ⟨s, e1, e2, e3, e4⟩ := h
    exact ⟨fun q => absurd (e1.symm.trans q) (nm1_ (by omega)), fun q => by cases q⟩
theorem ooc_n {c : Option Nat} (h : ∀ v, c = some v → v ≤ 1440) : ooc_ c = -1 ↔ c = none := by
  cases c with
  | none => exact ⟨fun _ => rfl, fun _ => rfl⟩
  | some v => exact ⟨fun q => absurd q (nm1_ (by have := h v rfl; omega)), fun q => by cases q⟩
theorem hrc_n {o : Nat} {c : Option (Nat × Nat)} {m : fm_} (h : hrc_ o c m) (hk : ∀ q, c = some q → q.1 < q.2 ∧ q.2 ≤ 1440) : gi_ m o 7 = -1 ↔ c = none := by
  cases c with
  | none => exact ⟨fun _ => rfl, fun _ => h.1⟩
  | some v =>
    have := hk v rfl
    exact ⟨fun q => absurd (h.1.symm.trans q) (nm1_ (by omega)), fun q => by cases q⟩
/-- a line that asks, where its head is read -/
theorem ask1_c {o : Nat} (ho : 32 ≤ o) (ho2 : o ≤ 62) {al : Nat → Bool} {ln : Nat} (hal : may_ ln al) {d : od_} {u n : Nat} {ts : List tkn_} {m0 m : fm_} (h : csn_ ts m) (h2 : gi_ m 68 2 = nI ln) (h3 : gi_ m o 2 = nI n) (h4 : gi_ m 68 3 = nI u) (h5 : 2 * n ≤ 11 * u) (h6 : u ≤ 50) (hf : ofs_ o m0 m) {mk : cd_ → od_} (hd : ∀ (S1 : cd_) (m1 : fm_), ccb_ o n S1 (n + S1.length + 1) m1 → (∀ k, k < n → gi_ m1 (o + 1) k = gi_ m (o + 1) k) → (∀ a k, o ≤ a → a ≤ o + 4 → ¬ (a = o ∧ k = 2) → ¬ a = o + 1 → gi_ m1 a k = gi_ m a k) → odc_ o (mk S1) (n + S1.length + 1) m1) : LR_ o (sbd_ (whn_ al u ts) fun w => sbd_ (tqk_ 59 w.2.2) fun r1 => .inr (mk w.1, w.2.1, r1)) (Option.bind (f_X5_readWhen o m) fun q19 => if q19.1 = 0 then some (0, q19.2) else Option.bind (f_X8_take 59 q19.2) fun q24 => some (q24.1, q24.2)) m0 := by
  rcases whn2_c ho ho2 hal h h4 h2 h3 h6 h5 with ⟨e, m1, a1, a2, a3⟩ | ⟨S1, u1, r, m1, a1, a2, a3, a4, a5, a6, a7, a8, a9, a10, a11⟩
  · refine Or.inl ⟨e, m1, by rw [a1]; rfl, ?_, a3⟩
    rw [a2]
    rfl
  · rw [a1, sbd_r, a2, Option.bind_some, if_neg (show ¬ nI 1 = 0 by decide)]
    dsimp only
    have dt : dtc_ o (mk S1) u1 (n + S1.length + 1) r m1 := ⟨a3, hd S1 m1 a6 a7 (fun a k k1 k2 k3 k4 => a8 a k (by omega) (by omega) (by omega) (by omega)), a5, a4, a11, a10⟩
    rcases fin_c ho dt with ⟨g, m3, b1, b2, b3⟩ | ⟨r2, m3, b1, b2, b3, b4⟩
    · refine Or.inl ⟨g, m3, by rw [b1]; rfl, ?_, b3⟩
      rw [b2]
      rfl
    · refine Or.inr ⟨mk S1, u1, r2, _, m3, by rw [b1]; rfl, ?_, b3, ofs_t hf (ofs_t (ofs_o a8) b4)⟩
      rw [b2]
      rfl
