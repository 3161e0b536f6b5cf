/-! ===== the reference reads a line of orders ===== -/
def lwj_ (j a k : Nat) : Prop := ((a = 122 ∨ a = 123) ∧ k < 700 * j) ∨ ((a = 124 ∨ a = 125 ∨ a = 133) ∧ k < 8 * j) ∨ (a = 126 ∧ k < 6 * j) ∨ (a = 128 ∧ k < 10 * j) ∨ ((a = 127 ∨ a = 129 ∨ a = 130 ∨ a = 131 ∨ a = 132) ∧ k < j) ∨ (a = 106 ∧ k = 33)
def mfo_ (j : Nat) (m m1 : fm_) : Prop := ∀ a k, lwj_ j a k → gi_ m1 a k = gi_ m a k
theorem mfo_r {j : Nat} {m : fm_} : mfo_ j m m := fun _ _ _ => rfl
theorem mfo_t {j : Nat} {m m1 m2 : fm_} (h : mfo_ j m m1) (k : mfo_ j m1 m2) : mfo_ j m m2 := fun a i h1 => (k a i h1).trans (h a i h1)
theorem mfo_w {j : Nat} {m m1 : fm_} (h : sa_ rfw_ m m1) : mfo_ j m m1 := fun a k h1 => rfw_g h a k (by unfold lwj_ at h1; omega)
theorem mfo_2 {j b l : Nat} {m m1 : fm_} (h : mf2_ j b l m m1) : mfo_ j m m1 := fun a k h1 => by
  unfold lwj_ at h1
  exact h a k (by omega) (by omega) (by omega) (by omega)
theorem mfo_s {j a k : Nat} {x : Int32} {m : fm_} (h : ¬ lwj_ j a k) : mfo_ j m (si_ m a k x) := fun b i h1 => gi_si_ne (fun q => h (by rw [← q.1, ← q.2]; exact h1))
def cmb_ (j l : Nat) (c : cd_) (b : Nat) (m : fm_) : Prop := gi_ m 133 (8 * j + l) = 1 ∧ ∃ s, gi_ m 124 (8 * j + l) = nI s ∧ gi_ m 125 (8 * j + l) = nI (s + c.length) ∧ s + c.length ≤ b ∧ rws_ (700 * j + s) c m
def omb_ (j l : Nat) (c : Option cd_) (b : Nat) (m : fm_) : Prop := match c with
  | none => gi_ m 133 (8 * j + l) = 0
  | some c => cmb_ j l c b m
def clm_ (j : Nat) (cl : List (Nat × cd_)) (b : Nat) (m : fm_) : Prop := ∀ l q, cl[l]? = some q → gi_ m 126 (6 * j + l) = nI q.1 ∧ cmb_ j l q.2 b m
def odm_ (j : Nat) (d : od_) (b : Nat) (m : fm_) : Prop := gi_ m 132 j = nI d.1 ∧ (∀ k, k < 10 → gi_ m 128 (10 * j + k) = nI (oom_ (d.2.1 k)) ∧ gi_ m 134 k = b01_ (d.2.1 k).isSome) ∧ (gi_ m 129 j = nI (hrs_ d.2.2.1).1 ∧ gi_ m 130 j = nI (hrs_ d.2.2.1).2 ∧ gi_ m 106 47 = b01_ d.2.2.1.isSome) ∧ (gi_ m 131 j = nI (oom_ d.2.2.2.1) ∧ gi_ m 106 48 = b01_ d.2.2.2.1.isSome) ∧ gi_ m 127 j = nI d.2.2.2.2.1.length ∧ clm_ j d.2.2.2.2.1 b m ∧ omb_ j 6 d.2.2.2.2.2.1 b m ∧ omb_ j 7 d.2.2.2.2.2.2 b m
theorem cmb_g {j l : Nat} {c : cd_} {b b1 : Nat} {m m1 : fm_} (h : cmb_ j l c b m) (hb : b ≤ b1) (hf : ∀ a k, (a = 122 ∨ a = 123) → k < 700 * j + b → gi_ m1 a k = gi_ m a k) (hl : ∀ a, (a = 124 ∨ a = 125 ∨ a = 133) → gi_ m1 a (8 * j + l) = gi_ m a (8 * j + l)) : cmb_ j l c b1 m1 := by
  obtain ⟨h1, s, h2, h3, h4, h5⟩ := h
  refine ⟨(hl _ (by omega)).trans h1, s, (hl _ (by omega)).trans h2, (hl _ (by omega)).trans h3, by omega, fun i q hi => ?_⟩
  have hi2 := (List.getElem?_eq_some_iff.mp hi).1
  exact ⟨(hf _ _ (by omega) (by omega)).trans (h5 i q hi).1, fun z => (hf _ _ (by omega) (by omega)).trans ((h5 i q hi).2 z)⟩
theorem omb_g {j l : Nat} {c : Option cd_} {b b1 : Nat} {m m1 : fm_} (h : omb_ j l c b m) (hb : b ≤ b1) (hf : ∀ a k, (a = 122 ∨ a = 123) → k < 700 * j + b → gi_ m1 a k = gi_ m a k) (hl : ∀ a, (a = 124 ∨ a = 125 ∨ a = 133) → gi_ m1 a (8 * j + l) = gi_ m a (8 * j + l)) : omb_ j l c b1 m1 := by
  cases c with
  | none => exact (hl _ (by omega)).trans h
  | some c => exact cmb_g h hb hf hl
theorem clm_g {j : Nat} {cl : List (Nat × cd_)} (h6 : cl.length ≤ 6) {b b1 : Nat} {m m1 : fm_} (h : clm_ j cl b m) (hb : b ≤ b1) (hf : ∀ a k, (a = 122 ∨ a = 123) → k < 700 * j + b → gi_ m1 a k = gi_ m a k) (hl : ∀ a l, (a = 124 ∨ a = 125 ∨ a = 133) → l < cl.length → gi_ m1 a (8 * j + l) = gi_ m a (8 * j + l)) (h2 : ∀ l, l < cl.length → gi_ m1 126 (6 * j + l) = gi_ m 126 (6 * j + l)) : clm_ j cl b1 m1 := by
  intro l q hq
  have hi2 := (List.getElem?_eq_some_iff.mp hq).1
  obtain ⟨e1, e2⟩ := h l q hq
  exact ⟨(h2 l hi2).trans e1, cmb_g e2 hb hf (fun a ha => hl a l ha hi2)⟩
def dtm_ (L : List Nat) (j : Nat) (d : od_) (u b : Nat) (ts : List tkn_) (m : fm_) : Prop := rsn_ L ts m ∧ odm_ j d b m ∧ gi_ m 106 33 = nI j ∧ gi_ m 106 49 = nI b ∧ gi_ m 106 50 = nI u ∧ u ≤ 50 ∧ b + ts.length ≤ 701
def RR_ (L : List Nat) (j : Nat) (spec : ors_) (lhs : Option (Int32 × fm_)) (m : fm_) : Prop := (∃ f m1, spec = .inl f ∧ lhs = some (0, m1) ∧ flm_ f m1 ∧ mfo_ j m m1) ∨ (∃ d1 u1 r1 b1 m1, spec = .inr (d1, u1, r1) ∧ lhs = some (0, m1) ∧ dtm_ L j d1 u1 b1 r1 m1 ∧ mfo_ j m m1)
theorem odm_g {j : Nat} {d : od_} (h6 : d.2.2.2.2.1.length ≤ 6) {b : Nat} {m m1 : fm_} (h : odm_ j d b m) (hf : ∀ a k, (¬ a = 106 ∨ 10 ≤ k) → gi_ m1 a k = gi_ m a k) : odm_ j d b m1 := by
  obtain ⟨c1, c2, c3, c4, c5, c6, c7, c8⟩ := h
  exact ⟨(hf _ _ (by omega)).trans c1, fun k hk => ⟨(hf _ _ (by omega)).trans (c2 k hk).1, (hf _ _ (by omega)).trans (c2 k hk).2⟩, ⟨(hf _ _ (by omega)).trans c3.1, (hf _ _ (by omega)).trans c3.2.1, (hf _ _ (by omega)).trans c3.2.2⟩, ⟨(hf _ _ (by omega)).trans c4.1, (hf _ _ (by omega)).trans c4.2⟩, (hf _ _ (by omega)).trans c5, clm_g h6 c6 (Nat.le_refl _) (fun a k _ _ => hf _ _ (by omega)) (fun a l _ _ => hf _ _ (by omega)) (fun l _ => hf _ _ (by omega)), omb_g c7 (Nat.le_refl _) (fun a k _ _ => hf _ _ (by omega)) (fun a _ => hf _ _ (by omega)), omb_g c8 (Nat.le_refl _) (fun a k _ _ => hf _ _ (by omega)) (fun a _ => hf _ _ (by omega))⟩
/-- the end of a line -/
theorem r393_f {f : Nat × Nat} {m : fm_} (h : flm_ f m) {x : Int32} : f_X12_readOrder_393 x m = some (0, m) := by
  rw [e_X12_readOrder_393, wen_f h]
  rfl
theorem fin_m {L : List Nat} {j : Nat} {d : od_} (h6 : d.2.2.2.2.1.length ≤ 6) {u b : Nat} {ts : List tkn_} {m : fm_} (h : dtm_ L j d u b ts m) {x : Int32} : (∃ f m1, tqk_ 59 ts = .inl f ∧ f_X12_readOrder_393 x m = some (0, m1) ∧ flm_ f m1 ∧ mfo_ j m m1) ∨ (∃ r m1, tqk_ 59 ts = .inr r ∧ f_X12_readOrder_393 x m = some (0, m1) ∧ dtm_ L j d u b r m1 ∧ mfo_ j m m1) := by
  obtain ⟨h1, h2, h3, h4, h5, h7, h8⟩ := h
  rw [e_X12_readOrder_393]
  rcases wen_m h1 with ⟨f, m1, a1, a2, a3, a4⟩ | ⟨r, m1, a1, a2, a3, a4⟩
  · exact Or.inl ⟨f, m1, a1, by rw [a2]; rfl, a3, mfo_w a4⟩
  · have g := rfw_g a4
    have := tqk_n a1
    exact Or.inr ⟨r, m1, a1, by rw [a2]; rfl, ⟨a3, odm_g h6 h2 g, (g _ _ (by omega)).trans h3, (g _ _ (by omega)).trans h4, (g _ _ (by omega)).trans h5, h7, by omega⟩, mfo_w a4⟩
theorem rdE_f {f : Nat × Nat} {m : fm_} (h : flm_ f m) {x : Int32} : f_X12_readE x m = some (0, m) := by
  unfold f_X12_readE
  rw [if_neg (flm_g h).1]
theorem sbd_k {β : Type} {al : Nat → Bool} {u : Nat} {ts r : List tkn_} (h : tqk_ 111 ts = .inr r) (F : cd_ → Nat → List tkn_ → β) : (sbd_ (whn_ al u ts) fun w => sbd_ (tqk_ 59 w.2.2) fun r1 => (.inr (F w.1 w.2.1 r1) : Sum (Nat × Nat) β)) = sbd_ (eln_ al u r) fun z => .inr (F z.1 z.2.1 z.2.2) := by
  unfold whn_ eln_
  rw [h, sbd_r]
  cases eit_ (rne_ al 7) 51 false false u [] r with
  | inl f => rfl
  | inr q =>
    show (sbd_ (tqk_ 59 q.2.2) fun r1 => (.inr (F q.1 q.2.1 r1) : Sum (Nat × Nat) β)) = sbd_ (sbd_ (tqk_ 59 q.2.2) fun r => .inr (q.1, q.2.1, r)) fun z => .inr (F z.1 z.2.1 z.2.2)
    cases tqk_ 59 q.2.2 <;> rfl
/-- the word when, an e and the sign behind it, unread -/
theorem ask1_m {L : List Nat} {j l ol b u : Nat} (hj : j < 6) (hl : l < 8) (hol : ol = if l < 6 then 0 else l) {al : Nat → Bool} (hal : mym_ ol al) {ts : List tkn_} {m : fm_} (h : rsn_ L ts m) (h33 : gi_ m 106 33 = nI j) (h49 : gi_ m 106 49 = nI b) (h50 : gi_ m 106 50 = nI u) (hu : u ≤ 50) (hb : b + ts.length ≤ 701) {β : Type} (F : cd_ → Nat → List tkn_ → β) : (∃ f m1, (sbd_ (whn_ al u ts) fun w => sbd_ (tqk_ 59 w.2.2) fun r1 => (.inr (F w.1 w.2.1 r1) : Sum (Nat × Nat) β)) = .inl f ∧ (Option.bind (f_X12_wantWord 2003330414 m) fun q13 => f_X12_readE (nI l) q13.2) = some (0, m1) ∧ flm_ f m1 ∧ mf2_ j b l m m1) ∨ (∃ S1 u1 t r m1, (sbd_ (whn_ al u ts) fun w => sbd_ (tqk_ 59 w.2.2) fun r1 => (.inr (F w.1 w.2.1 r1) : Sum (Nat × Nat) β)) = .inr (F S1 u1 r) ∧ t.1 = 59 ∧ (Option.bind (f_X12_wantWord 2003330414 m) fun q13 => f_X12_readE (nI l) q13.2) = some (0, m1) ∧ rsn_ L (t :: r) m1 ∧ gi_ m1 106 33 = nI j ∧ gi_ m1 106 49 = nI (b + S1.length) ∧ gi_ m1 106 50 = nI u1 ∧ u1 ≤ 50 ∧ cmb_ j l S1 (b + S1.length) m1 ∧ b + S1.length + (t :: r).length ≤ 701 ∧ mf2_ j b l m m1) := by
  rcases wnt_m h (k := 12) (c := 2003330414) (by omega) (by rfl) with ⟨f, m1, a1, a2, a3, a4⟩ | ⟨r, m1, a1, a2, a3, a4⟩
  · have a1 : tqk_ 111 ts = .inl f := a1
    refine Or.inl ⟨f, m1, ?_, ?_, a3, fun a k k1 k2 k3 k4 => rfw_g a4 a k (by omega)⟩
    · unfold whn_
      rw [a1]
      rfl
    · rw [a2, Option.bind_some]
      exact rdE_f a3
  · have a1 : tqk_ 111 ts = .inr r := a1
    have g := rfw_g a4
    have ln := tqk_n a1
    rw [sbd_k a1, a2, Option.bind_some]
    have wt := a3.2.2.1
    rcases rdE_m hj hl hol hal a3 ((g _ _ (by omega)).trans h33) ((g _ _ (by omega)).trans h49) ((g _ _ (by omega)).trans h50) hu (by omega) with ⟨f, m2, b1, b2, b3, b4⟩ | ⟨S1, u1, t, r1, m2, b1, b2, b3, b4, b5, b6, b7, b8, b9, b10, b11⟩
    · exact Or.inl ⟨f, m2, by rw [b1]; rfl, b2, b3, fun a k k1 k2 k3 k4 => (b4 a k k1 k2 k3 k4).trans (g a k (by omega))⟩
    · have hu1 : u1 ≤ 50 := by
        obtain ⟨X, _, _, x3, _⟩ := eit_t (rne_t 7) 51 false false u [] r S1 u1 (t :: r1) wt b1
        exact x3
      exact Or.inr ⟨S1, u1, t, r1, m2, by rw [b2]; rfl, b3, b4, b5, b6, b7, b8, hu1, ⟨b9.1, b, b9.2.1, b9.2.2.1, Nat.le_refl _, b9.2.2.2⟩, b10, fun a k k1 k2 k3 k4 => (b11 a k k1 k2 k3 k4).trans (g a k (by omega))⟩
theorem r388_m {L : List Nat} {j : Nat} {t : tkn_} {r : List tkn_} {m : fm_} (h : rsn_ L (t :: r) m) {x : Int32} : RR_ L j (.inl (flt_ 2 t)) (f_X12_readOrder_388 x m) m := by
  obtain ⟨m8, x1, x2, x4, _⟩ := wrg_m h (c := 2) (by omega) (by omega)
  have x1 : f_X12_wrong 2 m = some (0, m8) := x1
  refine Or.inl ⟨_, m8, rfl, ?_, x2, mfo_w x4⟩
  rw [e_X12_readOrder_388, x1, Option.bind_some]
  exact r393_f x2
