/-! ===== what a method leaves as it is ===== -/
def wi_ (l : List (Nat × Nat × Nat)) (a k : Nat) : Bool := match l with
  | [] => false
  | q :: r => (Nat.ble q.1 a && (Nat.ble a q.2.1 && (Nat.beq q.2.2 0 || Nat.beq q.2.2 (k + 1)))) || wi_ r a k
/-- the two agree but for the places of l -/
def sa_ (l : List (Nat × Nat × Nat)) (m m1 : fm_) : Prop := ∀ a k, wi_ l a k = false → m1.1 a k = m.1 a k ∧ m1.2 a k = m.2 a k
def sb_ (l r : List (Nat × Nat × Nat)) : Bool := l.all fun q => r.any fun p => Nat.ble p.1 q.1 && (Nat.ble q.2.1 p.2.1 && (Nat.beq p.2.2 0 || Nat.beq p.2.2 q.2.2))
theorem wi_mem {l : List (Nat × Nat × Nat)} {a k : Nat} : wi_ l a k = true ↔ ∃ q ∈ l, q.1 ≤ a ∧ a ≤ q.2.1 ∧ (q.2.2 = 0 ∨ q.2.2 = k + 1) := by
  induction l with
  | nil => simp [wi_]
  | cons q r ih =>
    unfold wi_
    rw [Bool.or_eq_true, ih]
    constructor
    · rintro (h | ⟨p, hp, h⟩)
      · simp only [Bool.and_eq_true, Bool.or_eq_true] at h
        refine ⟨q, List.mem_cons_self, Nat.le_of_ble_eq_true h.1, Nat.le_of_ble_eq_true h.2.1, ?_⟩
        rcases h.2.2 with h | h
        · exact Or.inl (Nat.eq_of_beq_eq_true h)
        · exact Or.inr (Nat.eq_of_beq_eq_true h)
      · exact ⟨p, List.mem_cons_of_mem _ hp, h⟩
    · rintro ⟨p, hp, h1, h2, h3⟩
      rcases List.mem_cons.mp hp with rfl | hp
      · left
        simp only [Bool.and_eq_true, Bool.or_eq_true]
        refine ⟨Nat.ble_eq_true_of_le h1, Nat.ble_eq_true_of_le h2, ?_⟩
        rcases h3 with h3 | h3
        · left; rw [h3]; rfl
        · right; rw [h3]; exact Nat.beq_refl _
      · exact Or.inr ⟨p, hp, h1, h2, h3⟩
theorem sb_u {l r : List (Nat × Nat × Nat)} (h : sb_ l r = true) {a k : Nat} (hw : wi_ l a k = true) : wi_ r a k = true := by
  obtain ⟨q, hq, h1, h2, h3⟩ := wi_mem.mp hw
  have := List.all_eq_true.mp h q hq
  obtain ⟨p, hp, hpq⟩ := List.any_eq_true.mp this
  simp only [Bool.and_eq_true, Bool.or_eq_true] at hpq
  have g1 := Nat.le_of_ble_eq_true hpq.1
  have g2 := Nat.le_of_ble_eq_true hpq.2.1
  refine wi_mem.mpr ⟨p, hp, Nat.le_trans g1 h1, Nat.le_trans h2 g2, ?_⟩
  rcases hpq.2.2 with g | g
  · exact Or.inl (Nat.eq_of_beq_eq_true g)
  · rw [Nat.eq_of_beq_eq_true g]; exact h3
theorem sa_rf {l : List (Nat × Nat × Nat)} {m : fm_} : sa_ l m m := fun _ _ _ => ⟨rfl, rfl⟩
theorem sa_t {l : List (Nat × Nat × Nat)} {m m1 m2 : fm_} (h : sa_ l m m1) (k : sa_ l m1 m2) : sa_ l m m2 := fun a j hw => ⟨(k a j hw).1.trans (h a j hw).1, (k a j hw).2.trans (h a j hw).2⟩
theorem sa_up {l r : List (Nat × Nat × Nat)} {m m1 : fm_} (hs : sb_ l r = true) (h : sa_ l m m1) : sa_ r m m1 := fun a k hw => h a k (by
  cases hq : wi_ l a k with
  | false => rfl
  | true => rw [sb_u hs hq] at hw; cases hw)
theorem sa_si {l : List (Nat × Nat × Nat)} {m m1 : fm_} {a k : Nat} {x : Int32} (hw : wi_ l a k = true) (h : sa_ l m m1) : sa_ l m (si_ m1 a k x) := fun b j hb => by
  have hne : ¬ (b = a ∧ j = k) := fun q => by rw [q.1, q.2, hw] at hb; cases hb
  exact ⟨(am_u_at hne).trans (h b j hb).1, (h b j hb).2⟩
theorem sa_sl {l : List (Nat × Nat × Nat)} {m m1 : fm_} {a k : Nat} {x : Int64} (hw : wi_ l a k = true) (h : sa_ l m m1) : sa_ l m (sl_ m1 a k x) := fun b j hb => by
  have hne : ¬ (b = a ∧ j = k) := fun q => by rw [q.1, q.2, hw] at hb; cases hb
  exact ⟨(h b j hb).1, (am_u_at hne).trans (h b j hb).2⟩
theorem wi_at {l : List (Nat × Nat × Nat)} {a k kk : Nat} (i : Nat) (h : l[i]? = some (a, a, kk)) (hk : kk = 0 ∨ kk = k + 1) : wi_ l a k = true :=
  wi_mem.mpr ⟨_, List.mem_of_getElem? h, Nat.le_refl _, Nat.le_refl _, hk⟩
theorem sa_ui {l r : List (Nat × Nat × Nat)} {m m1 : fm_} (is : List Nat) (hs : is.map (fun i => r[i]?) = l.map some) (h : sa_ l m m1) : sa_ r m m1 := fun a k hw => h a k (by
  cases hq : wi_ l a k with
  | false => rfl
  | true =>
    obtain ⟨q, hq1, h1⟩ := wi_mem.mp hq
    have hm : some q ∈ is.map (fun i => r[i]?) := by rw [hs]; exact List.mem_map_of_mem hq1
    obtain ⟨i, _, hi⟩ := List.mem_map.mp hm
    rw [wi_mem.mpr ⟨q, List.mem_of_getElem? hi, h1⟩] at hw
    cases hw)
theorem sa_uO {w : Nat → List (Nat × Nat × Nat)} {r : List (Nat × Nat × Nat)} {m m1 : fm_} {o : Nat} (hs : ([32, 38, 44, 50, 56, 62].all fun o => sb_ (w o) r) = true) (ho : is_O o = true) (h : sa_ (w o) m m1) : sa_ r m m1 := by
  simp only [List.all_cons, List.all_nil, Bool.and_eq_true] at hs
  rcases is_O_u ho with rfl | rfl | rfl | rfl | rfl | rfl
  · exact sa_up hs.1 h
  · exact sa_up hs.2.1 h
  · exact sa_up hs.2.2.1 h
  · exact sa_up hs.2.2.2.1 h
  · exact sa_up hs.2.2.2.2.1 h
  · exact sa_up hs.2.2.2.2.2.1 h
theorem fq_if {R : Type} {c : Prop} {d : Decidable c} {a b : Option R} {q : R} {A : Prop} (h : @ite _ c d a b = some q) (h1 : a = some q → A) (h2 : b = some q → A) : A := by
  by_cases hc : c
  · rw [if_pos hc] at h; exact h1 h
  · rw [if_neg hc] at h; exact h2 h
theorem fr_if {S R : Type} {K : S → Option R} {c : Prop} {d : Decidable c} {a b : Option (S ⊕ R)} {q : R} {A : Prop} (h : am_k K (@ite _ c d a b) = some q) (h1 : am_k K a = some q → A) (h2 : am_k K b = some q → A) : A := by
  by_cases hc : c
  · rw [if_pos hc] at h; exact h1 h
  · rw [if_neg hc] at h; exact h2 h
theorem fq_rt {T : Type} {l : List (Nat × Nat × Nat)} {m : fm_} {a q : T × fm_} (h : some a = some q) (k : sa_ l m a.2) : sa_ l m q.2 := by cases h; exact k
theorem fr_rt {S T : Type} {K : S → Option (T × fm_)} {l : List (Nat × Nat × Nat)} {m : fm_} {a q : T × fm_} (h : am_k K (some (Sum.inr a)) = some q) (k : sa_ l m a.2) : sa_ l m q.2 := by cases h; exact k
def w_J6_numberOfTrailingZeros_0f7a4 : List (Nat × Nat × Nat) := []
set_option maxRecDepth 100000 in
theorem fr_J6_numberOfTrailingZeros_0f7a4 {p1 : Int32} {m : fm_} {q : Int32 × fm_} (h : f_J6_numberOfTrailingZeros_0f7a4 p1 m = some q) : sa_ w_J6_numberOfTrailingZeros_0f7a4 m q.2 :=
  (fq_if h (fun h1 => (fq_if h1 (fun h2 => (fq_if h2 (fun h3 => (fq_if h3 (fun h4 => (fq_if h4 (fun h5 => (fq_rt h5 sa_rf)) (fun h5 => (fq_rt h5 sa_rf)))) (fun h4 => (fq_if h4 (fun h6 => (fq_rt h6 sa_rf)) (fun h6 => (fq_rt h6 sa_rf)))))) (fun h3 => (fq_if h3 (fun h7 => (fq_if h7 (fun h8 => (fq_rt h8 sa_rf)) (fun h8 => (fq_rt h8 sa_rf)))) (fun h7 => (fq_if h7 (fun h9 => (fq_rt h9 sa_rf)) (fun h9 => (fq_rt h9 sa_rf)))))))) (fun h2 => (fq_if h2 (fun h10 => (fq_if h10 (fun h11 => (fq_if h11 (fun h12 => (fq_rt h12 sa_rf)) (fun h12 => (fq_rt h12 sa_rf)))) (fun h11 => (fq_if h11 (fun h13 => (fq_rt h13 sa_rf)) (fun h13 => (fq_rt h13 sa_rf)))))) (fun h10 => (fq_if h10 (fun h14 => (fq_if h14 (fun h15 => (fq_rt h15 sa_rf)) (fun h15 => (fq_rt h15 sa_rf)))) (fun h14 => (fq_if h14 (fun h16 => (fq_rt h16 sa_rf)) (fun h16 => (fq_rt h16 sa_rf)))))))))) (fun h1 => (fq_rt h1 sa_rf)))
def w_J6_bitCount_0f7a4 : List (Nat × Nat × Nat) := []
set_option maxRecDepth 100000 in
theorem fr_J6_bitCount_0f7a4 {p1 : Int32} {m : fm_} {q : Int32 × fm_} (h : f_J6_bitCount_0f7a4 p1 m = some q) : sa_ w_J6_bitCount_0f7a4 m q.2 :=
  (fq_rt h sa_rf)
def w_J7_fill_53178 (a0 : Nat) : List (Nat × Nat × Nat) := [(a0, a0, 0)]
def PF_J7_fill_53178 (a0 : Nat) (s : S_J7_fill_53178) (q : Int32 × fm_) : Prop := match s with
  | (x1, x2, x3, m) => sa_ (w_J7_fill_53178 a0) m q.2
theorem fl_J7_fill_53178 {a0 : Nat} {L : Nat} (s : S_J7_fill_53178) (q : Int32 × fm_) (h : am_lp (st_J7_fill_53178 a0 L) s = some q) : PF_J7_fill_53178 a0 s q :=
  am_lp_snd (P := PF_J7_fill_53178 a0) (fun K hK s q h => match s, h with
    | (x1, x2, x3, m), h => (fr_if h (fun h1 => (fr_rt h1 sa_rf)) (fun h1 => (fj_gd h1 fun g3 h2 => (sa_t (sa_si (wi_at 0 rfl (Or.inl rfl)) sa_rf) (hK _ _ h2 :)))))) s q h
set_option maxRecDepth 100000 in
theorem fr_J7_fill_53178 {a0 : Nat} {L : Nat} {p2 : Int32} {m : fm_} {q : Int32 × fm_} (h : f_J7_fill_53178 a0 L p2 m = some q) : sa_ (w_J7_fill_53178 a0) m q.2 :=
  (sa_t sa_rf (fl_J7_fill_53178 _ _ h :))
def w_X8_append : List (Nat × Nat × Nat) := [(1, 1, 5), (2, 2, 0)]
def PF_X8_append (s : S_X8_append) (q : Int32 × fm_) : Prop := match s with
  | (x1, x2, m) => sa_ w_X8_append m q.2
theorem fl_X8_append (s : S_X8_append) (q : Int32 × fm_) (h : am_lp (st_X8_append) s = some q) : PF_X8_append s q :=
  am_lp_snd (P := PF_X8_append) (fun K hK s q h => match s, h with
    | (x1, x2, m), h => (fr_if h (fun h1 => (fr_rt h1 sa_rf)) (fun h1 => (fr_if h1 (fun h2 => (fr_rt h2 sa_rf)) (fun h2 => (fj_gd h2 fun g4 h3 => (sa_t (sa_si (wi_at 0 rfl (Or.inr rfl)) (sa_si (wi_at 1 rfl (Or.inl rfl)) sa_rf)) (hK _ _ h3 :)))))))) s q h
set_option maxRecDepth 100000 in
theorem fr_X8_append {p1 : Int32} {m : fm_} {q : Int32 × fm_} (h : f_X8_append p1 m = some q) : sa_ w_X8_append m q.2 :=
  (sa_t sa_rf (fl_X8_append _ _ h :))
def w_X8_restart : List (Nat × Nat × Nat) := [(1, 1, 7), (1, 1, 8), (1, 1, 9)]
set_option maxRecDepth 100000 in
theorem fr_X8_restart  {m : fm_} {q : Int32 × fm_} (h : f_X8_restart  m = some q) : sa_ w_X8_restart m q.2 :=
  (fq_rt h (sa_si (wi_at 2 rfl (Or.inr rfl)) (sa_si (wi_at 1 rfl (Or.inr rfl)) (sa_si (wi_at 0 rfl (Or.inr rfl)) sa_rf))))
def w_X8_byteAt : List (Nat × Nat × Nat) := []
set_option maxRecDepth 100000 in
theorem fr_X8_byteAt {p1 : Int32} {m : fm_} {q : Int32 × fm_} (h : f_X8_byteAt p1 m = some q) : sa_ w_X8_byteAt m q.2 :=
  (fq_if h (fun h1 => (fq_rt h1 sa_rf)) (fun h1 => (fq_if h1 (fun h2 => (fq_rt h2 sa_rf)) (fun h2 => (fh_gd h2 fun g4 h3 => (fq_rt h3 sa_rf))))))
def w_X8_isBlank : List (Nat × Nat × Nat) := []
set_option maxRecDepth 100000 in
theorem fr_X8_isBlank {p1 : Int32} {m : fm_} {q : Int32 × fm_} (h : f_X8_isBlank p1 m = some q) : sa_ w_X8_isBlank m q.2 :=
  (fq_if h (fun h1 => (fq_rt h1 sa_rf)) (fun h1 => (fq_if h1 (fun h2 => (fq_rt h2 sa_rf)) (fun h2 => (fq_rt h2 sa_rf)))))
def w_X8_isDigit : List (Nat × Nat × Nat) := []
set_option maxRecDepth 100000 in
theorem fr_X8_isDigit {p1 : Int32} {m : fm_} {q : Int32 × fm_} (h : f_X8_isDigit p1 m = some q) : sa_ w_X8_isDigit m q.2 :=
  (fq_if h (fun h1 => (fq_rt h1 sa_rf)) (fun h1 => (fq_if h1 (fun h2 => (fq_rt h2 sa_rf)) (fun h2 => (fq_rt h2 sa_rf)))))
def w_X8_digitsEnd : List (Nat × Nat × Nat) := []
def PF_X8_digitsEnd (s : S_X8_digitsEnd) (q : Int32 × fm_) : Prop := match s with
  | (x1, x2, m) => sa_ w_X8_digitsEnd m q.2
theorem fl_X8_digitsEnd (s : S_X8_digitsEnd) (q : Int32 × fm_) (h : am_lp (st_X8_digitsEnd) s = some q) : PF_X8_digitsEnd s q :=
  am_lp_snd (P := PF_X8_digitsEnd) (fun K hK s q h => match s, h with
    | (x1, x2, m), h => (fr_if h (fun h1 => (fr_rt h1 sa_rf)) (fun h1 => (fj_bd h1 fun q2 e3 h4 => (fj_bd h4 fun q5 e6 h7 => (fr_if h7 (fun h8 => (fr_rt h8 (sa_t (sa_t sa_rf (sa_ui [] rfl (fr_X8_byteAt (q := q2) e3))) (sa_ui [] rfl (fr_X8_isDigit (q := q5) e6))))) (fun h8 => (sa_t (sa_t (sa_t sa_rf (sa_ui [] rfl (fr_X8_byteAt (q := q2) e3))) (sa_ui [] rfl (fr_X8_isDigit (q := q5) e6))) (hK _ _ h8 :))))))))) s q h
set_option maxRecDepth 100000 in
theorem fr_X8_digitsEnd {p1 : Int32} {m : fm_} {q : Int32 × fm_} (h : f_X8_digitsEnd p1 m = some q) : sa_ w_X8_digitsEnd m q.2 :=
  (sa_t sa_rf (fl_X8_digitsEnd _ _ h :))
def w_X8_isLetter : List (Nat × Nat × Nat) := []
set_option maxRecDepth 100000 in
theorem fr_X8_isLetter {p1 : Int32} {m : fm_} {q : Int32 × fm_} (h : f_X8_isLetter p1 m = some q) : sa_ w_X8_isLetter m q.2 :=
  (fq_if h (fun h1 => (fq_rt h1 sa_rf)) (fun h1 => (fq_if h1 (fun h2 => (fq_rt h2 sa_rf)) (fun h2 => (fq_rt h2 sa_rf)))))
def w_X8_numberIn : List (Nat × Nat × Nat) := []
def PF_X8_numberIn (s : S_X8_numberIn) (q : Int32 × fm_) : Prop := match s with
  | (x1, x2, x3, x4, m) => sa_ w_X8_numberIn m q.2
theorem fl_X8_numberIn (s : S_X8_numberIn) (q : Int32 × fm_) (h : am_lp (st_X8_numberIn) s = some q) : PF_X8_numberIn s q :=
  am_lp_snd (P := PF_X8_numberIn) (fun K hK s q h => match s, h with
    | (x1, x2, x3, x4, m), h => (fr_if h (fun h1 => (fr_rt h1 sa_rf)) (fun h1 => (fj_bd h1 fun q2 e3 h4 => (sa_t (sa_t sa_rf (sa_ui [] rfl (fr_X8_byteAt (q := q2) e3))) (hK _ _ h4 :)))))) s q h
set_option maxRecDepth 100000 in
theorem fr_X8_numberIn {p1 : Int32} {p2 : Int32} {m : fm_} {q : Int32 × fm_} (h : f_X8_numberIn p1 p2 m = some q) : sa_ w_X8_numberIn m q.2 :=
  (sa_t sa_rf (fl_X8_numberIn _ _ h :))
def w_X8_put : List (Nat × Nat × Nat) := [(1, 1, 6), (3, 3, 0), (4, 4, 0), (5, 5, 0)]
set_option maxRecDepth 100000 in
theorem fr_X8_put {p1 : Int32} {p2 : Int32} {p3 : Int32} {m : fm_} {q : Int32 × fm_} (h : f_X8_put p1 p2 p3 m = some q) : sa_ w_X8_put m q.2 :=
  (fq_if h (fun h1 => (fq_rt h1 sa_rf)) (fun h1 => (fh_gd h1 fun g3 h2 => (fh_gd h2 fun g5 h4 => (fh_gd h4 fun g7 h6 => (fq_rt h6 (sa_si (wi_at 0 rfl (Or.inr rfl)) (sa_si (wi_at 3 rfl (Or.inl rfl)) (sa_si (wi_at 2 rfl (Or.inl rfl)) (sa_si (wi_at 1 rfl (Or.inl rfl)) sa_rf))))))))))
def w_X8_scanNumber : List (Nat × Nat × Nat) := [(1, 1, 6), (3, 3, 0), (4, 4, 0), (5, 5, 0)]
set_option maxRecDepth 100000 in
theorem fr_X8_scanNumber {p1 : Int32} {m : fm_} {q : Int32 × fm_} (h : f_X8_scanNumber p1 m = some q) : sa_ w_X8_scanNumber m q.2 :=
  (fh_bd h fun q1 e2 h3 => (fq_if h3 (fun h4 => (fq_rt h4 (sa_t sa_rf (sa_ui [] rfl (fr_X8_digitsEnd (q := q1) e2))))) (fun h4 => (fh_bd h4 fun q5 e6 h7 => (fh_bd h7 fun q8 e9 h10 => (fq_if h10 (fun h11 => (fh_bd h11 fun q12 e13 h14 => (fh_bd h14 fun q15 e16 h17 => (fq_rt h17 (sa_t (sa_t (sa_t (sa_t (sa_t sa_rf (sa_ui [] rfl (fr_X8_digitsEnd (q := q1) e2))) (sa_ui [] rfl (fr_X8_byteAt (q := q5) e6))) (sa_ui [] rfl (fr_X8_isLetter (q := q8) e9))) (sa_ui [] rfl (fr_X8_numberIn (q := q12) e13))) (sa_ui [0, 1, 2, 3] rfl (fr_X8_put (q := q15) e16))))))) (fun h11 => (fq_rt h11 (sa_t (sa_t (sa_t sa_rf (sa_ui [] rfl (fr_X8_digitsEnd (q := q1) e2))) (sa_ui [] rfl (fr_X8_byteAt (q := q5) e6))) (sa_ui [] rfl (fr_X8_isLetter (q := q8) e9)))))))))))
def w_X8_scanPoint : List (Nat × Nat × Nat) := [(1, 1, 6), (3, 3, 0), (4, 4, 0), (5, 5, 0)]
set_option maxRecDepth 100000 in
theorem fr_X8_scanPoint {p1 : Int32} {m : fm_} {q : Int32 × fm_} (h : f_X8_scanPoint p1 m = some q) : sa_ w_X8_scanPoint m q.2 :=
  (fh_bd h fun q1 e2 h3 => (fq_if h3 (fun h4 => (fq_rt h4 (sa_t sa_rf (sa_ui [] rfl (fr_X8_digitsEnd (q := q1) e2))))) (fun h4 => (fq_if h4 (fun h5 => (fq_rt h5 (sa_t sa_rf (sa_ui [] rfl (fr_X8_digitsEnd (q := q1) e2))))) (fun h5 => (fh_bd h5 fun q6 e7 h8 => (fh_bd h8 fun q9 e10 h11 => (fq_if h11 (fun h12 => (fh_bd h12 fun q13 e14 h15 => (fq_if h15 (fun h16 => (fh_bd h16 fun q17 e18 h19 => (fq_rt h19 (sa_t (sa_t (sa_t (sa_t (sa_t sa_rf (sa_ui [] rfl (fr_X8_digitsEnd (q := q1) e2))) (sa_ui [] rfl (fr_X8_byteAt (q := q6) e7))) (sa_ui [] rfl (fr_X8_isLetter (q := q9) e10))) (sa_ui [] rfl (fr_X8_numberIn (q := q13) e14))) (sa_ui [0, 1, 2, 3] rfl (fr_X8_put (q := q17) e18)))))) (fun h16 => (fq_rt h16 (sa_t (sa_t (sa_t (sa_t sa_rf (sa_ui [] rfl (fr_X8_digitsEnd (q := q1) e2))) (sa_ui [] rfl (fr_X8_byteAt (q := q6) e7))) (sa_ui [] rfl (fr_X8_isLetter (q := q9) e10))) (sa_ui [] rfl (fr_X8_numberIn (q := q13) e14)))))))) (fun h12 => (fq_rt h12 (sa_t (sa_t (sa_t sa_rf (sa_ui [] rfl (fr_X8_digitsEnd (q := q1) e2))) (sa_ui [] rfl (fr_X8_byteAt (q := q6) e7))) (sa_ui [] rfl (fr_X8_isLetter (q := q9) e10)))))))))))))
def w_X8_spells : List (Nat × Nat × Nat) := []
def PF_X8_spells (s : S_X8_spells) (q : Int32 × fm_) : Prop := match s with
  | (x2, x3, x4, m) => sa_ w_X8_spells m q.2
theorem fl_X8_spells {k : Nat} (s : S_X8_spells) (q : Int32 × fm_) (h : am_lp (st_X8_spells k) s = some q) : PF_X8_spells s q :=
  am_lp_snd (P := PF_X8_spells) (fun K hK s q h => match s, h with
    | (x2, x3, x4, m), h => (fr_if h (fun h1 => (fr_rt h1 sa_rf)) (fun h1 => (fj_bd h1 fun q2 e3 h4 => (fj_gd h4 fun g6 h5 => (fr_if h5 (fun h7 => (sa_t (sa_t sa_rf (sa_ui [] rfl (fr_X8_byteAt (q := q2) e3))) (hK _ _ h7 :))) (fun h7 => (fr_rt h7 (sa_t sa_rf (sa_ui [] rfl (fr_X8_byteAt (q := q2) e3))))))))))) s q h
set_option maxRecDepth 100000 in
theorem fr_X8_spells {k : Nat} {p2 : Int32} {p3 : Int32} {m : fm_} {q : Int32 × fm_} (h : f_X8_spells k p2 p3 m = some q) : sa_ w_X8_spells m q.2 :=
  (fq_if h (fun h1 => (sa_t sa_rf (fl_X8_spells _ _ h1 :))) (fun h1 => (fq_rt h1 sa_rf)))
def w_X8_lineWord : List (Nat × Nat × Nat) := []
set_option maxRecDepth 100000 in
theorem fr_X8_lineWord {p1 : Int32} {p2 : Int32} {m : fm_} {q : Int32 × fm_} (h : f_X8_lineWord p1 p2 m = some q) : sa_ w_X8_lineWord m q.2 :=
  (fh_bd h fun q1 e2 h3 => (fq_if h3 (fun h4 => (fh_bd h4 fun q5 e6 h7 => (fq_if h7 (fun h8 => (fh_bd h8 fun q9 e10 h11 => (fq_if h11 (fun h12 => (fh_bd h12 fun q13 e14 h15 => (fq_if h15 (fun h16 => (fh_bd h16 fun q17 e18 h19 => (fq_if h19 (fun h20 => (fh_bd h20 fun q21 e22 h23 => (fq_if h23 (fun h24 => (fh_bd h24 fun q25 e26 h27 => (fq_if h27 (fun h28 => (fh_bd h28 fun q29 e30 h31 => (fq_if h31 (fun h32 => (fh_bd h32 fun q33 e34 h35 => (fq_if h35 (fun h36 => (fq_rt h36 (sa_t (sa_t (sa_t (sa_t (sa_t (sa_t (sa_t (sa_t (sa_t sa_rf (sa_ui [] rfl (fr_X8_spells (q := q1) e2))) (sa_ui [] rfl (fr_X8_spells (q := q5) e6))) (sa_ui [] rfl (fr_X8_spells (q := q9) e10))) (sa_ui [] rfl (fr_X8_spells (q := q13) e14))) (sa_ui [] rfl (fr_X8_spells (q := q17) e18))) (sa_ui [] rfl (fr_X8_spells (q := q21) e22))) (sa_ui [] rfl (fr_X8_spells (q := q25) e26))) (sa_ui [] rfl (fr_X8_spells (q := q29) e30))) (sa_ui [] rfl (fr_X8_spells (q := q33) e34))))) (fun h36 => (fq_rt h36 (sa_t (sa_t (sa_t (sa_t (sa_t (sa_t (sa_t (sa_t (sa_t sa_rf (sa_ui [] rfl (fr_X8_spells (q := q1) e2))) (sa_ui [] rfl (fr_X8_spells (q := q5) e6))) (sa_ui [] rfl (fr_X8_spells (q := q9) e10))) (sa_ui [] rfl (fr_X8_spells (q := q13) e14))) (sa_ui [] rfl (fr_X8_spells (q := q17) e18))) (sa_ui [] rfl (fr_X8_spells (q := q21) e22))) (sa_ui [] rfl (fr_X8_spells (q := q25) e26))) (sa_ui [] rfl (fr_X8_spells (q := q29) e30))) (sa_ui [] rfl (fr_X8_spells (q := q33) e34)))))))) (fun h32 => (fq_rt h32 (sa_t (sa_t (sa_t (sa_t (sa_t (sa_t (sa_t (sa_t sa_rf (sa_ui [] rfl (fr_X8_spells (q := q1) e2))) (sa_ui [] rfl (fr_X8_spells (q := q5) e6))) (sa_ui [] rfl (fr_X8_spells (q := q9) e10))) (sa_ui [] rfl (fr_X8_spells (q := q13) e14))) (sa_ui [] rfl (fr_X8_spells (q := q17) e18))) (sa_ui [] rfl (fr_X8_spells (q := q21) e22))) (sa_ui [] rfl (fr_X8_spells (q := q25) e26))) (sa_ui [] rfl (fr_X8_spells (q := q29) e30)))))))) (fun h28 => (fq_rt h28 (sa_t (sa_t (sa_t (sa_t (sa_t (sa_t (sa_t sa_rf (sa_ui [] rfl (fr_X8_spells (q := q1) e2))) (sa_ui [] rfl (fr_X8_spells (q := q5) e6))) (sa_ui [] rfl (fr_X8_spells (q := q9) e10))) (sa_ui [] rfl (fr_X8_spells (q := q13) e14))) (sa_ui [] rfl (fr_X8_spells (q := q17) e18))) (sa_ui [] rfl (fr_X8_spells (q := q21) e22))) (sa_ui [] rfl (fr_X8_spells (q := q25) e26)))))))) (fun h24 => (fq_rt h24 (sa_t (sa_t (sa_t (sa_t (sa_t (sa_t sa_rf (sa_ui [] rfl (fr_X8_spells (q := q1) e2))) (sa_ui [] rfl (fr_X8_spells (q := q5) e6))) (sa_ui [] rfl (fr_X8_spells (q := q9) e10))) (sa_ui [] rfl (fr_X8_spells (q := q13) e14))) (sa_ui [] rfl (fr_X8_spells (q := q17) e18))) (sa_ui [] rfl (fr_X8_spells (q := q21) e22)))))))) (fun h20 => (fq_rt h20 (sa_t (sa_t (sa_t (sa_t (sa_t sa_rf (sa_ui [] rfl (fr_X8_spells (q := q1) e2))) (sa_ui [] rfl (fr_X8_spells (q := q5) e6))) (sa_ui [] rfl (fr_X8_spells (q := q9) e10))) (sa_ui [] rfl (fr_X8_spells (q := q13) e14))) (sa_ui [] rfl (fr_X8_spells (q := q17) e18)))))))) (fun h16 => (fq_rt h16 (sa_t (sa_t (sa_t (sa_t sa_rf (sa_ui [] rfl (fr_X8_spells (q := q1) e2))) (sa_ui [] rfl (fr_X8_spells (q := q5) e6))) (sa_ui [] rfl (fr_X8_spells (q := q9) e10))) (sa_ui [] rfl (fr_X8_spells (q := q13) e14)))))))) (fun h12 => (fq_rt h12 (sa_t (sa_t (sa_t sa_rf (sa_ui [] rfl (fr_X8_spells (q := q1) e2))) (sa_ui [] rfl (fr_X8_spells (q := q5) e6))) (sa_ui [] rfl (fr_X8_spells (q := q9) e10)))))))) (fun h8 => (fq_rt h8 (sa_t (sa_t sa_rf (sa_ui [] rfl (fr_X8_spells (q := q1) e2))) (sa_ui [] rfl (fr_X8_spells (q := q5) e6)))))))) (fun h4 => (fq_rt h4 (sa_t sa_rf (sa_ui [] rfl (fr_X8_spells (q := q1) e2)))))))
def w_X8_innerWord : List (Nat × Nat × Nat) := []
set_option maxRecDepth 100000 in
theorem fr_X8_innerWord {p1 : Int32} {p2 : Int32} {m : fm_} {q : Int32 × fm_} (h : f_X8_innerWord p1 p2 m = some q) : sa_ w_X8_innerWord m q.2 :=
  (fh_bd h fun q1 e2 h3 => (fq_if h3 (fun h4 => (fh_bd h4 fun q5 e6 h7 => (fq_if h7 (fun h8 => (fh_bd h8 fun q9 e10 h11 => (fq_if h11 (fun h12 => (fh_bd h12 fun q13 e14 h15 => (fq_if h15 (fun h16 => (fh_bd h16 fun q17 e18 h19 => (fq_if h19 (fun h20 => (fh_bd h20 fun q21 e22 h23 => (fq_if h23 (fun h24 => (fh_bd h24 fun q25 e26 h27 => (fq_if h27 (fun h28 => (fh_bd h28 fun q29 e30 h31 => (fq_if h31 (fun h32 => (fh_bd h32 fun q33 e34 h35 => (fq_if h35 (fun h36 => (fh_bd h36 fun q37 e38 h39 => (fq_if h39 (fun h40 => (fh_bd h40 fun q41 e42 h43 => (fq_if h43 (fun h44 => (fh_bd h44 fun q45 e46 h47 => (fq_if h47 (fun h48 => (fh_bd h48 fun q49 e50 h51 => (fq_if h51 (fun h52 => (fh_bd h52 fun q53 e54 h55 => (fq_if h55 (fun h56 => (fq_rt h56 (sa_t (sa_t (sa_t (sa_t (sa_t (sa_t (sa_t (sa_t (sa_t (sa_t (sa_t (sa_t (sa_t (sa_t sa_rf (sa_ui [] rfl (fr_X8_spells (q := q1) e2))) (sa_ui [] rfl (fr_X8_spells (q := q5) e6))) (sa_ui [] rfl (fr_X8_spells (q := q9) e10))) (sa_ui [] rfl (fr_X8_spells (q := q13) e14))) (sa_ui [] rfl (fr_X8_spells (q := q17) e18))) (sa_ui [] rfl (fr_X8_spells (q := q21) e22))) (sa_ui [] rfl (fr_X8_spells (q := q25) e26))) (sa_ui [] rfl (fr_X8_spells (q := q29) e30))) (sa_ui [] rfl (fr_X8_spells (q := q33) e34))) (sa_ui [] rfl (fr_X8_spells (q := q37) e38))) (sa_ui [] rfl (fr_X8_spells (q := q41) e42))) (sa_ui [] rfl (fr_X8_spells (q := q45) e46))) (sa_ui [] rfl (fr_X8_spells (q := q49) e50))) (sa_ui [] rfl (fr_X8_spells (q := q53) e54))))) (fun h56 => (fq_rt h56 (sa_t (sa_t (sa_t (sa_t (sa_t (sa_t (sa_t (sa_t (sa_t (sa_t (sa_t (sa_t (sa_t (sa_t sa_rf (sa_ui [] rfl (fr_X8_spells (q := q1) e2))) (sa_ui [] rfl (fr_X8_spells (q := q5) e6))) (sa_ui [] rfl (fr_X8_spells (q := q9) e10))) (sa_ui [] rfl (fr_X8_spells (q := q13) e14))) (sa_ui [] rfl (fr_X8_spells (q := q17) e18))) (sa_ui [] rfl (fr_X8_spells (q := q21) e22))) (sa_ui [] rfl (fr_X8_spells (q := q25) e26))) (sa_ui [] rfl (fr_X8_spells (q := q29) e30))) (sa_ui [] rfl (fr_X8_spells (q := q33) e34))) (sa_ui [] rfl (fr_X8_spells (q := q37) e38))) (sa_ui [] rfl (fr_X8_spells (q := q41) e42))) (sa_ui [] rfl (fr_X8_spells (q := q45) e46))) (sa_ui [] rfl (fr_X8_spells (q := q49) e50))) (sa_ui [] rfl (fr_X8_spells (q := q53) e54)))))))) (fun h52 => (fq_rt h52 (sa_t (sa_t (sa_t (sa_t (sa_t (sa_t (sa_t (sa_t (sa_t (sa_t (sa_t (sa_t (sa_t sa_rf (sa_ui [] rfl (fr_X8_spells (q := q1) e2))) (sa_ui [] rfl (fr_X8_spells (q := q5) e6))) (sa_ui [] rfl (fr_X8_spells (q := q9) e10))) (sa_ui [] rfl (fr_X8_spells (q := q13) e14))) (sa_ui [] rfl (fr_X8_spells (q := q17) e18))) (sa_ui [] rfl (fr_X8_spells (q := q21) e22))) (sa_ui [] rfl (fr_X8_spells (q := q25) e26))) (sa_ui [] rfl (fr_X8_spells (q := q29) e30))) (sa_ui [] rfl (fr_X8_spells (q := q33) e34))) (sa_ui [] rfl (fr_X8_spells (q := q37) e38))) (sa_ui [] rfl (fr_X8_spells (q := q41) e42))) (sa_ui [] rfl (fr_X8_spells (q := q45) e46))) (sa_ui [] rfl (fr_X8_spells (q := q49) e50)))))))) (fun h48 => (fq_rt h48 (sa_t (sa_t (sa_t (sa_t (sa_t (sa_t (sa_t (sa_t (sa_t (sa_t (sa_t (sa_t sa_rf (sa_ui [] rfl (fr_X8_spells (q := q1) e2))) (sa_ui [] rfl (fr_X8_spells (q := q5) e6))) (sa_ui [] rfl (fr_X8_spells (q := q9) e10))) (sa_ui [] rfl (fr_X8_spells (q := q13) e14))) (sa_ui [] rfl (fr_X8_spells (q := q17) e18))) (sa_ui [] rfl (fr_X8_spells (q := q21) e22))) (sa_ui [] rfl (fr_X8_spells (q := q25) e26))) (sa_ui [] rfl (fr_X8_spells (q := q29) e30))) (sa_ui [] rfl (fr_X8_spells (q := q33) e34))) (sa_ui [] rfl (fr_X8_spells (q := q37) e38))) (sa_ui [] rfl (fr_X8_spells (q := q41) e42))) (sa_ui [] rfl (fr_X8_spells (q := q45) e46)))))))) (fun h44 => (fq_rt h44 (sa_t (sa_t (sa_t (sa_t (sa_t (sa_t (sa_t (sa_t (sa_t (sa_t (sa_t sa_rf (sa_ui [] rfl (fr_X8_spells (q := q1) e2))) (sa_ui [] rfl (fr_X8_spells (q := q5) e6))) (sa_ui [] rfl (fr_X8_spells (q := q9) e10))) (sa_ui [] rfl (fr_X8_spells (q := q13) e14))) (sa_ui [] rfl (fr_X8_spells (q := q17) e18))) (sa_ui [] rfl (fr_X8_spells (q := q21) e22))) (sa_ui [] rfl (fr_X8_spells (q := q25) e26))) (sa_ui [] rfl (fr_X8_spells (q := q29) e30))) (sa_ui [] rfl (fr_X8_spells (q := q33) e34))) (sa_ui [] rfl (fr_X8_spells (q := q37) e38))) (sa_ui [] rfl (fr_X8_spells (q := q41) e42)))))))) (fun h40 => (fq_rt h40 (sa_t (sa_t (sa_t (sa_t (sa_t (sa_t (sa_t (sa_t (sa_t (sa_t sa_rf (sa_ui [] rfl (fr_X8_spells (q := q1) e2))) (sa_ui [] rfl (fr_X8_spells (q := q5) e6))) (sa_ui [] rfl (fr_X8_spells (q := q9) e10))) (sa_ui [] rfl (fr_X8_spells (q := q13) e14))) (sa_ui [] rfl (fr_X8_spells (q := q17) e18))) (sa_ui [] rfl (fr_X8_spells (q := q21) e22))) (sa_ui [] rfl (fr_X8_spells (q := q25) e26))) (sa_ui [] rfl (fr_X8_spells (q := q29) e30))) (sa_ui [] rfl (fr_X8_spells (q := q33) e34))) (sa_ui [] rfl (fr_X8_spells (q := q37) e38)))))))) (fun h36 => (fq_rt h36 (sa_t (sa_t (sa_t (sa_t (sa_t (sa_t (sa_t (sa_t (sa_t sa_rf (sa_ui [] rfl (fr_X8_spells (q := q1) e2))) (sa_ui [] rfl (fr_X8_spells (q := q5) e6))) (sa_ui [] rfl (fr_X8_spells (q := q9) e10))) (sa_ui [] rfl (fr_X8_spells (q := q13) e14))) (sa_ui [] rfl (fr_X8_spells (q := q17) e18))) (sa_ui [] rfl (fr_X8_spells (q := q21) e22))) (sa_ui [] rfl (fr_X8_spells (q := q25) e26))) (sa_ui [] rfl (fr_X8_spells (q := q29) e30))) (sa_ui [] rfl (fr_X8_spells (q := q33) e34)))))))) (fun h32 => (fq_rt h32 (sa_t (sa_t (sa_t (sa_t (sa_t (sa_t (sa_t (sa_t sa_rf (sa_ui [] rfl (fr_X8_spells (q := q1) e2))) (sa_ui [] rfl (fr_X8_spells (q := q5) e6))) (sa_ui [] rfl (fr_X8_spells (q := q9) e10))) (sa_ui [] rfl (fr_X8_spells (q := q13) e14))) (sa_ui [] rfl (fr_X8_spells (q := q17) e18))) (sa_ui [] rfl (fr_X8_spells (q := q21) e22))) (sa_ui [] rfl (fr_X8_spells (q := q25) e26))) (sa_ui [] rfl (fr_X8_spells (q := q29) e30)))))))) (fun h28 => (fq_rt h28 (sa_t (sa_t (sa_t (sa_t (sa_t (sa_t (sa_t sa_rf (sa_ui [] rfl (fr_X8_spells (q := q1) e2))) (sa_ui [] rfl (fr_X8_spells (q := q5) e6))) (sa_ui [] rfl (fr_X8_spells (q := q9) e10))) (sa_ui [] rfl (fr_X8_spells (q := q13) e14))) (sa_ui [] rfl (fr_X8_spells (q := q17) e18))) (sa_ui [] rfl (fr_X8_spells (q := q21) e22))) (sa_ui [] rfl (fr_X8_spells (q := q25) e26)))))))) (fun h24 => (fq_rt h24 (sa_t (sa_t (sa_t (sa_t (sa_t (sa_t sa_rf (sa_ui [] rfl (fr_X8_spells (q := q1) e2))) (sa_ui [] rfl (fr_X8_spells (q := q5) e6))) (sa_ui [] rfl (fr_X8_spells (q := q9) e10))) (sa_ui [] rfl (fr_X8_spells (q := q13) e14))) (sa_ui [] rfl (fr_X8_spells (q := q17) e18))) (sa_ui [] rfl (fr_X8_spells (q := q21) e22)))))))) (fun h20 => (fq_rt h20 (sa_t (sa_t (sa_t (sa_t (sa_t sa_rf (sa_ui [] rfl (fr_X8_spells (q := q1) e2))) (sa_ui [] rfl (fr_X8_spells (q := q5) e6))) (sa_ui [] rfl (fr_X8_spells (q := q9) e10))) (sa_ui [] rfl (fr_X8_spells (q := q13) e14))) (sa_ui [] rfl (fr_X8_spells (q := q17) e18)))))))) (fun h16 => (fq_rt h16 (sa_t (sa_t (sa_t (sa_t sa_rf (sa_ui [] rfl (fr_X8_spells (q := q1) e2))) (sa_ui [] rfl (fr_X8_spells (q := q5) e6))) (sa_ui [] rfl (fr_X8_spells (q := q9) e10))) (sa_ui [] rfl (fr_X8_spells (q := q13) e14)))))))) (fun h12 => (fq_rt h12 (sa_t (sa_t (sa_t sa_rf (sa_ui [] rfl (fr_X8_spells (q := q1) e2))) (sa_ui [] rfl (fr_X8_spells (q := q5) e6))) (sa_ui [] rfl (fr_X8_spells (q := q9) e10)))))))) (fun h8 => (fq_rt h8 (sa_t (sa_t sa_rf (sa_ui [] rfl (fr_X8_spells (q := q1) e2))) (sa_ui [] rfl (fr_X8_spells (q := q5) e6)))))))) (fun h4 => (fq_rt h4 (sa_t sa_rf (sa_ui [] rfl (fr_X8_spells (q := q1) e2)))))))
def w_X8_scanWord : List (Nat × Nat × Nat) := [(1, 1, 6), (3, 3, 0), (4, 4, 0), (5, 5, 0)]
def PF_X8_scanWord (s : S_X8_scanWord) (q : Int32 × fm_) : Prop := match s with
  | (x1, x2, m) => sa_ w_X8_scanWord m q.2
theorem fl_X8_scanWord (s : S_X8_scanWord) (q : Int32 × fm_) (h : am_lp (st_X8_scanWord) s = some q) : PF_X8_scanWord s q :=
  am_lp_snd (P := PF_X8_scanWord) (fun K hK s q h => match s, h with
    | (x1, x2, m), h => (fr_if h (fun h1 => (fr_if h1 (fun h2 => (fj_bd h2 fun q3 e4 h5 => (fr_if h5 (fun h6 => (fj_bd h6 fun q10 e11 h12 => (fj_bd h12 fun q13 e14 h15 => (fr_rt h15 (sa_t (sa_t (sa_t sa_rf (sa_ui [] rfl (fr_X8_lineWord (q := q3) e4))) (sa_ui [] rfl (fr_X8_innerWord (q := q10) e11))) (sa_ui [0, 1, 2, 3] rfl (fr_X8_put (q := q13) e14))))))) (fun h6 => (fj_bd h6 fun q7 e8 h9 => (fr_rt h9 (sa_t (sa_t sa_rf (sa_ui [] rfl (fr_X8_lineWord (q := q3) e4))) (sa_ui [0, 1, 2, 3] rfl (fr_X8_put (q := q7) e8))))))))) (fun h2 => (fr_rt h2 sa_rf)))) (fun h1 => (fj_bd h1 fun q16 e17 h18 => (fj_bd h18 fun q19 e20 h21 => (fr_if h21 (fun h22 => (fr_if h22 (fun h23 => (fj_bd h23 fun q24 e25 h26 => (fr_if h26 (fun h27 => (fj_bd h27 fun q31 e32 h33 => (fj_bd h33 fun q34 e35 h36 => (fr_rt h36 (sa_t (sa_t (sa_t (sa_t (sa_t sa_rf (sa_ui [] rfl (fr_X8_byteAt (q := q16) e17))) (sa_ui [] rfl (fr_X8_isLetter (q := q19) e20))) (sa_ui [] rfl (fr_X8_lineWord (q := q24) e25))) (sa_ui [] rfl (fr_X8_innerWord (q := q31) e32))) (sa_ui [0, 1, 2, 3] rfl (fr_X8_put (q := q34) e35))))))) (fun h27 => (fj_bd h27 fun q28 e29 h30 => (fr_rt h30 (sa_t (sa_t (sa_t (sa_t sa_rf (sa_ui [] rfl (fr_X8_byteAt (q := q16) e17))) (sa_ui [] rfl (fr_X8_isLetter (q := q19) e20))) (sa_ui [] rfl (fr_X8_lineWord (q := q24) e25))) (sa_ui [0, 1, 2, 3] rfl (fr_X8_put (q := q28) e29))))))))) (fun h23 => (fr_rt h23 (sa_t (sa_t sa_rf (sa_ui [] rfl (fr_X8_byteAt (q := q16) e17))) (sa_ui [] rfl (fr_X8_isLetter (q := q19) e20))))))) (fun h22 => (sa_t (sa_t (sa_t sa_rf (sa_ui [] rfl (fr_X8_byteAt (q := q16) e17))) (sa_ui [] rfl (fr_X8_isLetter (q := q19) e20))) (hK _ _ h22 :))))))))) s q h
set_option maxRecDepth 100000 in
theorem fr_X8_scanWord {p1 : Int32} {m : fm_} {q : Int32 × fm_} (h : f_X8_scanWord p1 m = some q) : sa_ w_X8_scanWord m q.2 :=
  (sa_t sa_rf (fl_X8_scanWord _ _ h :))
def w_X8_isMark : List (Nat × Nat × Nat) := []
set_option maxRecDepth 100000 in
theorem fr_X8_isMark {p1 : Int32} {m : fm_} {q : Int32 × fm_} (h : f_X8_isMark p1 m = some q) : sa_ w_X8_isMark m q.2 :=
  (fq_if h (fun h1 => (fq_rt h1 sa_rf)) (fun h1 => (fq_if h1 (fun h2 => (fq_rt h2 sa_rf)) (fun h2 => (fq_if h2 (fun h3 => (fq_rt h3 sa_rf)) (fun h3 => (fq_if h3 (fun h4 => (fq_rt h4 sa_rf)) (fun h4 => (fq_if h4 (fun h5 => (fq_rt h5 sa_rf)) (fun h5 => (fq_if h5 (fun h6 => (fq_rt h6 sa_rf)) (fun h6 => (fq_if h6 (fun h7 => (fq_rt h7 sa_rf)) (fun h7 => (fq_if h7 (fun h8 => (fq_rt h8 sa_rf)) (fun h8 => (fq_rt h8 sa_rf)))))))))))))))))
def w_X8_scan : List (Nat × Nat × Nat) := [(1, 1, 6), (3, 3, 0), (4, 4, 0), (5, 5, 0)]
set_option maxRecDepth 100000 in
theorem fr_X8_scan {p1 : Int32} {m : fm_} {q : Int32 × fm_} (h : f_X8_scan p1 m = some q) : sa_ w_X8_scan m q.2 :=
  (fh_bd h fun q1 e2 h3 => (fh_bd h3 fun q4 e5 h6 => (fq_if h6 (fun h7 => (fh_bd h7 fun q8 e9 h10 => (fq_if h10 (fun h11 => (fh_bd h11 fun q12 e13 h14 => (fq_if h14 (fun h15 => (fq_rt h15 (sa_t (sa_t (sa_t (sa_t sa_rf (sa_ui [] rfl (fr_X8_byteAt (q := q1) e2))) (sa_ui [] rfl (fr_X8_isDigit (q := q4) e5))) (sa_ui [] rfl (fr_X8_isLetter (q := q8) e9))) (sa_ui [] rfl (fr_X8_isMark (q := q12) e13))))) (fun h15 => (fh_bd h15 fun q16 e17 h18 => (fq_rt h18 (sa_t (sa_t (sa_t (sa_t (sa_t sa_rf (sa_ui [] rfl (fr_X8_byteAt (q := q1) e2))) (sa_ui [] rfl (fr_X8_isDigit (q := q4) e5))) (sa_ui [] rfl (fr_X8_isLetter (q := q8) e9))) (sa_ui [] rfl (fr_X8_isMark (q := q12) e13))) (sa_ui [0, 1, 2, 3] rfl (fr_X8_put (q := q16) e17))))))))) (fun h11 => (fq_if h11 (fun h19 => (fh_bd h19 fun q24 e25 h26 => (fq_if h26 (fun h27 => (fh_bd h27 fun q28 e29 h30 => (fq_rt h30 (sa_t (sa_t (sa_t (sa_t (sa_t sa_rf (sa_ui [] rfl (fr_X8_byteAt (q := q1) e2))) (sa_ui [] rfl (fr_X8_isDigit (q := q4) e5))) (sa_ui [] rfl (fr_X8_isLetter (q := q8) e9))) (sa_ui [0, 1, 2, 3] rfl (fr_X8_scanPoint (q := q24) e25))) (sa_ui [0, 1, 2, 3] rfl (fr_X8_scanWord (q := q28) e29)))))) (fun h27 => (fq_rt h27 (sa_t (sa_t (sa_t (sa_t sa_rf (sa_ui [] rfl (fr_X8_byteAt (q := q1) e2))) (sa_ui [] rfl (fr_X8_isDigit (q := q4) e5))) (sa_ui [] rfl (fr_X8_isLetter (q := q8) e9))) (sa_ui [0, 1, 2, 3] rfl (fr_X8_scanPoint (q := q24) e25)))))))) (fun h19 => (fq_if h19 (fun h20 => (fh_bd h20 fun q21 e22 h23 => (fq_rt h23 (sa_t (sa_t (sa_t (sa_t sa_rf (sa_ui [] rfl (fr_X8_byteAt (q := q1) e2))) (sa_ui [] rfl (fr_X8_isDigit (q := q4) e5))) (sa_ui [] rfl (fr_X8_isLetter (q := q8) e9))) (sa_ui [0, 1, 2, 3] rfl (fr_X8_scanWord (q := q21) e22)))))) (fun h20 => (fq_rt h20 (sa_t (sa_t (sa_t sa_rf (sa_ui [] rfl (fr_X8_byteAt (q := q1) e2))) (sa_ui [] rfl (fr_X8_isDigit (q := q4) e5))) (sa_ui [] rfl (fr_X8_isLetter (q := q8) e9)))))))))))) (fun h7 => (fh_bd h7 fun q31 e32 h33 => (fq_rt h33 (sa_t (sa_t (sa_t sa_rf (sa_ui [] rfl (fr_X8_byteAt (q := q1) e2))) (sa_ui [] rfl (fr_X8_isDigit (q := q4) e5))) (sa_ui [0, 1, 2, 3] rfl (fr_X8_scanNumber (q := q31) e32)))))))))
def w_X8_split : List (Nat × Nat × Nat) := [(1, 1, 6), (1, 1, 7), (1, 1, 8), (1, 1, 9), (3, 3, 0), (4, 4, 0), (5, 5, 0)]
def PF_X8_split (s : S_X8_split) (q : Int32 × fm_) : Prop := match s with
  | (x1, x2, m) => sa_ w_X8_split m q.2
theorem fl_X8_split (s : S_X8_split) (q : Int32 × fm_) (h : am_lp (st_X8_split) s = some q) : PF_X8_split s q :=
  am_lp_snd (P := PF_X8_split) (fun K hK s q h => match s, h with
    | (x1, x2, m), h => (fr_if h (fun h1 => (fj_bd h1 fun q2 e3 h4 => (fr_rt h4 (sa_t sa_rf (sa_ui [0, 4, 5, 6] rfl (fr_X8_put (q := q2) e3)))))) (fun h1 => (fr_if h1 (fun h5 => (fj_bd h5 fun q6 e7 h8 => (fr_rt h8 (sa_t sa_rf (sa_ui [0, 4, 5, 6] rfl (fr_X8_put (q := q6) e7)))))) (fun h5 => (fj_bd h5 fun q9 e10 h11 => (fj_bd h11 fun q12 e13 h14 => (fr_if h14 (fun h15 => (fj_bd h15 fun q16 e17 h18 => (fr_if h18 (fun h19 => (fj_bd h19 fun q20 e21 h22 => (fr_rt h22 (sa_t (sa_t (sa_t (sa_t sa_rf (sa_ui [] rfl (fr_X8_byteAt (q := q9) e10))) (sa_ui [] rfl (fr_X8_isBlank (q := q12) e13))) (sa_ui [0, 4, 5, 6] rfl (fr_X8_scan (q := q16) e17))) (sa_ui [0, 4, 5, 6] rfl (fr_X8_put (q := q20) e21)))))) (fun h19 => (sa_t (sa_t (sa_t (sa_t sa_rf (sa_ui [] rfl (fr_X8_byteAt (q := q9) e10))) (sa_ui [] rfl (fr_X8_isBlank (q := q12) e13))) (sa_ui [0, 4, 5, 6] rfl (fr_X8_scan (q := q16) e17))) (hK _ _ h19 :)))))) (fun h15 => (fr_if h15 (fun h23 => (fj_bd h23 fun q24 e25 h26 => (fr_rt h26 (sa_t (sa_t (sa_t sa_rf (sa_ui [] rfl (fr_X8_byteAt (q := q9) e10))) (sa_ui [] rfl (fr_X8_isBlank (q := q12) e13))) (sa_ui [0, 4, 5, 6] rfl (fr_X8_put (q := q24) e25)))))) (fun h23 => (sa_t (sa_t (sa_t sa_rf (sa_ui [] rfl (fr_X8_byteAt (q := q9) e10))) (sa_ui [] rfl (fr_X8_isBlank (q := q12) e13))) (hK _ _ h23 :))))))))))))) s q h
set_option maxRecDepth 100000 in
theorem fr_X8_split  {m : fm_} {q : Int32 × fm_} (h : f_X8_split  m = some q) : sa_ w_X8_split m q.2 :=
  (fh_bd h fun q1 e2 h3 => (sa_t (sa_t (sa_si (wi_at 0 rfl (Or.inr rfl)) sa_rf) (sa_ui [1, 2, 3] rfl (fr_X8_restart (q := q1) e2))) (fl_X8_split _ _ h3 :)))
def w_X8_kind : List (Nat × Nat × Nat) := []
set_option maxRecDepth 100000 in
theorem fr_X8_kind  {m : fm_} {q : Int32 × fm_} (h : f_X8_kind  m = some q) : sa_ w_X8_kind m q.2 :=
  (fq_if h (fun h1 => (fq_rt h1 sa_rf)) (fun h1 => (fh_gd h1 fun g3 h2 => (fq_rt h2 sa_rf))))
def w_X8_value : List (Nat × Nat × Nat) := []
set_option maxRecDepth 100000 in
theorem fr_X8_value  {m : fm_} {q : Int32 × fm_} (h : f_X8_value  m = some q) : sa_ w_X8_value m q.2 :=
  (fq_if h (fun h1 => (fq_rt h1 sa_rf)) (fun h1 => (fh_gd h1 fun g3 h2 => (fq_rt h2 sa_rf))))
def w_X8_step : List (Nat × Nat × Nat) := [(1, 1, 7)]
set_option maxRecDepth 100000 in
theorem fr_X8_step  {m : fm_} {q : Int32 × fm_} (h : f_X8_step  m = some q) : sa_ w_X8_step m q.2 :=
  (fq_if h (fun h1 => (fq_rt h1 sa_rf)) (fun h1 => (fq_rt h1 (sa_si (wi_at 0 rfl (Or.inr rfl)) sa_rf))))
def w_X8_fail : List (Nat × Nat × Nat) := [(1, 1, 8), (1, 1, 9)]
set_option maxRecDepth 100000 in
theorem fr_X8_fail {p1 : Int32} {m : fm_} {q : Int32 × fm_} (h : f_X8_fail p1 m = some q) : sa_ w_X8_fail m q.2 :=
  (fq_if h (fun h1 => (fq_if h1 (fun h2 => (fq_rt h2 sa_rf)) (fun h2 => (fh_gd h2 fun g4 h3 => (fq_if h3 (fun h5 => (fh_gd h5 fun g9 h8 => (fq_rt h8 (sa_si (wi_at 1 rfl (Or.inr rfl)) (sa_si (wi_at 0 rfl (Or.inr rfl)) sa_rf))))) (fun h5 => (fh_gd h5 fun g7 h6 => (fq_rt h6 (sa_si (wi_at 1 rfl (Or.inr rfl)) (sa_si (wi_at 0 rfl (Or.inr rfl)) sa_rf)))))))))) (fun h1 => (fq_rt h1 sa_rf)))
def w_X8_take : List (Nat × Nat × Nat) := [(1, 1, 7), (1, 1, 8), (1, 1, 9)]
set_option maxRecDepth 100000 in
theorem fr_X8_take {p1 : Int32} {m : fm_} {q : Int32 × fm_} (h : f_X8_take p1 m = some q) : sa_ w_X8_take m q.2 :=
  (fh_bd h fun q1 e2 h3 => (fq_if h3 (fun h4 => (fh_bd h4 fun q5 e6 h7 => (fq_rt h7 (sa_t (sa_t sa_rf (sa_ui [] rfl (fr_X8_kind (q := q1) e2))) (sa_ui [0] rfl (fr_X8_step (q := q5) e6)))))) (fun h4 => (fh_bd h4 fun q8 e9 h10 => (fh_gd h10 fun g12 h11 => (fq_rt h11 (sa_t (sa_t sa_rf (sa_ui [] rfl (fr_X8_kind (q := q1) e2))) (sa_ui [1, 2] rfl (fr_X8_fail (q := q8) e9)))))))))
def w_X8_takeNumber : List (Nat × Nat × Nat) := [(1, 1, 7), (1, 1, 8), (1, 1, 9)]
set_option maxRecDepth 100000 in
theorem fr_X8_takeNumber {p1 : Int32} {p2 : Int32} {m : fm_} {q : Int32 × fm_} (h : f_X8_takeNumber p1 p2 m = some q) : sa_ w_X8_takeNumber m q.2 :=
  (fh_bd h fun q1 e2 h3 => (fh_bd h3 fun q4 e5 h6 => (fq_if h6 (fun h7 => (fq_if h7 (fun h8 => (fh_bd h8 fun q9 e10 h11 => (fq_rt h11 (sa_t (sa_t (sa_t sa_rf (sa_ui [] rfl (fr_X8_value (q := q1) e2))) (sa_ui [] rfl (fr_X8_kind (q := q4) e5))) (sa_ui [1, 2] rfl (fr_X8_fail (q := q9) e10)))))) (fun h8 => (fq_if h8 (fun h12 => (fh_bd h12 fun q13 e14 h15 => (fq_rt h15 (sa_t (sa_t (sa_t sa_rf (sa_ui [] rfl (fr_X8_value (q := q1) e2))) (sa_ui [] rfl (fr_X8_kind (q := q4) e5))) (sa_ui [0] rfl (fr_X8_step (q := q13) e14)))))) (fun h12 => (fh_bd h12 fun q16 e17 h18 => (fq_rt h18 (sa_t (sa_t (sa_t sa_rf (sa_ui [] rfl (fr_X8_value (q := q1) e2))) (sa_ui [] rfl (fr_X8_kind (q := q4) e5))) (sa_ui [1, 2] rfl (fr_X8_fail (q := q16) e17)))))))))) (fun h7 => (fh_bd h7 fun q19 e20 h21 => (fq_rt h21 (sa_t (sa_t (sa_t sa_rf (sa_ui [] rfl (fr_X8_value (q := q1) e2))) (sa_ui [] rfl (fr_X8_kind (q := q4) e5))) (sa_ui [1, 2] rfl (fr_X8_fail (q := q19) e20)))))))))
def w_X8_takePoint : List (Nat × Nat × Nat) := [(1, 1, 7), (1, 1, 8), (1, 1, 9)]
set_option maxRecDepth 100000 in
theorem fr_X8_takePoint {p1 : Int32} {m : fm_} {q : Int32 × fm_} (h : f_X8_takePoint p1 m = some q) : sa_ w_X8_takePoint m q.2 :=
  (fh_bd h fun q1 e2 h3 => (fh_bd h3 fun q4 e5 h6 => (fq_if h6 (fun h7 => (fq_if h7 (fun h8 => (fh_bd h8 fun q12 e13 h14 => (fq_rt h14 (sa_t (sa_t (sa_t sa_rf (sa_ui [] rfl (fr_X8_value (q := q1) e2))) (sa_ui [] rfl (fr_X8_kind (q := q4) e5))) (sa_ui [1, 2] rfl (fr_X8_fail (q := q12) e13)))))) (fun h8 => (fh_bd h8 fun q9 e10 h11 => (fq_rt h11 (sa_t (sa_t (sa_t sa_rf (sa_ui [] rfl (fr_X8_value (q := q1) e2))) (sa_ui [] rfl (fr_X8_kind (q := q4) e5))) (sa_ui [0] rfl (fr_X8_step (q := q9) e10)))))))) (fun h7 => (fh_bd h7 fun q15 e16 h17 => (fq_rt h17 (sa_t (sa_t (sa_t sa_rf (sa_ui [] rfl (fr_X8_value (q := q1) e2))) (sa_ui [] rfl (fr_X8_kind (q := q4) e5))) (sa_ui [1, 2] rfl (fr_X8_fail (q := q15) e16)))))))))
def w_X9_readWay (t : Nat) : List (Nat × Nat × Nat) := [(t, t, 4), (t + 1, t + 1, 0), (t + 2, t + 2, 0), (t + 3, t + 3, 0), (1, 1, 7), (1, 1, 8), (1, 1, 9)]
set_option maxRecDepth 100000 in
theorem fr_X9_readWay {t : Nat}  {m : fm_} {q : Int32 × fm_} (h : f_X9_readWay t  m = some q) : sa_ (w_X9_readWay t) m q.2 :=
  (fq_if h (fun h1 => (fh_bd h1 fun q2 e3 h4 => (fh_bd h4 fun q5 e6 h7 => (fq_if h7 (fun h8 => (fq_rt h8 (sa_t (sa_t sa_rf (sa_ui [4] rfl (fr_X8_step (q := q2) e3))) (sa_ui [4, 5, 6] rfl (fr_X8_takePoint (q := q5) e6))))) (fun h8 => (fh_bd h8 fun q9 e10 h11 => (fq_if h11 (fun h12 => (fq_rt h12 (sa_t (sa_t (sa_t sa_rf (sa_ui [4] rfl (fr_X8_step (q := q2) e3))) (sa_ui [4, 5, 6] rfl (fr_X8_takePoint (q := q5) e6))) (sa_ui [4, 5, 6] rfl (fr_X8_takePoint (q := q9) e10))))) (fun h12 => (fh_bd h12 fun q13 e14 h15 => (fq_if h15 (fun h16 => (fq_rt h16 (sa_t (sa_t (sa_t (sa_t sa_rf (sa_ui [4] rfl (fr_X8_step (q := q2) e3))) (sa_ui [4, 5, 6] rfl (fr_X8_takePoint (q := q5) e6))) (sa_ui [4, 5, 6] rfl (fr_X8_takePoint (q := q9) e10))) (sa_ui [4, 5, 6] rfl (fr_X8_takeNumber (q := q13) e14))))) (fun h16 => (fh_bd h16 fun q17 e18 h19 => (fq_if h19 (fun h20 => (fq_rt h20 (sa_t (sa_t (sa_t (sa_t (sa_t sa_rf (sa_ui [4] rfl (fr_X8_step (q := q2) e3))) (sa_ui [4, 5, 6] rfl (fr_X8_takePoint (q := q5) e6))) (sa_ui [4, 5, 6] rfl (fr_X8_takePoint (q := q9) e10))) (sa_ui [4, 5, 6] rfl (fr_X8_takeNumber (q := q13) e14))) (sa_ui [4, 5, 6] rfl (fr_X8_take (q := q17) e18))))) (fun h20 => (fh_gd h20 fun g22 h21 => (fh_gd h21 fun g24 h23 => (fh_gd h23 fun g26 h25 => (fq_rt h25 (sa_si (wi_at 0 rfl (Or.inr rfl)) (sa_si (wi_at 3 rfl (Or.inl rfl)) (sa_si (wi_at 2 rfl (Or.inl rfl)) (sa_si (wi_at 1 rfl (Or.inl rfl)) (sa_t (sa_t (sa_t (sa_t (sa_t sa_rf (sa_ui [4] rfl (fr_X8_step (q := q2) e3))) (sa_ui [4, 5, 6] rfl (fr_X8_takePoint (q := q5) e6))) (sa_ui [4, 5, 6] rfl (fr_X8_takePoint (q := q9) e10))) (sa_ui [4, 5, 6] rfl (fr_X8_takeNumber (q := q13) e14))) (sa_ui [4, 5, 6] rfl (fr_X8_take (q := q17) e18))))))))))))))))))))))))) (fun h1 => (fh_bd h1 fun q27 e28 h29 => (fh_gd h29 fun g31 h30 => (fq_rt h30 (sa_t sa_rf (sa_ui [5, 6] rfl (fr_X8_fail (q := q27) e28))))))))
def w_X9_readZone (t : Nat) : List (Nat × Nat × Nat) := [(t, t, 5), (1, 1, 7), (1, 1, 8), (1, 1, 9)]
def PF_X9_readZone (t : Nat) (s : S_X9_readZone) (q : Int32 × fm_) : Prop := match s with
  | (x2, m) => sa_ (w_X9_readZone t) m q.2
theorem fl_X9_readZone {t : Nat} (s : S_X9_readZone) (q : Int32 × fm_) (h : am_lp (st_X9_readZone t) s = some q) : PF_X9_readZone t s q :=
  am_lp_snd (P := PF_X9_readZone t) (fun K hK s q h => match s, h with
    | (x2, m), h => (fr_if h (fun h1 => (fr_rt h1 sa_rf)) (fun h1 => (fr_if h1 (fun h2 => (fj_bd h2 fun q3 e4 h5 => (fr_if h5 (fun h6 => (fr_rt h6 (sa_t sa_rf (sa_ui [1, 2, 3] rfl (fr_X8_takePoint (q := q3) e4))))) (fun h6 => (sa_t (sa_si (wi_at 0 rfl (Or.inr rfl)) (sa_t sa_rf (sa_ui [1, 2, 3] rfl (fr_X8_takePoint (q := q3) e4)))) (hK _ _ h6 :)))))) (fun h2 => (fj_bd h2 fun q7 e8 h9 => (fr_if h9 (fun h10 => (fj_bd h10 fun q15 e16 h17 => (fr_rt h17 (sa_t (sa_t sa_rf (sa_ui [] rfl (fr_X8_kind (q := q7) e8))) (sa_ui [1] rfl (fr_X8_step (q := q15) e16)))))) (fun h10 => (fj_bd h10 fun q11 e12 h13 => (fr_if h13 (fun h14 => (fr_rt h14 (sa_t (sa_t sa_rf (sa_ui [] rfl (fr_X8_kind (q := q7) e8))) (sa_ui [1, 2, 3] rfl (fr_X8_takePoint (q := q11) e12))))) (fun h14 => (sa_t (sa_si (wi_at 0 rfl (Or.inr rfl)) (sa_t (sa_t sa_rf (sa_ui [] rfl (fr_X8_kind (q := q7) e8))) (sa_ui [1, 2, 3] rfl (fr_X8_takePoint (q := q11) e12)))) (hK _ _ h14 :))))))))))))) s q h
set_option maxRecDepth 100000 in
theorem fr_X9_readZone {t : Nat}  {m : fm_} {q : Int32 × fm_} (h : f_X9_readZone t  m = some q) : sa_ (w_X9_readZone t) m q.2 :=
  (fq_if h (fun h1 => (fh_bd h1 fun q2 e3 h4 => (sa_t (sa_t sa_rf (sa_ui [1] rfl (fr_X8_step (q := q2) e3))) (fl_X9_readZone _ _ h4 :)))) (fun h1 => (fh_bd h1 fun q5 e6 h7 => (fh_gd h7 fun g9 h8 => (fq_rt h8 (sa_t sa_rf (sa_ui [2, 3] rfl (fr_X8_fail (q := q5) e6))))))))
def w_X9_readCamera (t : Nat) : List (Nat × Nat × Nat) := [(t, t, 10), (t, t, 9), (t + 4, t + 4, 0), (t + 5, t + 5, 0), (t + 6, t + 6, 0), (1, 1, 7), (1, 1, 8), (1, 1, 9)]
set_option maxRecDepth 100000 in
theorem fr_X9_readCamera {t : Nat}  {m : fm_} {q : Int32 × fm_} (h : f_X9_readCamera t  m = some q) : sa_ (w_X9_readCamera t) m q.2 :=
  (fq_if h (fun h1 => (fh_bd h1 fun q2 e3 h4 => (fh_bd h4 fun q5 e6 h7 => (fq_if h7 (fun h8 => (fq_rt h8 (sa_t (sa_t sa_rf (sa_ui [5] rfl (fr_X8_step (q := q2) e3))) (sa_ui [5, 6, 7] rfl (fr_X8_takePoint (q := q5) e6))))) (fun h8 => (fh_bd h8 fun q9 e10 h11 => (fq_if h11 (fun h12 => (fq_rt h12 (sa_t (sa_t (sa_t sa_rf (sa_ui [5] rfl (fr_X8_step (q := q2) e3))) (sa_ui [5, 6, 7] rfl (fr_X8_takePoint (q := q5) e6))) (sa_ui [5, 6, 7] rfl (fr_X8_take (q := q9) e10))))) (fun h12 => (fh_bd h12 fun q13 e14 h15 => (fq_if h15 (fun h16 => (fq_rt h16 (sa_t (sa_t (sa_t (sa_t sa_rf (sa_ui [5] rfl (fr_X8_step (q := q2) e3))) (sa_ui [5, 6, 7] rfl (fr_X8_takePoint (q := q5) e6))) (sa_ui [5, 6, 7] rfl (fr_X8_take (q := q9) e10))) (sa_ui [5, 6, 7] rfl (fr_X8_takeNumber (q := q13) e14))))) (fun h16 => (fh_bd h16 fun q17 e18 h19 => (fq_if h19 (fun h20 => (fq_rt h20 (sa_t (sa_t (sa_t (sa_t (sa_t sa_rf (sa_ui [5] rfl (fr_X8_step (q := q2) e3))) (sa_ui [5, 6, 7] rfl (fr_X8_takePoint (q := q5) e6))) (sa_ui [5, 6, 7] rfl (fr_X8_take (q := q9) e10))) (sa_ui [5, 6, 7] rfl (fr_X8_takeNumber (q := q13) e14))) (sa_ui [5, 6, 7] rfl (fr_X8_take (q := q17) e18))))) (fun h20 => (fh_bd h20 fun q21 e22 h23 => (fq_if h23 (fun h24 => (fq_rt h24 (sa_t (sa_t (sa_t (sa_t (sa_t (sa_t sa_rf (sa_ui [5] rfl (fr_X8_step (q := q2) e3))) (sa_ui [5, 6, 7] rfl (fr_X8_takePoint (q := q5) e6))) (sa_ui [5, 6, 7] rfl (fr_X8_take (q := q9) e10))) (sa_ui [5, 6, 7] rfl (fr_X8_takeNumber (q := q13) e14))) (sa_ui [5, 6, 7] rfl (fr_X8_take (q := q17) e18))) (sa_ui [5, 6, 7] rfl (fr_X8_takeNumber (q := q21) e22))))) (fun h24 => (fh_bd h24 fun q25 e26 h27 => (fq_if h27 (fun h28 => (fq_rt h28 (sa_t (sa_t (sa_t (sa_t (sa_t (sa_t (sa_t sa_rf (sa_ui [5] rfl (fr_X8_step (q := q2) e3))) (sa_ui [5, 6, 7] rfl (fr_X8_takePoint (q := q5) e6))) (sa_ui [5, 6, 7] rfl (fr_X8_take (q := q9) e10))) (sa_ui [5, 6, 7] rfl (fr_X8_takeNumber (q := q13) e14))) (sa_ui [5, 6, 7] rfl (fr_X8_take (q := q17) e18))) (sa_ui [5, 6, 7] rfl (fr_X8_takeNumber (q := q21) e22))) (sa_ui [5, 6, 7] rfl (fr_X8_take (q := q25) e26))))) (fun h28 => (fh_gd h28 fun g30 h29 => (fh_gd h29 fun g32 h31 => (fh_gd h31 fun g34 h33 => (fq_rt h33 (sa_si (wi_at 1 rfl (Or.inr rfl)) (sa_si (wi_at 0 rfl (Or.inr rfl)) (sa_si (wi_at 4 rfl (Or.inl rfl)) (sa_si (wi_at 3 rfl (Or.inl rfl)) (sa_si (wi_at 2 rfl (Or.inl rfl)) (sa_t (sa_t (sa_t (sa_t (sa_t (sa_t (sa_t sa_rf (sa_ui [5] rfl (fr_X8_step (q := q2) e3))) (sa_ui [5, 6, 7] rfl (fr_X8_takePoint (q := q5) e6))) (sa_ui [5, 6, 7] rfl (fr_X8_take (q := q9) e10))) (sa_ui [5, 6, 7] rfl (fr_X8_takeNumber (q := q13) e14))) (sa_ui [5, 6, 7] rfl (fr_X8_take (q := q17) e18))) (sa_ui [5, 6, 7] rfl (fr_X8_takeNumber (q := q21) e22))) (sa_ui [5, 6, 7] rfl (fr_X8_take (q := q25) e26)))))))))))))))))))))))))))))))) (fun h1 => (fh_bd h1 fun q35 e36 h37 => (fh_gd h37 fun g39 h38 => (fq_rt h38 (sa_t sa_rf (sa_ui [6, 7] rfl (fr_X8_fail (q := q35) e36))))))))
def w_X9_readLine (t : Nat) : List (Nat × Nat × Nat) := [(t, t, 10), (t, t, 4), (t, t, 5), (t, t, 9), (t + 1, t + 1, 0), (t + 2, t + 2, 0), (t + 3, t + 3, 0), (t + 4, t + 4, 0), (t + 5, t + 5, 0), (t + 6, t + 6, 0), (1, 1, 7), (1, 1, 8), (1, 1, 9)]
set_option maxRecDepth 100000 in
theorem fr_X9_readLine {t : Nat}  {m : fm_} {q : Int32 × fm_} (h : f_X9_readLine t  m = some q) : sa_ (w_X9_readLine t) m q.2 :=
  (fh_bd h fun q1 e2 h3 => (fq_if h3 (fun h4 => (fh_bd h4 fun q5 e6 h7 => (fh_gd h7 fun g9 h8 => (fq_rt h8 (sa_t (sa_t sa_rf (sa_ui [] rfl (fr_X8_kind (q := q1) e2))) (sa_ui [1, 4, 5, 6, 10, 11, 12] rfl (fr_X9_readWay (q := q5) e6))))))) (fun h4 => (fq_if h4 (fun h10 => (fh_bd h10 fun q11 e12 h13 => (fh_gd h13 fun g15 h14 => (fq_rt h14 (sa_t (sa_t sa_rf (sa_ui [] rfl (fr_X8_kind (q := q1) e2))) (sa_ui [2, 10, 11, 12] rfl (fr_X9_readZone (q := q11) e12))))))) (fun h10 => (fq_if h10 (fun h16 => (fh_bd h16 fun q17 e18 h19 => (fh_gd h19 fun g21 h20 => (fq_rt h20 (sa_t (sa_t sa_rf (sa_ui [] rfl (fr_X8_kind (q := q1) e2))) (sa_ui [0, 3, 7, 8, 9, 10, 11, 12] rfl (fr_X9_readCamera (q := q17) e18))))))) (fun h16 => (fh_bd h16 fun q22 e23 h24 => (fh_gd h24 fun g26 h25 => (fq_rt h25 (sa_t (sa_t sa_rf (sa_ui [] rfl (fr_X8_kind (q := q1) e2))) (sa_ui [11, 12] rfl (fr_X8_fail (q := q22) e23)))))))))))))
def w_X9_readLines (t : Nat) : List (Nat × Nat × Nat) := [(t, t, 10), (t, t, 4), (t, t, 5), (t, t, 9), (t + 1, t + 1, 0), (t + 2, t + 2, 0), (t + 3, t + 3, 0), (t + 4, t + 4, 0), (t + 5, t + 5, 0), (t + 6, t + 6, 0), (1, 1, 7), (1, 1, 8), (1, 1, 9)]
def PF_X9_readLines (t : Nat) (s : S_X9_readLines) (q : Int32 × fm_) : Prop := match s with
  | (x2, m) => sa_ (w_X9_readLines t) m q.2
theorem fl_X9_readLines {t : Nat} (s : S_X9_readLines) (q : Int32 × fm_) (h : am_lp (st_X9_readLines t) s = some q) : PF_X9_readLines t s q :=
  am_lp_snd (P := PF_X9_readLines t) (fun K hK s q h => match s, h with
    | (x2, m), h => (fr_if h (fun h1 => (fr_rt h1 sa_rf)) (fun h1 => (fj_bd h1 fun q2 e3 h4 => (fr_if h4 (fun h5 => (fr_rt h5 (sa_t sa_rf (sa_ui [] rfl (fr_X8_kind (q := q2) e3))))) (fun h5 => (fj_bd h5 fun q6 e7 h8 => (fr_if h8 (fun h9 => (fr_rt h9 (sa_t (sa_t sa_rf (sa_ui [] rfl (fr_X8_kind (q := q2) e3))) (sa_ui [0, 1, 2, 3, 4, 5, 6, 7, 8, 9, 10, 11, 12] rfl (fr_X9_readLine (q := q6) e7))))) (fun h9 => (sa_t (sa_t (sa_t sa_rf (sa_ui [] rfl (fr_X8_kind (q := q2) e3))) (sa_ui [0, 1, 2, 3, 4, 5, 6, 7, 8, 9, 10, 11, 12] rfl (fr_X9_readLine (q := q6) e7))) (hK _ _ h9 :))))))))))) s q h
set_option maxRecDepth 100000 in
theorem fr_X9_readLines {t : Nat}  {m : fm_} {q : Int32 × fm_} (h : f_X9_readLines t  m = some q) : sa_ (w_X9_readLines t) m q.2 :=
  (sa_t (sa_si (wi_at 0 rfl (Or.inr rfl)) (sa_si (wi_at 3 rfl (Or.inr rfl)) (sa_si (wi_at 2 rfl (Or.inr rfl)) (sa_si (wi_at 1 rfl (Or.inr rfl)) sa_rf)))) (fl_X9_readLines _ _ h :))
def w_X9_offerHop : List (Nat × Nat × Nat) := [(13, 13, 0)]
set_option maxRecDepth 100000 in
theorem fr_X9_offerHop {p1 : Int32} {p2 : Int32} {p3 : Int32} {m : fm_} {q : Int32 × fm_} (h : f_X9_offerHop p1 p2 p3 m = some q) : sa_ w_X9_offerHop m q.2 :=
  (fh_gd h fun g2 h1 => (fq_if h1 (fun h3 => (fh_gd h3 fun g5 h4 => (fq_rt h4 (sa_si (wi_at 0 rfl (Or.inl rfl)) sa_rf)))) (fun h3 => (fh_gd h3 fun g7 h6 => (fh_gd h6 fun g9 h8 => (fq_if h8 (fun h10 => (fq_rt h10 sa_rf)) (fun h10 => (fh_gd h10 fun g12 h11 => (fq_rt h11 (sa_si (wi_at 0 rfl (Or.inl rfl)) sa_rf))))))))))
def w_X11_isUnder : List (Nat × Nat × Nat) := []
set_option maxRecDepth 100000 in
theorem fr_X11_isUnder {p1 : Int32} {p2 : Int32} {m : fm_} {q : Int32 × fm_} (h : f_X11_isUnder p1 p2 m = some q) : sa_ w_X11_isUnder m q.2 :=
  (fq_if h (fun h1 => (fq_rt h1 sa_rf)) (fun h1 => (fq_if h1 (fun h2 => (fq_rt h2 sa_rf)) (fun h2 => (fq_rt h2 sa_rf)))))
def w_X9_hop : List (Nat × Nat × Nat) := []
set_option maxRecDepth 100000 in
theorem fr_X9_hop {p1 : Int32} {p2 : Int32} {m : fm_} {q : Int32 × fm_} (h : f_X9_hop p1 p2 m = some q) : sa_ w_X9_hop m q.2 :=
  (fh_bd h fun q1 e2 h3 => (fq_if h3 (fun h4 => (fq_rt h4 (sa_t sa_rf (sa_ui [] rfl (fr_X11_isUnder (q := q1) e2))))) (fun h4 => (fh_bd h4 fun q5 e6 h7 => (fq_if h7 (fun h8 => (fq_rt h8 (sa_t (sa_t sa_rf (sa_ui [] rfl (fr_X11_isUnder (q := q1) e2))) (sa_ui [] rfl (fr_X11_isUnder (q := q5) e6))))) (fun h8 => (fh_gd h8 fun g10 h9 => (fq_rt h9 (sa_t (sa_t sa_rf (sa_ui [] rfl (fr_X11_isUnder (q := q1) e2))) (sa_ui [] rfl (fr_X11_isUnder (q := q5) e6)))))))))))
def w_X9_hopMinutes : List (Nat × Nat × Nat) := []
set_option maxRecDepth 100000 in
theorem fr_X9_hopMinutes {p1 : Int32} {p2 : Int32} {m : fm_} {q : Int32 × fm_} (h : f_X9_hopMinutes p1 p2 m = some q) : sa_ w_X9_hopMinutes m q.2 :=
  (fh_bd h fun q1 e2 h3 => (fh_bd h3 fun q4 e5 h6 => (fq_if h6 (fun h7 => (fq_rt h7 (sa_t (sa_t sa_rf (sa_ui [] rfl (fr_X9_hop (q := q1) e2))) (sa_ui [] rfl (fr_X11_isUnder (q := q4) e5))))) (fun h7 => (fh_gd h7 fun g9 h8 => (fq_rt h8 (sa_t (sa_t sa_rf (sa_ui [] rfl (fr_X9_hop (q := q1) e2))) (sa_ui [] rfl (fr_X11_isUnder (q := q4) e5)))))))))
def w_X9_spread (c : Nat) : List (Nat × Nat × Nat) := [(c, c, 0)]
def PF_X9_spread (c : Nat) (s : S_X9_spread) (q : Int32 × fm_) : Prop := match s with
  | Sum.inl ((x2, x3, m)) => sa_ (w_X9_spread c) m q.2
  | Sum.inr (Sum.inl ((x2, x3, x4, m))) => sa_ (w_X9_spread c) m q.2
  | Sum.inr (Sum.inr (Sum.inl ((x2, x3, m)))) => sa_ (w_X9_spread c) m q.2
  | Sum.inr (Sum.inr (Sum.inr (Sum.inl ((x2, x3, x4, m))))) => sa_ (w_X9_spread c) m q.2
  | Sum.inr (Sum.inr (Sum.inr (Sum.inr ((x2, x3, x4, x5, x6, m))))) => sa_ (w_X9_spread c) m q.2
theorem fl_X9_spread {c : Nat} (s : S_X9_spread) (q : Int32 × fm_) (h : am_lp (st_X9_spread c) s = some q) : PF_X9_spread c s q :=
  am_lp_snd (P := PF_X9_spread c) (fun K hK s q h => match s, h with
    | Sum.inl ((x2, x3, m)), h => (fr_if h (fun h1 => (sa_t sa_rf (hK _ _ h1 :))) (fun h1 => (sa_t sa_rf (hK _ _ h1 :))))
    | Sum.inr (Sum.inl ((x2, x3, x4, m))), h => (fr_if h (fun h1 => (sa_t sa_rf (hK _ _ h1 :))) (fun h1 => (fr_if h1 (fun h2 => (fr_if h2 (fun h11 => (fj_gd h11 fun g18 h17 => (sa_t (sa_si (wi_at 0 rfl (Or.inl rfl)) sa_rf) (hK _ _ h17 :)))) (fun h11 => (fj_bd h11 fun q12 e13 h14 => (fj_gd h14 fun g16 h15 => (sa_t (sa_si (wi_at 0 rfl (Or.inl rfl)) (sa_t sa_rf (sa_ui [] rfl (fr_X9_hopMinutes (q := q12) e13)))) (hK _ _ h15 :))))))) (fun h2 => (fr_if h2 (fun h3 => (fj_gd h3 fun g10 h9 => (sa_t (sa_si (wi_at 0 rfl (Or.inl rfl)) sa_rf) (hK _ _ h9 :)))) (fun h3 => (fj_bd h3 fun q4 e5 h6 => (fj_gd h6 fun g8 h7 => (sa_t (sa_si (wi_at 0 rfl (Or.inl rfl)) (sa_t sa_rf (sa_ui [] rfl (fr_X9_hopMinutes (q := q4) e5)))) (hK _ _ h7 :))))))))))
    | Sum.inr (Sum.inr (Sum.inl ((x2, x3, m)))), h => (fr_if h (fun h1 => (fr_rt h1 sa_rf)) (fun h1 => (sa_t sa_rf (hK _ _ h1 :))))
    | Sum.inr (Sum.inr (Sum.inr (Sum.inl ((x2, x3, x4, m))))), h => (fr_if h (fun h1 => (sa_t sa_rf (hK _ _ h1 :))) (fun h1 => (fj_gd h1 fun g3 h2 => (sa_t sa_rf (hK _ _ h2 :)))))
    | Sum.inr (Sum.inr (Sum.inr (Sum.inr ((x2, x3, x4, x5, x6, m))))), h => (fr_if h (fun h1 => (sa_t sa_rf (hK _ _ h1 :))) (fun h1 => (fr_if h1 (fun h2 => (sa_t sa_rf (hK _ _ h2 :))) (fun h2 => (fj_gd h2 fun g4 h3 => (fj_gd h3 fun g6 h5 => (fj_gd h5 fun g8 h7 => (sa_t (sa_si (wi_at 0 rfl (Or.inl rfl)) sa_rf) (hK _ _ h7 :)))))))))) s q h
set_option maxRecDepth 100000 in
theorem fr_X9_spread {c : Nat} {p2 : Int32} {m : fm_} {q : Int32 × fm_} (h : f_X9_spread c p2 m = some q) : sa_ (w_X9_spread c) m q.2 :=
  (sa_t sa_rf (fl_X9_spread _ _ h :))
def w_X9_at : List (Nat × Nat × Nat) := []
set_option maxRecDepth 100000 in
theorem fr_X9_at {c : Nat} {p2 : Int32} {p3 : Int32} {m : fm_} {q : Int32 × fm_} (h : f_X9_at c p2 p3 m = some q) : sa_ w_X9_at m q.2 :=
  (fq_if h (fun h1 => (fq_rt h1 sa_rf)) (fun h1 => (fq_if h1 (fun h2 => (fq_rt h2 sa_rf)) (fun h2 => (fq_if h2 (fun h3 => (fq_rt h3 sa_rf)) (fun h3 => (fq_if h3 (fun h4 => (fq_rt h4 sa_rf)) (fun h4 => (fh_gd h4 fun g6 h5 => (fq_rt h5 sa_rf))))))))))
def w_X9_near : List (Nat × Nat × Nat) := []
set_option maxRecDepth 100000 in
theorem fr_X9_near {p1 : Int32} {p2 : Int32} {m : fm_} {q : Int32 × fm_} (h : f_X9_near p1 p2 m = some q) : sa_ w_X9_near m q.2 :=
  (fh_bd h fun q1 e2 h3 => (fq_rt h3 (sa_t sa_rf (sa_ui [] rfl (fr_X9_at (q := q1) e2)))))
def w_X9_joinBy (c : Nat) : List (Nat × Nat × Nat) := [(c, c, 0)]
def PF_X9_joinBy (c : Nat) (s : S_X9_joinBy) (q : Int32 × fm_) : Prop := match s with
  | Sum.inl ((x2, x3, m)) => sa_ (w_X9_joinBy c) m q.2
  | Sum.inr (Sum.inl ((x2, x3, x4, m))) => sa_ (w_X9_joinBy c) m q.2
  | Sum.inr (Sum.inr ((x2, x3, x4, x5, x6, m))) => sa_ (w_X9_joinBy c) m q.2
theorem fl_X9_joinBy {c : Nat} (s : S_X9_joinBy) (q : Int32 × fm_) (h : am_lp (st_X9_joinBy c) s = some q) : PF_X9_joinBy c s q :=
  am_lp_snd (P := PF_X9_joinBy c) (fun K hK s q h => match s, h with
    | Sum.inl ((x2, x3, m)), h => (fr_if h (fun h1 => (fr_rt h1 sa_rf)) (fun h1 => (sa_t sa_rf (hK _ _ h1 :))))
    | Sum.inr (Sum.inl ((x2, x3, x4, m))), h => (fr_if h (fun h1 => (sa_t sa_rf (hK _ _ h1 :))) (fun h1 => (sa_t sa_rf (hK _ _ h1 :))))
    | Sum.inr (Sum.inr ((x2, x3, x4, x5, x6, m))), h => (fr_if h (fun h1 => (fj_gd h1 fun g3 h2 => (sa_t (sa_si (wi_at 0 rfl (Or.inl rfl)) sa_rf) (hK _ _ h2 :)))) (fun h1 => (fr_if h1 (fun h4 => (fj_bd h4 fun q5 e6 h7 => (fj_bd h7 fun q8 e9 h10 => (sa_t (sa_t (sa_t sa_rf (sa_ui [] rfl (fr_X9_near (q := q5) e6))) (sa_ui [] rfl (fr_X9_near (q := q8) e9))) (hK _ _ h10 :))))) (fun h4 => (sa_t sa_rf (hK _ _ h4 :))))))) s q h
set_option maxRecDepth 100000 in
theorem fr_X9_joinBy {c : Nat} {p2 : Int32} {m : fm_} {q : Int32 × fm_} (h : f_X9_joinBy c p2 m = some q) : sa_ (w_X9_joinBy c) m q.2 :=
  (sa_t sa_rf (fl_X9_joinBy _ _ h :))
def w_X9_measure : List (Nat × Nat × Nat) := [(13, 13, 0), (14, 14, 0), (15, 15, 0), (16, 16, 0), (17, 17, 0)]
def PF_X9_measure (s : S_X9_measure) (q : Int32 × fm_) : Prop := match s with
  | (x1, m) => sa_ w_X9_measure m q.2
theorem fl_X9_measure (s : S_X9_measure) (q : Int32 × fm_) (h : am_lp (st_X9_measure) s = some q) : PF_X9_measure s q :=
  am_lp_snd (P := PF_X9_measure) (fun K hK s q h => match s, h with
    | (x1, m), h => (fr_if h (fun h1 => (fj_bd h1 fun q2 e3 h4 => (fj_bd h4 fun q5 e6 h7 => (fj_bd h7 fun q8 e9 h10 => (fj_bd h10 fun q11 e12 h13 => (fr_rt h13 (sa_t (sa_t (sa_t (sa_t sa_rf (sa_ui [1] rfl (fr_X9_spread (q := q2) e3))) (sa_ui [2] rfl (fr_X9_spread (q := q5) e6))) (sa_ui [3] rfl (fr_X9_joinBy (q := q8) e9))) (sa_ui [4] rfl (fr_X9_joinBy (q := q11) e12))))))))) (fun h1 => (fj_gd h1 fun g15 h14 => (fj_gd h14 fun g17 h16 => (fj_bd h16 fun q18 e19 h20 => (fj_gd h20 fun g22 h21 => (fj_gd h21 fun g24 h23 => (fj_bd h23 fun q25 e26 h27 => (sa_t (sa_t (sa_t sa_rf (sa_ui [0] rfl (fr_X9_offerHop (q := q18) e19))) (sa_ui [0] rfl (fr_X9_offerHop (q := q25) e26))) (hK _ _ h27 :))))))))))) s q h
set_option maxRecDepth 100000 in
theorem fr_X9_measure  {m : fm_} {q : Int32 × fm_} (h : f_X9_measure  m = some q) : sa_ w_X9_measure m q.2 :=
  (fh_bd h fun q1 e2 h3 => (sa_t (sa_t sa_rf (sa_ui [0] rfl (fr_J7_fill_53178 (q := q1) e2))) (fl_X9_measure _ _ h3 :)))
def w_X9_beside : List (Nat × Nat × Nat) := []
set_option maxRecDepth 100000 in
theorem fr_X9_beside {p1 : Int32} {p2 : Int32} {m : fm_} {q : Int32 × fm_} (h : f_X9_beside p1 p2 m = some q) : sa_ w_X9_beside m q.2 :=
  (fh_bd h fun q1 e2 h3 => (fq_rt h3 (sa_t sa_rf (sa_ui [] rfl (fr_X9_at (q := q1) e2)))))
def w_X9_byZone : List (Nat × Nat × Nat) := []
set_option maxRecDepth 100000 in
theorem fr_X9_byZone {p1 : Int32} {p2 : Int32} {m : fm_} {q : Int32 × fm_} (h : f_X9_byZone p1 p2 m = some q) : sa_ w_X9_byZone m q.2 :=
  (fh_bd h fun q1 e2 h3 => (fq_rt h3 (sa_t sa_rf (sa_ui [] rfl (fr_X9_at (q := q1) e2)))))
def w_X9_byOutside : List (Nat × Nat × Nat) := []
set_option maxRecDepth 100000 in
theorem fr_X9_byOutside {p1 : Int32} {p2 : Int32} {m : fm_} {q : Int32 × fm_} (h : f_X9_byOutside p1 p2 m = some q) : sa_ w_X9_byOutside m q.2 :=
  (fh_bd h fun q1 e2 h3 => (fq_rt h3 (sa_t sa_rf (sa_ui [] rfl (fr_X9_at (q := q1) e2)))))
def w_X9_isZone : List (Nat × Nat × Nat) := []
set_option maxRecDepth 100000 in
theorem fr_X9_isZone {p1 : Int32} {m : fm_} {q : Int32 × fm_} (h : f_X9_isZone p1 m = some q) : sa_ w_X9_isZone m q.2 :=
  (fq_if h (fun h1 => (fq_rt h1 sa_rf)) (fun h1 => (fq_rt h1 sa_rf)))
def w_X9_pointOf : List (Nat × Nat × Nat) := []
set_option maxRecDepth 100000 in
theorem fr_X9_pointOf {p1 : Int32} {m : fm_} {q : Int32 × fm_} (h : f_X9_pointOf p1 m = some q) : sa_ w_X9_pointOf m q.2 :=
  (fq_if h (fun h1 => (fq_rt h1 sa_rf)) (fun h1 => (fq_if h1 (fun h2 => (fq_rt h2 sa_rf)) (fun h2 => (fh_gd h2 fun g4 h3 => (fq_rt h3 sa_rf))))))
def w_X9_works : List (Nat × Nat × Nat) := []
set_option maxRecDepth 100000 in
theorem fr_X9_works {p1 : Int32} {p2 : Int32} {m : fm_} {q : Int32 × fm_} (h : f_X9_works p1 p2 m = some q) : sa_ w_X9_works m q.2 :=
  (fh_bd h fun q1 e2 h3 => (fq_if h3 (fun h4 => (fq_rt h4 (sa_t sa_rf (sa_ui [] rfl (fr_X11_isUnder (q := q1) e2))))) (fun h4 => (fh_gd h4 fun g6 h5 => (fq_if h5 (fun h7 => (fq_rt h7 (sa_t sa_rf (sa_ui [] rfl (fr_X11_isUnder (q := q1) e2))))) (fun h7 => (fh_gd h7 fun g9 h8 => (fq_if h8 (fun h10 => (fq_rt h10 (sa_t sa_rf (sa_ui [] rfl (fr_X11_isUnder (q := q1) e2))))) (fun h10 => (fq_rt h10 (sa_t sa_rf (sa_ui [] rfl (fr_X11_isUnder (q := q1) e2)))))))))))))
def w_X4_clear (o : Nat) : List (Nat × Nat × Nat) := [(o, o, 1), (o, o, 10), (o, o, 11), (o, o, 12), (o, o, 3), (o, o, 6), (o, o, 8), (o, o, 9), (o + 4, o + 4, 0)]
set_option maxRecDepth 100000 in
theorem fr_X4_clear {o : Nat} {p1 : Int32} {m : fm_} {q : Int32 × fm_} (h : f_X4_clear o p1 m = some q) : sa_ (w_X4_clear o) m q.2 :=
  (fh_bd h fun q1 e2 h3 => (fq_rt h3 (sa_si (wi_at 3 rfl (Or.inr rfl)) (sa_si (wi_at 2 rfl (Or.inr rfl)) (sa_si (wi_at 1 rfl (Or.inr rfl)) (sa_si (wi_at 7 rfl (Or.inr rfl)) (sa_si (wi_at 6 rfl (Or.inr rfl)) (sa_t (sa_si (wi_at 5 rfl (Or.inr rfl)) (sa_si (wi_at 4 rfl (Or.inr rfl)) (sa_si (wi_at 0 rfl (Or.inr rfl)) sa_rf))) (sa_ui [8] rfl (fr_J7_fill_53178 (q := q1) e2))))))))))
def w_X4_addStep (o : Nat) : List (Nat × Nat × Nat) := [(o, o, 3), (o + 1, o + 1, 0)]
set_option maxRecDepth 100000 in
theorem fr_X4_addStep {o : Nat} {p1 : Int32} {m : fm_} {q : Int32 × fm_} (h : f_X4_addStep o p1 m = some q) : sa_ (w_X4_addStep o) m q.2 :=
  (fq_if h (fun h1 => (fq_rt h1 sa_rf)) (fun h1 => (fh_gd h1 fun g3 h2 => (fq_rt h2 (sa_si (wi_at 0 rfl (Or.inr rfl)) (sa_si (wi_at 1 rfl (Or.inl rfl)) sa_rf))))))
def w_X4_isInHours : List (Nat × Nat × Nat) := []
set_option maxRecDepth 100000 in
theorem fr_X4_isInHours {o : Nat} {p1 : Int32} {m : fm_} {q : Int32 × fm_} (h : f_X4_isInHours o p1 m = some q) : sa_ w_X4_isInHours m q.2 :=
  (fq_if h (fun h1 => (fq_rt h1 sa_rf)) (fun h1 => (fq_if h1 (fun h2 => (fq_rt h2 sa_rf)) (fun h2 => (fq_if h2 (fun h3 => (fq_rt h3 sa_rf)) (fun h3 => (fq_rt h3 sa_rf)))))))
def w_X4_chargeOf : List (Nat × Nat × Nat) := []
set_option maxRecDepth 100000 in
theorem fr_X4_chargeOf {o : Nat} {p1 : Int32} {m : fm_} {q : Int32 × fm_} (h : f_X4_chargeOf o p1 m = some q) : sa_ w_X4_chargeOf m q.2 :=
  (fh_bd h fun q1 e2 h3 => (fq_if h3 (fun h4 => (fq_rt h4 (sa_t sa_rf (sa_ui [] rfl (fr_X11_isUnder (q := q1) e2))))) (fun h4 => (fh_gd h4 fun g6 h5 => (fq_rt h5 (sa_t sa_rf (sa_ui [] rfl (fr_X11_isUnder (q := q1) e2))))))))
def w_X4_isPush : List (Nat × Nat × Nat) := []
set_option maxRecDepth 100000 in
theorem fr_X4_isPush {p1 : Int32} {m : fm_} {q : Int32 × fm_} (h : f_X4_isPush p1 m = some q) : sa_ w_X4_isPush m q.2 :=
  (fq_if h (fun h1 => (fq_rt h1 sa_rf)) (fun h1 => (fq_rt h1 sa_rf)))
def w_X4_pushed : List (Nat × Nat × Nat) := []
set_option maxRecDepth 100000 in
theorem fr_X4_pushed {p1 : Int32} {m : fm_} {q : Int32 × fm_} (h : f_X4_pushed p1 m = some q) : sa_ w_X4_pushed m q.2 :=
  (fq_if h (fun h1 => (fq_rt h1 sa_rf)) (fun h1 => (fq_if h1 (fun h2 => (fq_rt h2 sa_rf)) (fun h2 => (fh_gd h2 fun g4 h3 => (fq_rt h3 sa_rf))))))
def w_X4_joined : List (Nat × Nat × Nat) := []
set_option maxRecDepth 100000 in
theorem fr_X4_joined {p1 : Int32} {p2 : Int32} {p3 : Int32} {m : fm_} {q : Int32 × fm_} (h : f_X4_joined p1 p2 p3 m = some q) : sa_ w_X4_joined m q.2 :=
  (fq_if h (fun h1 => (fq_rt h1 sa_rf)) (fun h1 => (fq_if h1 (fun h2 => (fq_rt h2 sa_rf)) (fun h2 => (fq_if h2 (fun h3 => (fq_if h3 (fun h4 => (fq_rt h4 sa_rf)) (fun h4 => (fq_rt h4 sa_rf)))) (fun h3 => (fq_if h3 (fun h5 => (fq_if h5 (fun h6 => (fq_rt h6 sa_rf)) (fun h6 => (fq_rt h6 sa_rf)))) (fun h5 => (fq_if h5 (fun h7 => (fq_if h7 (fun h8 => (fq_rt h8 sa_rf)) (fun h8 => (fq_rt h8 sa_rf)))) (fun h7 => (fq_if h7 (fun h9 => (fq_rt h9 sa_rf)) (fun h9 => (fq_if h9 (fun h10 => (fq_rt h10 sa_rf)) (fun h10 => (fq_rt h10 sa_rf)))))))))))))))
def w_X4_holds (o : Nat) : List (Nat × Nat × Nat) := [(o + 5, o + 5, 0)]
def PF_X4_holds (o : Nat) (s : S_X4_holds) (q : Int32 × fm_) : Prop := match s with
  | (x1, x3, x4, m) => sa_ (w_X4_holds o) m q.2
theorem fl_X4_holds {o : Nat} (s : S_X4_holds) (q : Int32 × fm_) (h : am_lp (st_X4_holds o) s = some q) : PF_X4_holds o s q :=
  am_lp_snd (P := PF_X4_holds o) (fun K hK s q h => match s, h with
    | (x1, x3, x4, m), h => (fr_if h (fun h1 => (fr_if h1 (fun h2 => (fj_gd h2 fun g4 h3 => (fr_if h3 (fun h5 => (fr_rt h5 sa_rf)) (fun h5 => (fr_rt h5 sa_rf))))) (fun h2 => (fr_rt h2 sa_rf)))) (fun h1 => (fj_gd h1 fun g7 h6 => (fr_if h6 (fun h8 => (fr_if h8 (fun h9 => (fj_gd h9 fun g11 h10 => (fr_if h10 (fun h12 => (fr_rt h12 sa_rf)) (fun h12 => (fr_rt h12 sa_rf))))) (fun h9 => (fr_rt h9 sa_rf)))) (fun h8 => (fj_gd h8 fun g14 h13 => (fj_bd h13 fun q15 e16 h17 => (fr_if h17 (fun h18 => (fr_if h18 (fun h19 => (fr_if h19 (fun h30 => (fj_gd h30 fun g32 h31 => (fj_gd h31 fun g34 h33 => (sa_t (sa_si (wi_at 0 rfl (Or.inl rfl)) (sa_t sa_rf (sa_ui [] rfl (fr_X4_isPush (q := q15) e16)))) (hK _ _ h33 :))))) (fun h30 => (fr_rt h30 (sa_t sa_rf (sa_ui [] rfl (fr_X4_isPush (q := q15) e16))))))) (fun h19 => (fr_if h19 (fun h20 => (fj_gd h20 fun g22 h21 => (fj_gd h21 fun g24 h23 => (fj_bd h23 fun q25 e26 h27 => (fj_gd h27 fun g29 h28 => (sa_t (sa_si (wi_at 0 rfl (Or.inl rfl)) (sa_t (sa_t sa_rf (sa_ui [] rfl (fr_X4_isPush (q := q15) e16))) (sa_ui [] rfl (fr_X4_joined (q := q25) e26)))) (hK _ _ h28 :))))))) (fun h20 => (fr_rt h20 (sa_t sa_rf (sa_ui [] rfl (fr_X4_isPush (q := q15) e16))))))))) (fun h18 => (fr_if h18 (fun h35 => (fj_bd h35 fun q36 e37 h38 => (fj_gd h38 fun g40 h39 => (sa_t (sa_si (wi_at 0 rfl (Or.inl rfl)) (sa_t (sa_t sa_rf (sa_ui [] rfl (fr_X4_isPush (q := q15) e16))) (sa_ui [] rfl (fr_X4_pushed (q := q36) e37)))) (hK _ _ h39 :))))) (fun h35 => (fr_rt h35 (sa_t sa_rf (sa_ui [] rfl (fr_X4_isPush (q := q15) e16)))))))))))))))) s q h
set_option maxRecDepth 100000 in
theorem fr_X4_holds {o : Nat} {p1 : Int32} {m : fm_} {q : Int32 × fm_} (h : f_X4_holds o p1 m = some q) : sa_ (w_X4_holds o) m q.2 :=
  (fq_if h (fun h1 => (sa_t sa_rf (fl_X4_holds _ _ h1 :))) (fun h1 => (fq_rt h1 sa_rf)))
def w_X4_classBy (o : Nat) : List (Nat × Nat × Nat) := [(o + 5, o + 5, 0)]
def PF_X4_classBy (o : Nat) (s : S_X4_classBy) (q : Int32 × fm_) : Prop := match s with
  | (x2, m) => sa_ (w_X4_classBy o) m q.2
theorem fl_X4_classBy {o : Nat} (s : S_X4_classBy) (q : Int32 × fm_) (h : am_lp (st_X4_classBy o) s = some q) : PF_X4_classBy o s q :=
  am_lp_snd (P := PF_X4_classBy o) (fun K hK s q h => match s, h with
    | (x2, m), h => (fr_if h (fun h1 => (fr_rt h1 sa_rf)) (fun h1 => (fr_if h1 (fun h2 => (fr_rt h2 sa_rf)) (fun h2 => (fj_gd h2 fun g4 h3 => (fj_bd h3 fun q5 e6 h7 => (fr_if h7 (fun h8 => (sa_t (sa_t sa_rf (sa_ui [0] rfl (fr_X4_holds (q := q5) e6))) (hK _ _ h8 :))) (fun h8 => (fj_gd h8 fun g10 h9 => (fr_rt h9 (sa_t sa_rf (sa_ui [0] rfl (fr_X4_holds (q := q5) e6)))))))))))))) s q h
set_option maxRecDepth 100000 in
theorem fr_X4_classBy {o : Nat}  {m : fm_} {q : Int32 × fm_} (h : f_X4_classBy o  m = some q) : sa_ (w_X4_classBy o) m q.2 :=
  (sa_t sa_rf (fl_X4_classBy _ _ h :))
def w_X4_isFree (o : Nat) : List (Nat × Nat × Nat) := [(o + 5, o + 5, 0)]
set_option maxRecDepth 100000 in
theorem fr_X4_isFree {o : Nat}  {m : fm_} {q : Int32 × fm_} (h : f_X4_isFree o  m = some q) : sa_ (w_X4_isFree o) m q.2 :=
  (fh_bd h fun q1 e2 h3 => (fh_gd h3 fun g5 h4 => (fq_rt h4 (sa_t sa_rf (sa_ui [0] rfl (fr_X4_holds (q := q1) e2))))))
def w_X4_letsOff (o : Nat) : List (Nat × Nat × Nat) := [(o + 5, o + 5, 0)]
set_option maxRecDepth 100000 in
theorem fr_X4_letsOff {o : Nat}  {m : fm_} {q : Int32 × fm_} (h : f_X4_letsOff o  m = some q) : sa_ (w_X4_letsOff o) m q.2 :=
  (fh_bd h fun q1 e2 h3 => (fh_gd h3 fun g5 h4 => (fq_rt h4 (sa_t sa_rf (sa_ui [0] rfl (fr_X4_holds (q := q1) e2))))))
def w_X3_inForce : List (Nat × Nat × Nat) := []
def PF_X3_inForce (s : S_X3_inForce) (q : Option Nat × fm_) : Prop := match s with
  | (x1, x2, x3, m) => sa_ w_X3_inForce m q.2
theorem fl_X3_inForce (s : S_X3_inForce) (q : Option Nat × fm_) (h : am_lp (st_X3_inForce) s = some q) : PF_X3_inForce s q :=
  am_lp_snd (P := PF_X3_inForce) (fun K hK s q h => match s, h with
    | (x1, x2, x3, m), h => (fj_om h (fun _ h3 => (fr_if h3 (fun h4 => (fr_rt h4 sa_rf)) (fun h4 => (fr_if h4 (fun h5 => (fr_rt h5 sa_rf)) (fun h5 => (fj_gd h5 fun g8 h7 => (fr_if h7 (fun h9 => (sa_t sa_rf (hK _ _ h9 :))) (fun h9 => (fj_gd h9 fun g12 h11 => (sa_t sa_rf (hK _ _ h11 :))))))))))) (fun o1 e2 h3 => (fr_if h3 (fun h13 => (fr_rt h13 sa_rf)) (fun h13 => (fr_if h13 (fun h14 => (fr_rt h14 sa_rf)) (fun h14 => (fj_gd h14 fun g17 h16 => (fr_if h16 (fun h18 => (sa_t sa_rf (hK _ _ h18 :))) (fun h18 => (fj_gd h18 fun g21 h20 => (fr_if h20 (fun h22 => (sa_t sa_rf (hK _ _ h22 :))) (fun h22 => (fj_gd h22 fun g25 h24 => (sa_t sa_rf (hK _ _ h24 :)))))))))))))))) s q h
set_option maxRecDepth 100000 in
theorem fr_X3_inForce {p1 : Int32} {m : fm_} {q : Option Nat × fm_} (h : f_X3_inForce p1 m = some q) : sa_ w_X3_inForce m q.2 :=
  (sa_t sa_rf (fl_X3_inForce _ _ h :))
def w_X3_chargeOn : List (Nat × Nat × Nat) := []
set_option maxRecDepth 100000 in
theorem fr_X3_chargeOn {p1 : Int32} {p2 : Int32} {m : fm_} {q : Int32 × fm_} (h : f_X3_chargeOn p1 p2 m = some q) : sa_ w_X3_chargeOn m q.2 :=
  (fh_bd h fun q1 e2 h3 => fh_om h3 (fun _ h7 => (fq_rt h7 (sa_t sa_rf (sa_ui [] rfl (fr_X3_inForce (q := q1) e2))))) (fun o4 _ h3 => fh_gd h3 fun g5 h6 => (fh_bd h6 fun q8 e9 h10 => (fq_rt h10 (sa_t (sa_t sa_rf (sa_ui [] rfl (fr_X3_inForce (q := q1) e2))) (sa_ui [] rfl (fr_X4_chargeOf (q := q8) e9)))))))
def w_X5_readClass (o : Nat) : List (Nat × Nat × Nat) := [(o, o, 6), (o + 2, o + 2, 0), (o + 3, o + 3, 0), (1, 1, 7), (1, 1, 8), (1, 1, 9)]
set_option maxRecDepth 100000 in
theorem fr_X5_readClass {o : Nat}  {m : fm_} {q : Int32 × fm_} (h : f_X5_readClass o  m = some q) : sa_ (w_X5_readClass o) m q.2 :=
  (fq_if h (fun h1 => (fh_bd h1 fun q2 e3 h4 => (fh_gd h4 fun g6 h5 => (fh_bd h5 fun q7 e8 h9 => (fh_gd h9 fun g11 h10 => (fh_gd h10 fun g13 h12 => (fq_if h12 (fun h14 => (fq_rt h14 (sa_si (wi_at 0 rfl (Or.inr rfl)) (sa_si (wi_at 1 rfl (Or.inl rfl)) (sa_t (sa_si (wi_at 2 rfl (Or.inl rfl)) (sa_t sa_rf (sa_ui [3] rfl (fr_X8_step (q := q2) e3)))) (sa_ui [3, 4, 5] rfl (fr_X8_takeNumber (q := q7) e8))))))) (fun h14 => (fq_rt h14 (sa_si (wi_at 0 rfl (Or.inr rfl)) (sa_si (wi_at 1 rfl (Or.inl rfl)) (sa_t (sa_si (wi_at 2 rfl (Or.inl rfl)) (sa_t sa_rf (sa_ui [3] rfl (fr_X8_step (q := q2) e3)))) (sa_ui [3, 4, 5] rfl (fr_X8_takeNumber (q := q7) e8)))))))))))))) (fun h1 => (fh_bd h1 fun q15 e16 h17 => (fh_gd h17 fun g19 h18 => (fq_rt h18 (sa_t sa_rf (sa_ui [4, 5] rfl (fr_X8_fail (q := q15) e16))))))))
def w_X5_readCharge (o : Nat) : List (Nat × Nat × Nat) := [(o + 4, o + 4, 0), (1, 1, 7), (1, 1, 8), (1, 1, 9)]
set_option maxRecDepth 100000 in
theorem fr_X5_readCharge {o : Nat}  {m : fm_} {q : Int32 × fm_} (h : f_X5_readCharge o  m = some q) : sa_ (w_X5_readCharge o) m q.2 :=
  (fh_bd h fun q1 e2 h3 => (fh_bd h3 fun q4 e5 h6 => (fh_bd h6 fun q7 e8 h9 => (fq_if h9 (fun h10 => (fh_bd h10 fun q27 e28 h29 => (fq_if h29 (fun h30 => (fh_bd h30 fun q31 e32 h33 => (fq_if h33 (fun h34 => (fq_rt h34 (sa_t (sa_t (sa_t (sa_t (sa_t sa_rf (sa_ui [1] rfl (fr_X8_step (q := q1) e2))) (sa_ui [] rfl (fr_X8_value (q := q4) e5))) (sa_ui [] rfl (fr_X8_kind (q := q7) e8))) (sa_ui [] rfl (fr_X11_isUnder (q := q27) e28))) (sa_ui [1, 2, 3] rfl (fr_X8_takeNumber (q := q31) e32))))) (fun h34 => (fh_bd h34 fun q35 e36 h37 => (fq_if h37 (fun h38 => (fq_rt h38 (sa_t (sa_t (sa_t (sa_t (sa_t (sa_t sa_rf (sa_ui [1] rfl (fr_X8_step (q := q1) e2))) (sa_ui [] rfl (fr_X8_value (q := q4) e5))) (sa_ui [] rfl (fr_X8_kind (q := q7) e8))) (sa_ui [] rfl (fr_X11_isUnder (q := q27) e28))) (sa_ui [1, 2, 3] rfl (fr_X8_takeNumber (q := q31) e32))) (sa_ui [1, 2, 3] rfl (fr_X8_take (q := q35) e36))))) (fun h38 => (fh_bd h38 fun q39 e40 h41 => (fh_gd h41 fun g43 h42 => (fh_gd h42 fun g45 h44 => (fq_if h44 (fun h46 => (fq_rt h46 (sa_si (wi_at 0 rfl (Or.inl rfl)) (sa_t (sa_t (sa_t (sa_t (sa_t (sa_t (sa_t sa_rf (sa_ui [1] rfl (fr_X8_step (q := q1) e2))) (sa_ui [] rfl (fr_X8_value (q := q4) e5))) (sa_ui [] rfl (fr_X8_kind (q := q7) e8))) (sa_ui [] rfl (fr_X11_isUnder (q := q27) e28))) (sa_ui [1, 2, 3] rfl (fr_X8_takeNumber (q := q31) e32))) (sa_ui [1, 2, 3] rfl (fr_X8_take (q := q35) e36))) (sa_ui [1, 2, 3] rfl (fr_X8_takeNumber (q := q39) e40)))))) (fun h46 => (fq_rt h46 (sa_si (wi_at 0 rfl (Or.inl rfl)) (sa_t (sa_t (sa_t (sa_t (sa_t (sa_t (sa_t sa_rf (sa_ui [1] rfl (fr_X8_step (q := q1) e2))) (sa_ui [] rfl (fr_X8_value (q := q4) e5))) (sa_ui [] rfl (fr_X8_kind (q := q7) e8))) (sa_ui [] rfl (fr_X11_isUnder (q := q27) e28))) (sa_ui [1, 2, 3] rfl (fr_X8_takeNumber (q := q31) e32))) (sa_ui [1, 2, 3] rfl (fr_X8_take (q := q35) e36))) (sa_ui [1, 2, 3] rfl (fr_X8_takeNumber (q := q39) e40))))))))))))))))) (fun h30 => (fh_gd h30 fun g48 h47 => (fq_if h47 (fun h49 => (fh_bd h49 fun q50 e51 h52 => (fq_if h52 (fun h53 => (fq_rt h53 (sa_t (sa_t (sa_t (sa_t (sa_t sa_rf (sa_ui [1] rfl (fr_X8_step (q := q1) e2))) (sa_ui [] rfl (fr_X8_value (q := q4) e5))) (sa_ui [] rfl (fr_X8_kind (q := q7) e8))) (sa_ui [] rfl (fr_X11_isUnder (q := q27) e28))) (sa_ui [1, 2, 3] rfl (fr_X8_takeNumber (q := q50) e51))))) (fun h53 => (fh_bd h53 fun q54 e55 h56 => (fq_if h56 (fun h57 => (fq_rt h57 (sa_t (sa_t (sa_t (sa_t (sa_t (sa_t sa_rf (sa_ui [1] rfl (fr_X8_step (q := q1) e2))) (sa_ui [] rfl (fr_X8_value (q := q4) e5))) (sa_ui [] rfl (fr_X8_kind (q := q7) e8))) (sa_ui [] rfl (fr_X11_isUnder (q := q27) e28))) (sa_ui [1, 2, 3] rfl (fr_X8_takeNumber (q := q50) e51))) (sa_ui [1, 2, 3] rfl (fr_X8_take (q := q54) e55))))) (fun h57 => (fh_bd h57 fun q58 e59 h60 => (fh_gd h60 fun g62 h61 => (fh_gd h61 fun g64 h63 => (fq_if h63 (fun h65 => (fq_rt h65 (sa_si (wi_at 0 rfl (Or.inl rfl)) (sa_t (sa_t (sa_t (sa_t (sa_t (sa_t (sa_t sa_rf (sa_ui [1] rfl (fr_X8_step (q := q1) e2))) (sa_ui [] rfl (fr_X8_value (q := q4) e5))) (sa_ui [] rfl (fr_X8_kind (q := q7) e8))) (sa_ui [] rfl (fr_X11_isUnder (q := q27) e28))) (sa_ui [1, 2, 3] rfl (fr_X8_takeNumber (q := q50) e51))) (sa_ui [1, 2, 3] rfl (fr_X8_take (q := q54) e55))) (sa_ui [1, 2, 3] rfl (fr_X8_takeNumber (q := q58) e59)))))) (fun h65 => (fq_rt h65 (sa_si (wi_at 0 rfl (Or.inl rfl)) (sa_t (sa_t (sa_t (sa_t (sa_t (sa_t (sa_t sa_rf (sa_ui [1] rfl (fr_X8_step (q := q1) e2))) (sa_ui [] rfl (fr_X8_value (q := q4) e5))) (sa_ui [] rfl (fr_X8_kind (q := q7) e8))) (sa_ui [] rfl (fr_X11_isUnder (q := q27) e28))) (sa_ui [1, 2, 3] rfl (fr_X8_takeNumber (q := q50) e51))) (sa_ui [1, 2, 3] rfl (fr_X8_take (q := q54) e55))) (sa_ui [1, 2, 3] rfl (fr_X8_takeNumber (q := q58) e59))))))))))))))))) (fun h49 => (fh_bd h49 fun q66 e67 h68 => (fh_gd h68 fun g70 h69 => (fq_rt h69 (sa_t (sa_t (sa_t (sa_t (sa_t sa_rf (sa_ui [1] rfl (fr_X8_step (q := q1) e2))) (sa_ui [] rfl (fr_X8_value (q := q4) e5))) (sa_ui [] rfl (fr_X8_kind (q := q7) e8))) (sa_ui [] rfl (fr_X11_isUnder (q := q27) e28))) (sa_ui [2, 3] rfl (fr_X8_fail (q := q66) e67))))))))))))) (fun h10 => (fh_bd h10 fun q11 e12 h13 => (fq_if h13 (fun h14 => (fq_rt h14 (sa_t (sa_t (sa_t (sa_t sa_rf (sa_ui [1] rfl (fr_X8_step (q := q1) e2))) (sa_ui [] rfl (fr_X8_value (q := q4) e5))) (sa_ui [] rfl (fr_X8_kind (q := q7) e8))) (sa_ui [1, 2, 3] rfl (fr_X8_takeNumber (q := q11) e12))))) (fun h14 => (fh_bd h14 fun q15 e16 h17 => (fq_if h17 (fun h18 => (fq_rt h18 (sa_t (sa_t (sa_t (sa_t (sa_t sa_rf (sa_ui [1] rfl (fr_X8_step (q := q1) e2))) (sa_ui [] rfl (fr_X8_value (q := q4) e5))) (sa_ui [] rfl (fr_X8_kind (q := q7) e8))) (sa_ui [1, 2, 3] rfl (fr_X8_takeNumber (q := q11) e12))) (sa_ui [1, 2, 3] rfl (fr_X8_take (q := q15) e16))))) (fun h18 => (fh_bd h18 fun q19 e20 h21 => (fh_gd h21 fun g23 h22 => (fh_gd h22 fun g25 h24 => (fq_if h24 (fun h26 => (fq_rt h26 (sa_si (wi_at 0 rfl (Or.inl rfl)) (sa_t (sa_t (sa_t (sa_t (sa_t (sa_t sa_rf (sa_ui [1] rfl (fr_X8_step (q := q1) e2))) (sa_ui [] rfl (fr_X8_value (q := q4) e5))) (sa_ui [] rfl (fr_X8_kind (q := q7) e8))) (sa_ui [1, 2, 3] rfl (fr_X8_takeNumber (q := q11) e12))) (sa_ui [1, 2, 3] rfl (fr_X8_take (q := q15) e16))) (sa_ui [1, 2, 3] rfl (fr_X8_takeNumber (q := q19) e20)))))) (fun h26 => (fq_rt h26 (sa_si (wi_at 0 rfl (Or.inl rfl)) (sa_t (sa_t (sa_t (sa_t (sa_t (sa_t sa_rf (sa_ui [1] rfl (fr_X8_step (q := q1) e2))) (sa_ui [] rfl (fr_X8_value (q := q4) e5))) (sa_ui [] rfl (fr_X8_kind (q := q7) e8))) (sa_ui [1, 2, 3] rfl (fr_X8_takeNumber (q := q11) e12))) (sa_ui [1, 2, 3] rfl (fr_X8_take (q := q15) e16))) (sa_ui [1, 2, 3] rfl (fr_X8_takeNumber (q := q19) e20)))))))))))))))))))))
def w_X5_readHours (o : Nat) : List (Nat × Nat × Nat) := [(o, o, 8), (o, o, 9), (1, 1, 7), (1, 1, 8), (1, 1, 9)]
set_option maxRecDepth 100000 in
theorem fr_X5_readHours {o : Nat}  {m : fm_} {q : Int32 × fm_} (h : f_X5_readHours o  m = some q) : sa_ (w_X5_readHours o) m q.2 :=
  (fq_if h (fun h1 => (fh_bd h1 fun q2 e3 h4 => (fh_bd h4 fun q5 e6 h7 => (fq_if h7 (fun h8 => (fq_rt h8 (sa_si (wi_at 0 rfl (Or.inr rfl)) (sa_t (sa_t sa_rf (sa_ui [2] rfl (fr_X8_step (q := q2) e3))) (sa_ui [2, 3, 4] rfl (fr_X8_takeNumber (q := q5) e6)))))) (fun h8 => (fh_bd h8 fun q9 e10 h11 => (fq_if h11 (fun h12 => (fq_rt h12 (sa_t (sa_si (wi_at 0 rfl (Or.inr rfl)) (sa_t (sa_t sa_rf (sa_ui [2] rfl (fr_X8_step (q := q2) e3))) (sa_ui [2, 3, 4] rfl (fr_X8_takeNumber (q := q5) e6)))) (sa_ui [2, 3, 4] rfl (fr_X8_take (q := q9) e10))))) (fun h12 => (fh_bd h12 fun q13 e14 h15 => (fq_if h15 (fun h16 => (fq_rt h16 (sa_si (wi_at 1 rfl (Or.inr rfl)) (sa_t (sa_t (sa_si (wi_at 0 rfl (Or.inr rfl)) (sa_t (sa_t sa_rf (sa_ui [2] rfl (fr_X8_step (q := q2) e3))) (sa_ui [2, 3, 4] rfl (fr_X8_takeNumber (q := q5) e6)))) (sa_ui [2, 3, 4] rfl (fr_X8_take (q := q9) e10))) (sa_ui [2, 3, 4] rfl (fr_X8_takeNumber (q := q13) e14)))))) (fun h16 => (fq_rt h16 (sa_si (wi_at 1 rfl (Or.inr rfl)) (sa_t (sa_t (sa_si (wi_at 0 rfl (Or.inr rfl)) (sa_t (sa_t sa_rf (sa_ui [2] rfl (fr_X8_step (q := q2) e3))) (sa_ui [2, 3, 4] rfl (fr_X8_takeNumber (q := q5) e6)))) (sa_ui [2, 3, 4] rfl (fr_X8_take (q := q9) e10))) (sa_ui [2, 3, 4] rfl (fr_X8_takeNumber (q := q13) e14)))))))))))))))) (fun h1 => (fh_bd h1 fun q17 e18 h19 => (fh_gd h19 fun g21 h20 => (fq_rt h20 (sa_t sa_rf (sa_ui [3, 4] rfl (fr_X8_fail (q := q17) e18))))))))
def w_X5_readFree (o : Nat) : List (Nat × Nat × Nat) := [(o, o, 11), (1, 1, 7), (1, 1, 8), (1, 1, 9)]
set_option maxRecDepth 100000 in
theorem fr_X5_readFree {o : Nat}  {m : fm_} {q : Int32 × fm_} (h : f_X5_readFree o  m = some q) : sa_ (w_X5_readFree o) m q.2 :=
  (fq_if h (fun h1 => (fh_bd h1 fun q2 e3 h4 => (fq_rt h4 (sa_si (wi_at 0 rfl (Or.inr rfl)) (sa_t sa_rf (sa_ui [1] rfl (fr_X8_step (q := q2) e3))))))) (fun h1 => (fh_bd h1 fun q5 e6 h7 => (fh_gd h7 fun g9 h8 => (fq_rt h8 (sa_t sa_rf (sa_ui [2, 3] rfl (fr_X8_fail (q := q5) e6))))))))
def w_X5_readGrace (o : Nat) : List (Nat × Nat × Nat) := [(o, o, 10), (1, 1, 7), (1, 1, 8), (1, 1, 9)]
set_option maxRecDepth 100000 in
theorem fr_X5_readGrace {o : Nat}  {m : fm_} {q : Int32 × fm_} (h : f_X5_readGrace o  m = some q) : sa_ (w_X5_readGrace o) m q.2 :=
  (fq_if h (fun h1 => (fh_bd h1 fun q2 e3 h4 => (fh_bd h4 fun q5 e6 h7 => (fq_if h7 (fun h8 => (fq_rt h8 (sa_si (wi_at 0 rfl (Or.inr rfl)) (sa_t (sa_t sa_rf (sa_ui [1] rfl (fr_X8_step (q := q2) e3))) (sa_ui [1, 2, 3] rfl (fr_X8_takeNumber (q := q5) e6)))))) (fun h8 => (fq_rt h8 (sa_si (wi_at 0 rfl (Or.inr rfl)) (sa_t (sa_t sa_rf (sa_ui [1] rfl (fr_X8_step (q := q2) e3))) (sa_ui [1, 2, 3] rfl (fr_X8_takeNumber (q := q5) e6)))))))))) (fun h1 => (fh_bd h1 fun q9 e10 h11 => (fh_gd h11 fun g13 h12 => (fq_rt h12 (sa_t sa_rf (sa_ui [2, 3] rfl (fr_X8_fail (q := q9) e10))))))))
def w_X5_readAppeal (o : Nat) : List (Nat × Nat × Nat) := [(o, o, 12), (1, 1, 7), (1, 1, 8), (1, 1, 9)]
set_option maxRecDepth 100000 in
theorem fr_X5_readAppeal {o : Nat}  {m : fm_} {q : Int32 × fm_} (h : f_X5_readAppeal o  m = some q) : sa_ (w_X5_readAppeal o) m q.2 :=
  (fq_if h (fun h1 => (fh_bd h1 fun q2 e3 h4 => (fq_rt h4 (sa_si (wi_at 0 rfl (Or.inr rfl)) (sa_t sa_rf (sa_ui [1] rfl (fr_X8_step (q := q2) e3))))))) (fun h1 => (fh_bd h1 fun q5 e6 h7 => (fh_gd h7 fun g9 h8 => (fq_rt h8 (sa_t sa_rf (sa_ui [2, 3] rfl (fr_X8_fail (q := q5) e6))))))))
def w_X5_readHead (o : Nat) : List (Nat × Nat × Nat) := [(o, o, 10), (o, o, 11), (o, o, 12), (o, o, 6), (o, o, 8), (o, o, 9), (o + 2, o + 2, 0), (o + 3, o + 3, 0), (o + 4, o + 4, 0), (1, 1, 7), (1, 1, 8), (1, 1, 9)]
set_option maxRecDepth 100000 in
theorem fr_X5_readHead {o : Nat}  {m : fm_} {q : Int32 × fm_} (h : f_X5_readHead o  m = some q) : sa_ (w_X5_readHead o) m q.2 :=
  (fq_if h (fun h1 => (fh_bd h1 fun q2 e3 h4 => (fh_gd h4 fun g6 h5 => (fq_rt h5 (sa_t sa_rf (sa_ui [8, 9, 10, 11] rfl (fr_X5_readCharge (q := q2) e3))))))) (fun h1 => (fq_if h1 (fun h7 => (fh_bd h7 fun q8 e9 h10 => (fh_gd h10 fun g12 h11 => (fq_rt h11 (sa_t sa_rf (sa_ui [4, 5, 9, 10, 11] rfl (fr_X5_readHours (q := q8) e9))))))) (fun h7 => (fq_if h7 (fun h13 => (fh_bd h13 fun q14 e15 h16 => (fh_gd h16 fun g18 h17 => (fq_rt h17 (sa_t sa_rf (sa_ui [1, 9, 10, 11] rfl (fr_X5_readFree (q := q14) e15))))))) (fun h13 => (fq_if h13 (fun h19 => (fh_bd h19 fun q20 e21 h22 => (fh_gd h22 fun g24 h23 => (fq_rt h23 (sa_t sa_rf (sa_ui [0, 9, 10, 11] rfl (fr_X5_readGrace (q := q20) e21))))))) (fun h19 => (fq_if h19 (fun h25 => (fh_bd h25 fun q26 e27 h28 => (fh_gd h28 fun g30 h29 => (fq_rt h29 (sa_t sa_rf (sa_ui [2, 9, 10, 11] rfl (fr_X5_readAppeal (q := q26) e27))))))) (fun h25 => (fq_if h25 (fun h31 => (fh_bd h31 fun q32 e33 h34 => (fh_gd h34 fun g36 h35 => (fq_rt h35 (sa_t sa_rf (sa_ui [3, 6, 7, 9, 10, 11] rfl (fr_X5_readClass (q := q32) e33))))))) (fun h31 => (fh_bd h31 fun q37 e38 h39 => (fh_gd h39 fun g41 h40 => (fq_rt h40 (sa_t sa_rf (sa_ui [10, 11] rfl (fr_X8_fail (q := q37) e38))))))))))))))))))
def w_X5_mayAsk : List (Nat × Nat × Nat) := []
set_option maxRecDepth 100000 in
theorem fr_X5_mayAsk {p1 : Int32} {m : fm_} {q : Int32 × fm_} (h : f_X5_mayAsk p1 m = some q) : sa_ w_X5_mayAsk m q.2 :=
  (fq_if h (fun h1 => (fq_if h1 (fun h2 => (fq_rt h2 sa_rf)) (fun h2 => (fq_rt h2 sa_rf)))) (fun h1 => (fq_if h1 (fun h3 => (fq_if h3 (fun h6 => (fq_rt h6 sa_rf)) (fun h6 => (fq_rt h6 sa_rf)))) (fun h3 => (fq_if h3 (fun h4 => (fq_if h4 (fun h5 => (fq_rt h5 sa_rf)) (fun h5 => (fq_rt h5 sa_rf)))) (fun h4 => (fq_rt h4 sa_rf)))))))
def w_X5_readUnit (o : Nat) : List (Nat × Nat × Nat) := [(o, o, 3), (o + 1, o + 1, 0), (1, 1, 7), (1, 1, 8), (1, 1, 9), (68, 68, 4)]
set_option maxRecDepth 100000 in
theorem fr_X5_readUnit {o : Nat}  {m : fm_} {q : Int32 × fm_} (h : f_X5_readUnit o  m = some q) : sa_ (w_X5_readUnit o) m q.2 :=
  (fh_bd h fun q1 e2 h3 => (fq_if h3 (fun h4 => (fq_if h4 (fun h5 => (fq_if h5 (fun h11 => (fh_bd h11 fun q12 e13 h14 => (fh_bd h14 fun q15 e16 h17 => (fh_bd h17 fun q18 e19 h20 => (fq_rt h20 (sa_t (sa_t (sa_t (sa_si (wi_at 5 rfl (Or.inr rfl)) (sa_t sa_rf (sa_ui [] rfl (fr_X8_kind (q := q1) e2)))) (sa_ui [] rfl (fr_X8_value (q := q12) e13))) (sa_ui [0, 1] rfl (fr_X4_addStep (q := q15) e16))) (sa_ui [2] rfl (fr_X8_step (q := q18) e19)))))))) (fun h11 => (fh_bd h11 fun q21 e22 h23 => (fh_gd h23 fun g25 h24 => (fq_rt h24 (sa_t (sa_t sa_rf (sa_ui [] rfl (fr_X8_kind (q := q1) e2))) (sa_ui [3, 4] rfl (fr_X8_fail (q := q21) e22))))))))) (fun h5 => (fh_bd h5 fun q6 e7 h8 => (fh_gd h8 fun g10 h9 => (fq_rt h9 (sa_t (sa_t sa_rf (sa_ui [] rfl (fr_X8_kind (q := q1) e2))) (sa_ui [3, 4] rfl (fr_X8_fail (q := q6) e7))))))))) (fun h4 => (fq_if h4 (fun h26 => (fq_if h26 (fun h27 => (fq_if h27 (fun h33 => (fh_bd h33 fun q34 e35 h36 => (fh_bd h36 fun q37 e38 h39 => (fh_bd h39 fun q40 e41 h42 => (fq_rt h42 (sa_t (sa_t (sa_t (sa_si (wi_at 5 rfl (Or.inr rfl)) (sa_t sa_rf (sa_ui [] rfl (fr_X8_kind (q := q1) e2)))) (sa_ui [] rfl (fr_X8_value (q := q34) e35))) (sa_ui [0, 1] rfl (fr_X4_addStep (q := q37) e38))) (sa_ui [2] rfl (fr_X8_step (q := q40) e41)))))))) (fun h33 => (fh_bd h33 fun q43 e44 h45 => (fh_gd h45 fun g47 h46 => (fq_rt h46 (sa_t (sa_t sa_rf (sa_ui [] rfl (fr_X8_kind (q := q1) e2))) (sa_ui [3, 4] rfl (fr_X8_fail (q := q43) e44))))))))) (fun h27 => (fh_bd h27 fun q28 e29 h30 => (fh_gd h30 fun g32 h31 => (fq_rt h31 (sa_t (sa_t sa_rf (sa_ui [] rfl (fr_X8_kind (q := q1) e2))) (sa_ui [3, 4] rfl (fr_X8_fail (q := q28) e29))))))))) (fun h26 => (fq_if h26 (fun h48 => (fh_bd h48 fun q49 e50 h51 => (fq_if h51 (fun h52 => (fh_bd h52 fun q59 e60 h61 => (fh_gd h61 fun g63 h62 => (fq_rt h62 (sa_t (sa_t (sa_t sa_rf (sa_ui [] rfl (fr_X8_kind (q := q1) e2))) (sa_ui [] rfl (fr_X5_mayAsk (q := q49) e50))) (sa_ui [3, 4] rfl (fr_X8_fail (q := q59) e60))))))) (fun h52 => (fh_bd h52 fun q53 e54 h55 => (fh_bd h55 fun q56 e57 h58 => (fq_rt h58 (sa_t (sa_t (sa_si (wi_at 5 rfl (Or.inr rfl)) (sa_t (sa_t sa_rf (sa_ui [] rfl (fr_X8_kind (q := q1) e2))) (sa_ui [] rfl (fr_X5_mayAsk (q := q49) e50)))) (sa_ui [0, 1] rfl (fr_X4_addStep (q := q53) e54))) (sa_ui [2] rfl (fr_X8_step (q := q56) e57)))))))))) (fun h48 => (fh_bd h48 fun q64 e65 h66 => (fh_gd h66 fun g68 h67 => (fq_rt h67 (sa_t (sa_t sa_rf (sa_ui [] rfl (fr_X8_kind (q := q1) e2))) (sa_ui [3, 4] rfl (fr_X8_fail (q := q64) e65)))))))))))))
def w_X5_readComparison (o : Nat) : List (Nat × Nat × Nat) := [(o, o, 3), (o + 1, o + 1, 0), (1, 1, 7), (1, 1, 8), (1, 1, 9), (68, 68, 4)]
def PF_X5_readComparison (o : Nat) (s : S_X5_readComparison) (q : Int32 × fm_) : Prop := match s with
  | Sum.inl ((x1, x2, x3, m)) => sa_ (w_X5_readComparison o) m q.2
  | Sum.inr (Sum.inl ((x1, x2, x3, m))) => sa_ (w_X5_readComparison o) m q.2
  | Sum.inr (Sum.inr (Sum.inl ((x1, x2, x3, x4, m)))) => sa_ (w_X5_readComparison o) m q.2
  | Sum.inr (Sum.inr (Sum.inr (Sum.inl ((x1, x2, x3, x4, m))))) => sa_ (w_X5_readComparison o) m q.2
  | Sum.inr (Sum.inr (Sum.inr (Sum.inr (Sum.inl ((x1, x2, x3, x4, m)))))) => sa_ (w_X5_readComparison o) m q.2
  | Sum.inr (Sum.inr (Sum.inr (Sum.inr (Sum.inr ((x1, x2, x3, x4, m)))))) => sa_ (w_X5_readComparison o) m q.2
theorem fl_X5_readComparison {o : Nat} (s : S_X5_readComparison) (q : Int32 × fm_) (h : am_lp (st_X5_readComparison o) s = some q) : PF_X5_readComparison o s q :=
  am_lp_snd (P := PF_X5_readComparison o) (fun K hK s q h => match s, h with
    | Sum.inl ((x1, x2, x3, m)), h => (fr_if h (fun h1 => (fr_rt h1 sa_rf)) (fun h1 => (fj_bd h1 fun q2 e3 h4 => (fr_if h4 (fun h5 => (fr_rt h5 (sa_t sa_rf (sa_ui [0, 1, 2, 3, 4, 5] rfl (fr_X5_readUnit (q := q2) e3))))) (fun h5 => (fr_if h5 (fun h6 => (sa_t (sa_t sa_rf (sa_ui [0, 1, 2, 3, 4, 5] rfl (fr_X5_readUnit (q := q2) e3))) (hK _ _ h6 :))) (fun h6 => (fj_bd h6 fun q7 e8 h9 => (sa_t (sa_t (sa_t sa_rf (sa_ui [0, 1, 2, 3, 4, 5] rfl (fr_X5_readUnit (q := q2) e3))) (sa_ui [0, 1] rfl (fr_X4_addStep (q := q7) e8))) (hK _ _ h9 :))))))))))
    | Sum.inr (Sum.inl ((x1, x2, x3, m))), h => (fj_bd h fun q1 e2 h3 => (fr_if h3 (fun h4 => (sa_t (sa_t sa_rf (sa_ui [] rfl (fr_X8_kind (q := q1) e2))) (hK _ _ h4 :))) (fun h4 => (fr_if h4 (fun h5 => (sa_t (sa_t sa_rf (sa_ui [] rfl (fr_X8_kind (q := q1) e2))) (hK _ _ h5 :))) (fun h5 => (fr_if h5 (fun h6 => (sa_t (sa_t sa_rf (sa_ui [] rfl (fr_X8_kind (q := q1) e2))) (hK _ _ h6 :))) (fun h6 => (fj_bd h6 fun q7 e8 h9 => (fr_rt h9 (sa_t (sa_t sa_rf (sa_ui [] rfl (fr_X8_kind (q := q1) e2))) (sa_ui [0, 1] rfl (fr_X4_addStep (q := q7) e8))))))))))))
    | Sum.inr (Sum.inr (Sum.inl ((x1, x2, x3, x4, m)))), h => (fr_if h (fun h1 => (fr_if h1 (fun h2 => (sa_t sa_rf (hK _ _ h2 :))) (fun h2 => (fj_bd h2 fun q3 e4 h5 => (fr_rt h5 (sa_t sa_rf (sa_ui [0, 1] rfl (fr_X4_addStep (q := q3) e4)))))))) (fun h1 => (sa_t sa_rf (hK _ _ h1 :))))
    | Sum.inr (Sum.inr (Sum.inr (Sum.inl ((x1, x2, x3, x4, m))))), h => (fr_if h (fun h1 => (fr_if h1 (fun h2 => (sa_t sa_rf (hK _ _ h2 :))) (fun h2 => (fr_if h2 (fun h3 => (sa_t sa_rf (hK _ _ h3 :))) (fun h3 => (fr_if h3 (fun h4 => (sa_t sa_rf (hK _ _ h4 :))) (fun h4 => (fj_bd h4 fun q5 e6 h7 => (fj_gd h7 fun g9 h8 => (fr_rt h8 (sa_t sa_rf (sa_ui [3, 4] rfl (fr_X8_fail (q := q5) e6))))))))))))) (fun h1 => (sa_t sa_rf (hK _ _ h1 :))))
    | Sum.inr (Sum.inr (Sum.inr (Sum.inr (Sum.inl ((x1, x2, x3, x4, m)))))), h => (sa_t sa_rf (hK _ _ h :))
    | Sum.inr (Sum.inr (Sum.inr (Sum.inr (Sum.inr ((x1, x2, x3, x4, m)))))), h => (fj_bd h fun q1 e2 h3 => (sa_t (sa_t sa_rf (sa_ui [2] rfl (fr_X8_step (q := q1) e2))) (hK _ _ h3 :)))) s q h
set_option maxRecDepth 100000 in
theorem fr_X5_readComparison {o : Nat}  {m : fm_} {q : Int32 × fm_} (h : f_X5_readComparison o  m = some q) : sa_ (w_X5_readComparison o) m q.2 :=
  (sa_t sa_rf (fl_X5_readComparison _ _ h :))
