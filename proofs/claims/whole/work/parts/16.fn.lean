/-! ===== functions over memory: what a method does, as a plain function ===== -/
abbrev fm_ : Type := (Nat → Nat → Int32) × (Nat → Nat → Int64)
def gi_ (m : fm_) (a k : Nat) : Int32 := m.1 a k
def gl_ (m : fm_) (a k : Nat) : Int64 := m.2 a k
def si_ (m : fm_) (a k : Nat) (x : Int32) : fm_ := (am_u m.1 a k x, m.2)
def sl_ (m : fm_) (a k : Nat) (x : Int64) : fm_ := (m.1, am_u m.2 a k x)
abbrev mk_ (n : Nat) (r : Nat → Nat → Option Nat) (m : fm_) : am_W := (n, m.1, m.2, r)
def gd_ {R : Type} (b : Bool) (x : Option R) : Option R := match b with
  | true => x
  | false => none
def om_ {R : Type} (o : Option Nat) (a : Option R) (f : Nat → Option R) : Option R := match o with
  | none => a
  | some x => f x
def ix_ (i : Int32) (n : Nat) : Bool := !(decide (i < 0) || Nat.ble n i.toNatClampNeg)
def nz_ (y : Int32) : Bool := !(decide (y = 0))
def bl_ (y : Int32) : Bool := decide (y = 0) || decide (y = 1)
def ab_ (x : Int32) : Int32 := if 0 ≤ x then x else 0 - x
def mx_ (x y : Int32) : Int32 := if x < y then y else x
def mn_ (x y : Int32) : Int32 := if y < x then y else x
theorem ix_t {i : Int32} {n : Nat} (h : ix_ i n = true) : vp_in i n := by
  unfold ix_ at h
  simp only [Bool.not_eq_true', Bool.or_eq_false_iff, decide_eq_false_iff_not] at h
  intro q
  rcases q with q | q
  · exact h.1 q
  · rw [Nat.ble_eq_true_of_le q] at h
    cases h.2
theorem ix_i {i : Int32} {n : Nat} (h : vp_in i n) : ix_ i n = true := by
  unfold ix_
  have h1 : ¬ i < 0 := fun q => h (Or.inl q)
  have h2 : Nat.ble n i.toNatClampNeg = false := by
    cases hb : Nat.ble n i.toNatClampNeg with
    | false => rfl
    | true => exact absurd (Or.inr (Nat.le_of_ble_eq_true hb)) h
  rw [h2, decide_eq_false h1]
  rfl
theorem nz_t {y : Int32} (h : nz_ y = true) : ¬ y = 0 := by
  unfold nz_ at h
  simpa using h
theorem bl_t {y : Int32} (h : bl_ y = true) : y = 0 ∨ y = 1 := by
  unfold bl_ at h
  simpa using h
theorem gd_t {R : Type} {b : Bool} {x : Option R} (h : b = true) : gd_ b x = x := by rw [h]; rfl
theorem gd_u {R : Type} {b : Bool} {x : Option R} {q : R} (h : gd_ b x = some q) : b = true ∧ x = some q := by
  cases b with
  | true => exact ⟨rfl, h⟩
  | false => cases h
def en_i (q : Int32 × fm_) : Option Value × fm_ := (some (.int q.1), q.2)
def en_v (q : Int32 × fm_) : Option Value × fm_ := (none, q.2)
def en_r (q : Option Nat × fm_) : Option Value × fm_ := (some (am_rv q.1), q.2)
/-! loops: the least function that goes on as the step says -/
def am_k {S R : Type} (K : S → Option R) : Option (S ⊕ R) → Option R
  | none => none
  | some (Sum.inl s) => K s
  | some (Sum.inr r) => some r
def am_it {S R : Type} (st : S → Option (S ⊕ R)) : Nat → S → Option R
  | 0, _ => none
  | n + 1, s => am_k (am_it st n) (st s)
theorem am_it_up {S R : Type} {st : S → Option (S ⊕ R)} : ∀ (n : Nat) {s : S} {r : R}, am_it st n s = some r → am_it st (n + 1) s = some r
  | 0, _, _, h => by cases h
  | n + 1, s, r, h => by
    unfold am_it at h ⊢
    generalize st s = o at h ⊢
    match o, h with
    | some (Sum.inl s1), h => exact am_it_up n h
    | some (Sum.inr r1), h => exact h
theorem am_it_le {S R : Type} {st : S → Option (S ⊕ R)} {n k : Nat} (hk : n ≤ k) {s : S} {r : R} (h : am_it st n s = some r) : am_it st k s = some r := by
  induction hk with
  | refl => exact h
  | step _ ih => exact am_it_up _ ih
noncomputable def am_lp {S R : Type} (st : S → Option (S ⊕ R)) (s : S) : Option R :=
  Classical.epsilon (fun o : Option R => (∃ n r, am_it st n s = some r ∧ o = some r) ∨ ((¬ ∃ n r, am_it st n s = some r) ∧ o = none))
theorem am_lp_sp {S R : Type} (st : S → Option (S ⊕ R)) (s : S) : (∃ n r, am_it st n s = some r ∧ am_lp st s = some r) ∨ ((¬ ∃ n r, am_it st n s = some r) ∧ am_lp st s = none) := by
  refine Classical.epsilon_spec (p := fun o : Option R => (∃ n r, am_it st n s = some r ∧ o = some r) ∨ ((¬ ∃ n r, am_it st n s = some r) ∧ o = none)) ?_
  by_cases h : ∃ n r, am_it st n s = some r
  · obtain ⟨n, r, h⟩ := h
    exact ⟨some r, Or.inl ⟨n, r, h, rfl⟩⟩
  · exact ⟨none, Or.inr ⟨h, rfl⟩⟩
theorem am_lp_of {S R : Type} {st : S → Option (S ⊕ R)} {s : S} {n : Nat} {r : R} (h : am_it st n s = some r) : am_lp st s = some r := by
  rcases am_lp_sp st s with ⟨k, r1, h1, h2⟩ | ⟨h1, _⟩
  · have a := am_it_le (Nat.le_max_left n k) h
    have b := am_it_le (Nat.le_max_right n k) h1
    rw [a] at b
    cases b
    exact h2
  · exact absurd ⟨n, r, h⟩ h1
theorem am_lp_it {S R : Type} {st : S → Option (S ⊕ R)} {s : S} {r : R} (h : am_lp st s = some r) : ∃ n, am_it st n s = some r := by
  rcases am_lp_sp st s with ⟨k, r1, h1, h2⟩ | ⟨_, h2⟩
  · rw [h] at h2
    cases h2
    exact ⟨k, h1⟩
  · rw [h] at h2
    cases h2
theorem am_lp_eq {S R : Type} (st : S → Option (S ⊕ R)) (s : S) : am_lp st s = am_k (am_lp st) (st s) := by
  cases ho : am_lp st s with
  | some r =>
    obtain ⟨n, hn⟩ := am_lp_it ho
    match n, hn with
    | n + 1, hn =>
      unfold am_it at hn
      generalize st s = o at hn ⊢
      match o, hn with
      | some (Sum.inl s1), hn => exact (am_lp_of hn).symm
      | some (Sum.inr r1), hn => exact hn.symm
  | none =>
    cases hs : am_k (am_lp st) (st s) with
    | none => rfl
    | some r =>
      exfalso
      have key : ∃ n, am_it st n s = some r := by
        cases hss : st s with
        | none => rw [hss] at hs; cases hs
        | some o =>
          cases o with
          | inl s1 =>
            rw [hss] at hs
            obtain ⟨n, hn⟩ := am_lp_it (st := st) (s := s1) hs
            exact ⟨n + 1, by unfold am_it; rw [hss]; exact hn⟩
          | inr r1 =>
            rw [hss] at hs
            exact ⟨1, by unfold am_it; rw [hss]; exact hs⟩
      obtain ⟨n, hn⟩ := key
      rw [am_lp_of hn] at ho
      cases ho
theorem am_lp_snd {S R : Type} {st : S → Option (S ⊕ R)} {P : S → R → Prop} (h : ∀ K : S → Option R, (∀ s q, K s = some q → P s q) → ∀ s q, am_k K (st s) = some q → P s q) (s : S) (q : R) (hs : am_lp st s = some q) : P s q := by
  obtain ⟨n, hn⟩ := am_lp_it hs
  have gen : ∀ n s q, am_it st n s = some q → P s q := by
    intro n
    induction n with
    | zero => intro s q h; cases h
    | succ n ih => intro s q hh; exact h (am_it st n) ih s q hh
  exact gen n s q hn
/-! reading a function's answer -/
theorem fh_if {R : Type} {c : Prop} {d : Decidable c} {a b : Option R} {q : R} {A B : Prop} (h : @ite _ c d a b = some q) (h1 : c → a = some q → A) (h2 : ¬ c → b = some q → B) : (c → A) ∧ (¬ c → B) :=
  ⟨fun hc => h1 hc (by rw [if_pos hc] at h; exact h), fun hc => h2 hc (by rw [if_neg hc] at h; exact h)⟩
theorem fh_in {R : Type} {c : Prop} {d : Decidable c} {a b : Option R} {q : R} {A B : Prop} (h : @ite _ c d a b = some q) (h1 : ¬ c → b = some q → A) (h2 : c → a = some q → B) : (¬ c → A) ∧ (c → B) :=
  ⟨fun hc => h1 hc (by rw [if_neg hc] at h; exact h), fun hc => h2 hc (by rw [if_pos hc] at h; exact h)⟩
theorem fh_gd {R : Type} {b : Bool} {x : Option R} {q : R} {A : Prop} (h : gd_ b x = some q) (k : b = true → x = some q → A) : A := k (gd_u h).1 (gd_u h).2
theorem fh_bd {T R : Type} {o : Option T} {f : T → Option R} {q : R} {A : Prop} (h : Option.bind o f = some q) (k : ∀ y, o = some y → f y = some q → A) : A := by
  cases o with
  | none => cases h
  | some y => exact k y rfl h
theorem fh_om {R : Type} {o : Option Nat} {a : Option R} {f : Nat → Option R} {q : R} {A : Prop} (h : om_ o a f = some q) (k1 : o = none → a = some q → A) (k2 : ∀ x, o = some x → f x = some q → A) : A := by
  cases o with
  | none => exact k1 rfl h
  | some y => exact k2 y rfl h
theorem fh_rt {T : Type} {a q : T × fm_} {e : T × fm_ → Option Value × fm_} {n : Nat} {r : Nat → Nat → Option Nat} {Q : Option Value → am_W → Prop} (h : some a = some q) (hQ : Q (e q).1 (mk_ n r q.2)) : Q (e a).1 (mk_ n r a.2) := by
  cases h
  exact hQ
theorem fj_if {S R : Type} {K : S → Option R} {c : Prop} {d : Decidable c} {a b : Option (S ⊕ R)} {q : R} {A B : Prop} (h : am_k K (@ite _ c d a b) = some q) (h1 : c → am_k K a = some q → A) (h2 : ¬ c → am_k K b = some q → B) : (c → A) ∧ (¬ c → B) :=
  ⟨fun hc => h1 hc (by rw [if_pos hc] at h; exact h), fun hc => h2 hc (by rw [if_neg hc] at h; exact h)⟩
theorem fj_in {S R : Type} {K : S → Option R} {c : Prop} {d : Decidable c} {a b : Option (S ⊕ R)} {q : R} {A B : Prop} (h : am_k K (@ite _ c d a b) = some q) (h1 : ¬ c → am_k K b = some q → A) (h2 : c → am_k K a = some q → B) : (¬ c → A) ∧ (c → B) :=
  ⟨fun hc => h1 hc (by rw [if_neg hc] at h; exact h), fun hc => h2 hc (by rw [if_pos hc] at h; exact h)⟩
theorem fj_gd {S R : Type} {K : S → Option R} {b : Bool} {x : Option (S ⊕ R)} {q : R} {A : Prop} (h : am_k K (gd_ b x) = some q) (k : b = true → am_k K x = some q → A) : A := by
  cases b with
  | true => exact k rfl h
  | false => cases h
theorem fj_bd {S T R : Type} {K : S → Option R} {o : Option T} {f : T → Option (S ⊕ R)} {q : R} {A : Prop} (h : am_k K (Option.bind o f) = some q) (k : ∀ y, o = some y → am_k K (f y) = some q → A) : A := by
  cases o with
  | none => cases h
  | some y => exact k y rfl h
theorem fj_om {S R : Type} {K : S → Option R} {o : Option Nat} {a : Option (S ⊕ R)} {f : Nat → Option (S ⊕ R)} {q : R} {A : Prop} (h : am_k K (om_ o a f) = some q) (k1 : o = none → am_k K a = some q → A) (k2 : ∀ x, o = some x → am_k K (f x) = some q → A) : A := by
  cases o with
  | none => exact k1 rfl h
  | some y => exact k2 y rfl h
theorem fj_rt {S T : Type} {K : S → Option (T × fm_)} {a q : T × fm_} {e : T × fm_ → Option Value × fm_} {n : Nat} {r : Nat → Nat → Option Nat} {Q : Option Value → am_W → Prop} (h : am_k K (some (Sum.inr a)) = some q) (hQ : Q (e q).1 (mk_ n r q.2)) : Q (e a).1 (mk_ n r a.2) := by
  cases h
  exact hQ
theorem fe_if {S R : Type} {K : S → Option R} {c : Prop} {d : Decidable c} {a b : Option (S ⊕ R)} {a1 b1 : Option R} (h1 : am_k K a = a1) (h2 : am_k K b = b1) : am_k K (@ite _ c d a b) = @ite _ c d a1 b1 := by
  by_cases hc : c
  · rw [if_pos hc, if_pos hc]; exact h1
  · rw [if_neg hc, if_neg hc]; exact h2
theorem fe_gd {S R : Type} {K : S → Option R} {b : Bool} {x : Option (S ⊕ R)} {y : Option R} (h : am_k K x = y) : am_k K (gd_ b x) = gd_ b y := by
  cases b with
  | true => exact h
  | false => rfl
theorem fe_bd {S T R : Type} {K : S → Option R} {o : Option T} {f : T → Option (S ⊕ R)} {g : T → Option R} (h : ∀ q, am_k K (f q) = g q) : am_k K (Option.bind o f) = Option.bind o g := by
  cases o with
  | none => rfl
  | some y => exact h y
theorem fe_om {S R : Type} {K : S → Option R} {o : Option Nat} {a : Option (S ⊕ R)} {f : Nat → Option (S ⊕ R)} {a1 : Option R} {g : Nat → Option R} (h1 : am_k K a = a1) (h : ∀ x, am_k K (f x) = g x) : am_k K (om_ o a f) = om_ o a1 g := by
  cases o with
  | none => exact h1
  | some y => exact h y
/-! specs out of functions -/
def fn_s (F : Nat → (Nat → Nat → Option Nat) → Prop) (G : Nat → (Nat → Nat → Option Nat) → List Value → fm_ → Option (Option Value × fm_)) : List Value → am_W → (Option Value → am_W → Prop) → Prop :=
  fun as w K => F w.1 w.2.2.2 ∧ ∃ y m1, G w.1 w.2.2.2 as (w.2.1, w.2.2.1) = some (y, m1) ∧ K y (mk_ w.1 w.2.2.2 m1)
theorem fn_s_mono {F : Nat → (Nat → Nat → Option Nat) → Prop} {G : Nat → (Nat → Nat → Option Nat) → List Value → fm_ → Option (Option Value × fm_)} {as : List Value} {w : am_W} {Y Z : Option Value → am_W → Prop} (h : ∀ r w1, Y r w1 → Z r w1) (k : fn_s F G as w Y) : fn_s F G as w Z := by
  obtain ⟨a, y, m1, b, c⟩ := k
  exact ⟨a, y, m1, b, h _ _ c⟩
def fn_sp : List (Nat × (Nat → (Nat → Nat → Option Nat) → Prop) × (Nat → (Nat → Nat → Option Nat) → List Value → fm_ → Option (Option Value × fm_))) → am_S
  | [], _ => am_s0
  | q :: l, i => bif Nat.beq q.1 i then fn_s q.2.1 q.2.2 else fn_sp l i
theorem fn_sp_mono : ∀ (l : List (Nat × (Nat → (Nat → Nat → Option Nat) → Prop) × (Nat → (Nat → Nat → Option Nat) → List Value → fm_ → Option (Option Value × fm_)))), am_Smono (fn_sp l)
  | [] => fun i as w Y Z h k => k
  | q :: l => fun i as w Y Z h k => by
    unfold fn_sp at k ⊢
    cases hb : Nat.beq q.1 i with
    | true => rw [hb] at k; exact fn_s_mono h k
    | false => rw [hb] at k; exact fn_sp_mono l i as w Y Z h k
theorem fn_sp_no : ∀ (l : List (Nat × (Nat → (Nat → Nat → Option Nat) → Prop) × (Nat → (Nat → Nat → Option Nat) → List Value → fm_ → Option (Option Value × fm_)))), l.all (fun q => Nat.blt q.1 900) = true → ∀ i, 900 ≤ i → fn_sp l i = am_s0
  | [], _, _, _ => rfl
  | q :: l, h, i, hi => by
    rw [List.all_cons, Bool.and_eq_true] at h
    unfold fn_sp
    have hb : Nat.beq q.1 i = false := by
      cases hb : Nat.beq q.1 i with
      | false => rfl
      | true =>
        have e := Nat.eq_of_beq_eq_true hb
        have h1 : q.1 + 1 ≤ 900 := Nat.le_of_ble_eq_true h.1
        omega
    rw [hb]
    exact fn_sp_no l h.2 i hi
theorem fn_ext (la : Launch) (l : List (Nat × (Nat → (Nat → Nat → Option Nat) → Prop) × (Nat → (Nat → Nat → Option Nat) → List Value → fm_ → Option (Option Value × fm_)))) (h : l.all (fun q => Nat.blt q.1 900) = true) (g : am_G) (own : Nat) : am_ext la (fn_sp l) g own := by
  refine ⟨fun x j w K k => ?_, fun x w K k => ?_, fun ix w K _ k => ?_, fun ix w K _ k => ?_, fun kk as w K hk k => ?_⟩
  · rw [fn_sp_no l h 900 (by omega)] at k; exact k.elim
  · rw [fn_sp_no l h 901 (by omega)] at k; exact k.elim
  · rw [fn_sp_no l h 902 (by omega)] at k; exact k.elim
  · rw [fn_sp_no l h 905 (by omega)] at k; exact k.elim
  · rw [fn_sp_no l h kk (by omega)] at k; exact k.elim
theorem fn_mp {T U : Type} {o : Option T} {q : T} {f : T → U} (h : o = some q) : o.map f = some (f q) := by rw [h]; rfl
theorem fn_mu {T U : Type} {o : Option T} {y : U} {f : T → U} (h : o.map f = some y) : ∃ q, o = some q ∧ f q = y := by
  cases o with
  | none => cases h
  | some q => exact ⟨q, rfl, by cases h; rfl⟩
theorem fn_gd {T : Type} {b : Bool} {o : Option T} {y : T} (hb : b = true) (h : o = some y) : gd_ b o = some y := by rw [hb]; exact h
def fn_or {T : Type} (o : Option Nat) (f : Nat → Option T) : Option T := om_ o none f
theorem fn_68 {T : Type} {o : Option Nat} {x : Nat} {f : Nat → Option T} {y : T} (h : o = some x) (k : f x = some y) : fn_or o f = some y := by rw [h]; exact k
theorem fn_or_u {T : Type} {o : Option Nat} {f : Nat → Option T} {y : T} (h : fn_or o f = some y) : ∃ x, o = some x ∧ f x = some y := by
  cases o with
  | none => cases h
  | some x => exact ⟨x, rfl, h⟩
def fn_sl {T : Type} (n a : Nat) (o : Option (Nat × Nat)) (f : Nat → Option T) : Option T := match o with
  | some (0, L) => gd_ (Nat.blt a n) (f L)
  | _ => none
def fn_fl {T : Type} (n a : Nat) (f : Nat → Option T) : Option T := fn_sl n a (am_SH[a]?) f
theorem fn_fill {T : Type} {n a L : Nat} {f : Nat → Option T} {y : T} (hs : am_SH[a]? = some (0, L)) (ha : a < n) (h : f L = some y) : fn_fl n a f = some y := by
  unfold fn_fl
  rw [hs]
  exact fn_gd (Nat.ble_eq_true_of_le ha) h
theorem fn_fl_u {T : Type} {n a : Nat} {f : Nat → Option T} {y : T} (h : fn_fl n a f = some y) : ∃ L, am_SH[a]? = some (0, L) ∧ a < n ∧ f L = some y := by
  unfold fn_fl fn_sl at h
  split at h
  · next L hL =>
    obtain ⟨h1, h2⟩ := gd_u h
    exact ⟨L, hL, Nat.le_of_ble_eq_true h1, h2⟩
  · cases h
/-! skeletons -/
def fn_F (n : Nat) (r : Nat → Nat → Option Nat) : Prop := n = 168 ∧ ∀ x k t, am_fr x k = some t → r x k = some t
def fn_T (n : Nat) (r : Nat → Nat → Option Nat) : Prop := 18 ≤ n ∧ ∀ k t, am_fr 6 k = some t → r 6 k = some t
def fn_0 (_ : Nat) (_ : Nat → Nat → Option Nat) : Prop := True
def fn_U (n : Nat) (_ : Nat → Nat → Option Nat) : Prop := 82 < n
theorem fn_FT {n : Nat} {r : Nat → Nat → Option Nat} (h : fn_F n r) : fn_T n r := ⟨by rw [h.1]; omega, fun k t q => h.2 6 k t q⟩
theorem fn_FU {n : Nat} {r : Nat → Nat → Option Nat} (h : fn_F n r) : fn_U n r := by unfold fn_U; rw [h.1]; omega
theorem fn_aF {n : Nat} {r : Nat → Nat → Option Nat} (hf : fn_F n r) {x : Nat} {sh : Nat × Nat} (h : am_SH[x]? = some sh) {w : am_W} (hw : w.1 = n) : am_at w x sh := ⟨h, by
  have := (List.getElem?_eq_some_iff.mp h).1
  rw [am_len] at this
  rw [hw, hf.1]
  exact this⟩
theorem fn_aT {n : Nat} {r : Nat → Nat → Option Nat} (hf : fn_T n r) {x : Nat} {sh : Nat × Nat} (h : am_SH[x]? = some sh) (hx : Nat.blt x 18 = true) {w : am_W} (hw : w.1 = n) : am_at w x sh := ⟨h, by
  have h1 : x + 1 ≤ 18 := Nat.le_of_ble_eq_true hx
  have h2 := hf.1
  rw [hw]
  omega⟩
theorem fn_aU {n : Nat} {r : Nat → Nat → Option Nat} (hf : fn_U n r) {sh : Nat × Nat} (h : am_SH[82]? = some sh) {w : am_W} (hw : w.1 = n) : am_at w 82 sh := ⟨h, by rw [hw]; exact hf⟩
theorem fn_aA {n a L : Nat} (h : am_SH[a]? = some (0, L)) (ha : a < n) {w : am_W} (hw : w.1 = n) : am_at w a (0, L) := ⟨h, by rw [hw]; exact ha⟩
def is_O (o : Nat) : Bool := Nat.beq o 32 || Nat.beq o 38 || Nat.beq o 44 || Nat.beq o 50 || Nat.beq o 56 || Nat.beq o 62
def is_T (t : Nat) : Bool := Nat.beq t 6 || Nat.beq t 18
def is_C (c : Nat) : Bool := Nat.beq c 14 || Nat.beq c 15 || Nat.beq c 16 || Nat.beq c 17
theorem is_O_u {o : Nat} (h : is_O o = true) : o = 32 ∨ o = 38 ∨ o = 44 ∨ o = 50 ∨ o = 56 ∨ o = 62 := by
  unfold is_O at h
  simp only [Bool.or_eq_true] at h
  rcases h with ((((h | h) | h) | h) | h) | h <;> have h := Nat.eq_of_beq_eq_true h <;> omega
theorem is_T_u {o : Nat} (h : is_T o = true) : o = 6 ∨ o = 18 := by
  unfold is_T at h
  simp only [Bool.or_eq_true] at h
  rcases h with h | h <;> have h := Nat.eq_of_beq_eq_true h <;> omega
theorem is_C_u {o : Nat} (h : is_C o = true) : o = 14 ∨ o = 15 ∨ o = 16 ∨ o = 17 := by
  unfold is_C at h
  simp only [Bool.or_eq_true] at h
  rcases h with ((h | h) | h) | h <;> have h := Nat.eq_of_beq_eq_true h <;> omega
theorem fn_sO {o : Nat} (h : is_O o = true) : am_SH[o]? = some (5, 4) ∧ am_SH[o + 1]? = some (0, 400) ∧ am_SH[o + 2]? = some (0, 6) ∧ am_SH[o + 3]? = some (0, 6) ∧ am_SH[o + 4]? = some (0, 10) ∧ am_SH[o + 5]? = some (0, 51) := by
  rcases is_O_u h with rfl | rfl | rfl | rfl | rfl | rfl <;> decide +kernel
theorem fn_sT {t : Nat} (h : is_T t = true) : am_SH[t]? = some (5, 9) ∧ am_SH[t + 1]? = some (0, 24) ∧ am_SH[t + 2]? = some (0, 24) ∧ am_SH[t + 3]? = some (0, 24) ∧ am_SH[t + 4]? = some (0, 8) ∧ am_SH[t + 5]? = some (0, 8) ∧ am_SH[t + 6]? = some (0, 8) := by
  rcases is_T_u h with rfl | rfl <;> decide +kernel
theorem fn_sC {c : Nat} (h : is_C c = true) : am_SH[c]? = some (0, 144) ∧ Nat.blt c 18 = true := by
  rcases is_C_u h with rfl | rfl | rfl | rfl <;> decide +kernel
theorem fn_fO {o : Nat} (h : is_O o = true) : am_fr o 1 = some (o + 1) ∧ am_fr o 3 = some (o + 2) ∧ am_fr o 4 = some (o + 3) ∧ am_fr o 6 = some (o + 4) ∧ am_fr o 12 = some (o + 5) := by
  rcases is_O_u h with rfl | rfl | rfl | rfl | rfl | rfl <;> decide +kernel
theorem fn_fT {t : Nat} (h : is_T t = true) : am_fr t 0 = some (t + 1) ∧ am_fr t 1 = some (t + 2) ∧ am_fr t 2 = some (t + 3) ∧ am_fr t 5 = some (t + 4) ∧ am_fr t 6 = some (t + 5) ∧ am_fr t 7 = some (t + 6) := by
  rcases is_T_u h with rfl | rfl <;> decide +kernel
section FNA
variable {n : Nat} {r : Nat → Nat → Option Nat} {o t c : Nat} {w : am_W}
theorem fn_aO0 (hf : fn_F n r) (h : is_O o = true) (hw : w.1 = n) : am_at w o (5, 4) := fn_aF hf (fn_sO h).1 hw
theorem fn_aO1 (hf : fn_F n r) (h : is_O o = true) (hw : w.1 = n) : am_at w (o + 1) (0, 400) := fn_aF hf (fn_sO h).2.1 hw
theorem fn_aO2 (hf : fn_F n r) (h : is_O o = true) (hw : w.1 = n) : am_at w (o + 2) (0, 6) := fn_aF hf (fn_sO h).2.2.1 hw
theorem fn_aO3 (hf : fn_F n r) (h : is_O o = true) (hw : w.1 = n) : am_at w (o + 3) (0, 6) := fn_aF hf (fn_sO h).2.2.2.1 hw
theorem fn_aO4 (hf : fn_F n r) (h : is_O o = true) (hw : w.1 = n) : am_at w (o + 4) (0, 10) := fn_aF hf (fn_sO h).2.2.2.2.1 hw
theorem fn_aO5 (hf : fn_F n r) (h : is_O o = true) (hw : w.1 = n) : am_at w (o + 5) (0, 51) := fn_aF hf (fn_sO h).2.2.2.2.2 hw
theorem fn_sO4 (h : is_O o = true) : am_SH[o + 4]? = some (0, 10) := (fn_sO h).2.2.2.2.1
theorem fn_rO1 (hf : fn_F n r) (h : is_O o = true) : r o 1 = some (o + 1) := hf.2 _ _ _ (fn_fO h).1
theorem fn_rO3 (hf : fn_F n r) (h : is_O o = true) : r o 3 = some (o + 2) := hf.2 _ _ _ (fn_fO h).2.1
theorem fn_rO4 (hf : fn_F n r) (h : is_O o = true) : r o 4 = some (o + 3) := hf.2 _ _ _ (fn_fO h).2.2.1
theorem fn_rO6 (hf : fn_F n r) (h : is_O o = true) : r o 6 = some (o + 4) := hf.2 _ _ _ (fn_fO h).2.2.2.1
theorem fn_rO12 (hf : fn_F n r) (h : is_O o = true) : r o 12 = some (o + 5) := hf.2 _ _ _ (fn_fO h).2.2.2.2
theorem fn_at0 (hf : fn_F n r) (h : is_T t = true) (hw : w.1 = n) : am_at w t (5, 9) := fn_aF hf (fn_sT h).1 hw
theorem fn_at1 (hf : fn_F n r) (h : is_T t = true) (hw : w.1 = n) : am_at w (t + 1) (0, 24) := fn_aF hf (fn_sT h).2.1 hw
theorem fn_at2 (hf : fn_F n r) (h : is_T t = true) (hw : w.1 = n) : am_at w (t + 2) (0, 24) := fn_aF hf (fn_sT h).2.2.1 hw
theorem fn_at3 (hf : fn_F n r) (h : is_T t = true) (hw : w.1 = n) : am_at w (t + 3) (0, 24) := fn_aF hf (fn_sT h).2.2.2.1 hw
theorem fn_at4 (hf : fn_F n r) (h : is_T t = true) (hw : w.1 = n) : am_at w (t + 4) (0, 8) := fn_aF hf (fn_sT h).2.2.2.2.1 hw
theorem fn_at5 (hf : fn_F n r) (h : is_T t = true) (hw : w.1 = n) : am_at w (t + 5) (0, 8) := fn_aF hf (fn_sT h).2.2.2.2.2.1 hw
theorem fn_at6 (hf : fn_F n r) (h : is_T t = true) (hw : w.1 = n) : am_at w (t + 6) (0, 8) := fn_aF hf (fn_sT h).2.2.2.2.2.2 hw
theorem fn_rt0 (hf : fn_F n r) (h : is_T t = true) : r t 0 = some (t + 1) := hf.2 _ _ _ (fn_fT h).1
theorem fn_rt1 (hf : fn_F n r) (h : is_T t = true) : r t 1 = some (t + 2) := hf.2 _ _ _ (fn_fT h).2.1
theorem fn_rt2 (hf : fn_F n r) (h : is_T t = true) : r t 2 = some (t + 3) := hf.2 _ _ _ (fn_fT h).2.2.1
theorem fn_rt5 (hf : fn_F n r) (h : is_T t = true) : r t 5 = some (t + 4) := hf.2 _ _ _ (fn_fT h).2.2.2.1
theorem fn_rt6 (hf : fn_F n r) (h : is_T t = true) : r t 6 = some (t + 5) := hf.2 _ _ _ (fn_fT h).2.2.2.2.1
theorem fn_rt7 (hf : fn_F n r) (h : is_T t = true) : r t 7 = some (t + 6) := hf.2 _ _ _ (fn_fT h).2.2.2.2.2
theorem fn_aC (hf : fn_T n r) (h : is_C c = true) (hw : w.1 = n) : am_at w c (0, 144) := fn_aT hf (fn_sC h).1 (fn_sC h).2 hw
theorem fn_i6 {i : Int32} (h : ix_ i 6 = true) : i.toNatClampNeg < 6 := by
  have := ix_t h
  exact Nat.lt_of_not_le fun q => this (Or.inr q)
theorem fn_o31 {i : Int32} (h : ix_ i 6 = true) : is_O (32 + 6 * i.toNatClampNeg) = true := by
  have := fn_i6 h
  generalize i.toNatClampNeg = k at this ⊢
  match k, this with
  | 0, _ => rfl
  | 1, _ => rfl
  | 2, _ => rfl
  | 3, _ => rfl
  | 4, _ => rfl
  | 5, _ => rfl
theorem fn_r31 (hf : fn_F n r) {i : Int32} (h : ix_ i 6 = true) : r 31 i.toNatClampNeg = some (32 + 6 * i.toNatClampNeg) := by
  have := fn_i6 h
  generalize i.toNatClampNeg = k at this ⊢
  match k, this with
  | 0, _ => exact hf.2 _ _ _ rfl
  | 1, _ => exact hf.2 _ _ _ rfl
  | 2, _ => exact hf.2 _ _ _ rfl
  | 3, _ => exact hf.2 _ _ _ rfl
  | 4, _ => exact hf.2 _ _ _ rfl
  | 5, _ => exact hf.2 _ _ _ rfl
end FNA
/-- whom a method calls -/
def am_cs (M : am_M) : List Nat := (M.1.filter fun q => q.2.2.1 == 55 || q.2.2.1 == 61).map fun q => q.2.2.2.1
theorem am_cs_in {M : am_M} {q : am_Row} (hq : q ∈ M.1) (hk : q.2.2.1 = 55 ∨ q.2.2.1 = 61) : q.2.2.2.1 ∈ am_cs M := by
  refine List.mem_map.mpr ⟨q, List.mem_filter.mpr ⟨hq, ?_⟩, rfl⟩
  rcases hk with h | h <;> simp [h]
theorem am_no61 {M : am_M} (h : (M.1.all fun q => !(q.2.2.1 == 61)) = true) (q : am_Row) (hq : q ∈ M.1) : ¬ q.2.2.1 = 61 := by
  have := List.all_eq_true.mp h q hq
  intro h1
  simp [h1] at this
theorem am_rv_n {y : Option Nat} {K : Value → Prop} (h : y = none) (k : K .null) : am_rr (some (am_rv y)) K := by rw [h]; exact k
theorem am_rv_s {y : Option Nat} {o : Nat} {K : Value → Prop} (h : y = some o) (k : K (.ref o)) : am_rr (some (am_rv y)) K := by rw [h]; exact k
theorem fn_ltF {n : Nat} {r : Nat → Nat → Option Nat} (hf : fn_F n r) {x : Nat} {sh : Nat × Nat} (h : am_SH[x]? = some sh) : x < n := (fn_aF hf h (w := mk_ n r (fun _ _ => 0, fun _ _ => 0)) rfl).2
theorem fn_ltT {n : Nat} {r : Nat → Nat → Option Nat} (hf : fn_T n r) {x : Nat} (h : Nat.blt x 18 = true) : x < n := by
  have h1 : x + 1 ≤ 18 := Nat.le_of_ble_eq_true h
  have h2 := hf.1
  omega
/-! what lies outside the world, at its abstract places: 1001 the row of digits' worths, 2000 + k the k-th String constant -/
def fx_dwl : List Int32 := [1, 11, 121, 1331, 14641, 161051, 1771561]
def fx_dwf (k : Nat) : Int32 := fx_dwl.getD k 0
def fx_six : List Nat := [103, 109, 111, 113, 115, 117, 119, 121, 123, 125, 127, 129, 131, 133, 135, 137, 139, 141, 143, 144, 146, 148, 150]
def fx_txt : List String := ["way", "zone", "camera", "class", "charge", "hours", "free", "grace", "appeal", "from", "to", "is", "when", "or", "and", "not", "fuel", "norm", "kind", "home", "day", "minute", "entries"]
def fx_wds : List (List Int32) := [[119, 97, 121], [122, 111, 110, 101], [99, 97, 109, 101, 114, 97], [99, 108, 97, 115, 115], [99, 104, 97, 114, 103, 101], [104, 111, 117, 114, 115], [102, 114, 101, 101], [103, 114, 97, 99, 101], [97, 112, 112, 101, 97, 108], [102, 114, 111, 109], [116, 111], [105, 115], [119, 104, 101, 110], [111, 114], [97, 110, 100], [110, 111, 116], [102, 117, 101, 108], [110, 111, 114, 109], [107, 105, 110, 100], [104, 111, 109, 101], [100, 97, 121], [109, 105, 110, 117, 116, 101], [101, 110, 116, 114, 105, 101, 115]]
def fx_wd (k : Nat) : List Int32 := fx_wds.getD k []
def fx_dw (g : am_G) : Prop := va_T .int (am_ad g 1001) 7 (fun j => .int (fx_dwf j)) (am_A g) g.1 g.1.heap ∧ va_Z "AirZone" "DIGIT_WORTH" "[I" (.ref (am_ad g 1001)) (am_A g) g.1 g.1.heap
def fx_str (l : Launch) (g : am_G) : Prop := (∀ k, k < 23 → vk_R (am_ow 8) (fx_six.getD k 0) (fx_txt.getD k "") (am_ad g (2000 + k)) g.1) ∧
  (∀ k, k < 23 → am_vs l g 8 903 [.ref (2000 + k)] (nI (fx_wd k).length)) ∧
  (∀ k j, k < 23 → j < (fx_wd k).length → am_vs l g 8 904 [.ref (2000 + k), .int (nI j)] ((fx_wd k).getD j 0))
/-- what is known of the start -/
def fx_ (l : Launch) (g : am_G) : Prop := am_gok g ∧ fx_dw g ∧ fx_str l g
def fn_s2 (F : Nat → (Nat → Nat → Option Nat) → Prop) (G : Nat → (Nat → Nat → Option Nat) → List Value → fm_ → Option (Option Value × fm_)) : List Value → am_W → (Option Value → am_W → Prop) → Prop :=
  fun as w K => F w.1 w.2.2.2 ∧ ∃ y m1, G w.1 w.2.2.2 as (w.2.1, w.2.2.1) = some (y, m1) ∧ ∀ r1, fn_F w.1 r1 → K y (mk_ w.1 r1 m1)
theorem fn_s2_mono {F : Nat → (Nat → Nat → Option Nat) → Prop} {G : Nat → (Nat → Nat → Option Nat) → List Value → fm_ → Option (Option Value × fm_)} {as : List Value} {w : am_W} {Y Z : Option Value → am_W → Prop} (h : ∀ r w1, Y r w1 → Z r w1) (k : fn_s2 F G as w Y) : fn_s2 F G as w Z := by
  obtain ⟨a, y, m1, b, c⟩ := k
  exact ⟨a, y, m1, b, fun r1 h1 => h _ _ (c r1 h1)⟩
def fn_s2p (k : Nat) (G : Nat → (Nat → Nat → Option Nat) → List Value → fm_ → Option (Option Value × fm_)) (l : List (Nat × (Nat → (Nat → Nat → Option Nat) → Prop) × (Nat → (Nat → Nat → Option Nat) → List Value → fm_ → Option (Option Value × fm_)))) : am_S := fun i => bif Nat.beq k i then fn_s2 fn_F G else fn_sp l i
theorem fn_s2p_mono (k : Nat) (G : Nat → (Nat → Nat → Option Nat) → List Value → fm_ → Option (Option Value × fm_)) (l : List (Nat × (Nat → (Nat → Nat → Option Nat) → Prop) × (Nat → (Nat → Nat → Option Nat) → List Value → fm_ → Option (Option Value × fm_)))) : am_Smono (fn_s2p k G l) := by
  intro i as w Y Z h q
  unfold fn_s2p at q ⊢
  cases hb : Nat.beq k i with
  | true => rw [hb] at q; exact fn_s2_mono h q
  | false => rw [hb] at q; exact fn_sp_mono l i as w Y Z h q
theorem fn_s2p_ext (la : Launch) (k : Nat) (G : Nat → (Nat → Nat → Option Nat) → List Value → fm_ → Option (Option Value × fm_)) (hk : k < 900) (l : List (Nat × (Nat → (Nat → Nat → Option Nat) → Prop) × (Nat → (Nat → Nat → Option Nat) → List Value → fm_ → Option (Option Value × fm_)))) (h : l.all (fun q => Nat.blt q.1 900) = true) (g : am_G) (own : Nat) : am_ext la (fn_s2p k G l) g own := by
  have key : ∀ i, 900 ≤ i → fn_s2p k G l i = am_s0 := by
    intro i hi
    unfold fn_s2p
    have hb : Nat.beq k i = false := by
      cases hb : Nat.beq k i with
      | false => rfl
      | true => have e := Nat.eq_of_beq_eq_true hb; omega
    rw [hb]
    exact fn_sp_no l h i hi
  refine ⟨fun x j w K k => ?_, fun x w K k => ?_, fun ix w K _ k => ?_, fun ix w K _ k => ?_, fun kk as w K hk k => ?_⟩
  · rw [key 900 (by omega)] at k; exact k.elim
  · rw [key 901 (by omega)] at k; exact k.elim
  · rw [key 902 (by omega)] at k; exact k.elim
  · rw [key 905 (by omega)] at k; exact k.elim
  · rw [key kk (by omega)] at k; exact k.elim
theorem fn_u681 {r : Nat → Nat → Option Nat} {o : Nat} : am_u r 68 1 (some o) 68 1 = some o := rfl
theorem fn_fr681 : am_fr 68 1 = none := by decide +kernel
theorem fn_Fu {n : Nat} {r : Nat → Nat → Option Nat} (hf : fn_F n r) (o : Nat) : fn_F n (am_u r 68 1 (some o)) := by
  refine ⟨hf.1, fun x k t h => ?_⟩
  have hne : ¬ (x = 68 ∧ k = 1) := fun q => by rw [q.1, q.2, fn_fr681] at h; cases h
  exact (am_u_at hne).trans (hf.2 x k t h)
/-! what lies outside, as functions -/
noncomputable def Gx_ (f : Nat → Int32 → fm_ → Option (Int32 × fm_)) (_ : Nat) (r : Nat → Nat → Option Nat) (as : List Value) (m : fm_) : Option (Option Value × fm_) := match as with
  | [.ref x0, .int p1] => gd_ (Nat.beq x0 68) (fn_or (r 68 1) fun o => gd_ (is_O o) ((f o p1 m).map en_i))
  | _ => none
def G902_ (_ : Nat) (_ : Nat → Nat → Option Nat) (as : List Value) (m : fm_) : Option (Option Value × fm_) := match as with
  | [.int v] => gd_ (Nat.beq v.toNatClampNeg 164) (some (some (.ref 1001), m))
  | _ => none
def G900_ (_ : Nat) (_ : Nat → Nat → Option Nat) (as : List Value) (m : fm_) : Option (Option Value × fm_) := match as with
  | [.ref x, .int j] => gd_ (Nat.beq x 1001) (gd_ (ix_ j 7) (some (some (.int (fx_dwf j.toNatClampNeg)), m)))
  | _ => none
def fx_pos (v : Nat) : List Nat → Nat → Option Nat
  | [], _ => none
  | x :: l, k => bif Nat.beq x v then some k else fx_pos v l (k + 1)
def G905_ (_ : Nat) (_ : Nat → Nat → Option Nat) (as : List Value) (m : fm_) : Option (Option Value × fm_) := match as with
  | [.int v] => fn_or (fx_pos v.toNatClampNeg fx_six 0) fun k => some (some (.ref (2000 + k)), m)
  | _ => none
def fn_sk {T : Type} (s : Nat) (f : Nat → Option T) : Option T := gd_ (Nat.ble 2000 s && Nat.blt s 2023) (f (s - 2000))
theorem fn_sk_u {T : Type} {s : Nat} {f : Nat → Option T} {y : T} (h : fn_sk s f = some y) : ∃ k, k < 23 ∧ s = 2000 + k ∧ f k = some y := by
  obtain ⟨h1, h2⟩ := gd_u h
  rw [Bool.and_eq_true] at h1
  have a := Nat.le_of_ble_eq_true h1.1
  have b : s + 1 ≤ 2023 := Nat.le_of_ble_eq_true h1.2
  exact ⟨s - 2000, by omega, by omega, h2⟩
theorem fn_sk_i {T : Type} {k : Nat} (hk : k < 23) {f : Nat → Option T} : fn_sk (2000 + k) f = f k := by
  unfold fn_sk
  have a : Nat.ble 2000 (2000 + k) = true := Nat.ble_eq_true_of_le (by omega)
  have b : Nat.blt (2000 + k) 2023 = true := Nat.ble_eq_true_of_le (by omega)
  rw [a, b, Nat.add_sub_cancel_left]
  rfl
def G903_ (_ : Nat) (_ : Nat → Nat → Option Nat) (as : List Value) (m : fm_) : Option (Option Value × fm_) := match as with
  | [.ref s] => fn_sk s fun k => some (some (.int (nI (fx_wd k).length)), m)
  | _ => none
def G904_ (_ : Nat) (_ : Nat → Nat → Option Nat) (as : List Value) (m : fm_) : Option (Option Value × fm_) := match as with
  | [.ref s, .int j] => fn_sk s fun k => gd_ (ix_ j (fx_wd k).length) (some (some (.int ((fx_wd k).getD j.toNatClampNeg 0)), m))
  | _ => none
section FXG
variable {n : Nat} {r : Nat → Nat → Option Nat} {m : fm_}
theorem g902_ : G902_ n r [.int 164] m = some (some (.ref 1001), m) := rfl
theorem g900_ {j : Int32} (h : ix_ j 7 = true) : G900_ n r [.ref 1001, .int j] m = some (some (.int (fx_dwf j.toNatClampNeg)), m) := by
  show gd_ (Nat.beq 1001 1001) (gd_ (ix_ j 7) (some (some (Value.int (fx_dwf j.toNatClampNeg)), m))) = _
  rw [gd_t (b := Nat.beq 1001 1001) (by decide +kernel), gd_t h]
theorem g903_ {k : Nat} (hk : k < 23) : G903_ n r [.ref (2000 + k)] m = some (some (.int (nI (fx_wd k).length)), m) := by
  unfold G903_
  exact fn_sk_i hk
theorem g904_ {k : Nat} {j : Int32} (hk : k < 23) (h : ix_ j (fx_wd k).length = true) : G904_ n r [.ref (2000 + k), .int j] m = some (some (.int ((fx_wd k).getD j.toNatClampNeg 0)), m) := by
  unfold G904_
  exact (fn_sk_i hk).trans (gd_t h)
theorem g905_0 : G905_ n r [.int 103] m = some (some (.ref 2000), m) := rfl
theorem g905_1 : G905_ n r [.int 109] m = some (some (.ref 2001), m) := rfl
theorem g905_2 : G905_ n r [.int 111] m = some (some (.ref 2002), m) := rfl
theorem g905_3 : G905_ n r [.int 113] m = some (some (.ref 2003), m) := rfl
theorem g905_4 : G905_ n r [.int 115] m = some (some (.ref 2004), m) := rfl
theorem g905_5 : G905_ n r [.int 117] m = some (some (.ref 2005), m) := rfl
theorem g905_6 : G905_ n r [.int 119] m = some (some (.ref 2006), m) := rfl
theorem g905_7 : G905_ n r [.int 121] m = some (some (.ref 2007), m) := rfl
theorem g905_8 : G905_ n r [.int 123] m = some (some (.ref 2008), m) := rfl
theorem g905_9 : G905_ n r [.int 125] m = some (some (.ref 2009), m) := rfl
theorem g905_10 : G905_ n r [.int 127] m = some (some (.ref 2010), m) := rfl
theorem g905_11 : G905_ n r [.int 129] m = some (some (.ref 2011), m) := rfl
theorem g905_12 : G905_ n r [.int 131] m = some (some (.ref 2012), m) := rfl
theorem g905_13 : G905_ n r [.int 133] m = some (some (.ref 2013), m) := rfl
theorem g905_14 : G905_ n r [.int 135] m = some (some (.ref 2014), m) := rfl
theorem g905_15 : G905_ n r [.int 137] m = some (some (.ref 2015), m) := rfl
theorem g905_16 : G905_ n r [.int 139] m = some (some (.ref 2016), m) := rfl
theorem g905_17 : G905_ n r [.int 141] m = some (some (.ref 2017), m) := rfl
theorem g905_18 : G905_ n r [.int 143] m = some (some (.ref 2018), m) := rfl
theorem g905_19 : G905_ n r [.int 144] m = some (some (.ref 2019), m) := rfl
theorem g905_20 : G905_ n r [.int 146] m = some (some (.ref 2020), m) := rfl
theorem g905_21 : G905_ n r [.int 148] m = some (some (.ref 2021), m) := rfl
theorem g905_22 : G905_ n r [.int 150] m = some (some (.ref 2022), m) := rfl
end FXG
theorem fx_link : Cond.fieldLinkNest (am_ow 6) 164 "AirZone" "DIGIT_WORTH" "[I" "AirZone" ∈ am_TB := am_tb_in (am_pos_in (p := 1087) (by decide +kernel)) rfl
theorem fx_pos_u (v : Nat) : ∀ (l : List Nat) (b : Nat) (k : Nat), fx_pos v l b = some k → ∃ j, k = b + j ∧ l[j]? = some v
  | [], _, _, h => by cases h
  | x :: l, b, k, h => by
    unfold fx_pos at h
    cases hb : Nat.beq x v with
    | true =>
      rw [hb] at h
      cases h
      exact ⟨0, rfl, by rw [Nat.eq_of_beq_eq_true hb]; rfl⟩
    | false =>
      rw [hb] at h
      obtain ⟨j, h1, h2⟩ := fx_pos_u v l (b + 1) k h
      exact ⟨j + 1, by omega, h2⟩
theorem fx_ofNat {ix : Nat} (h : ix < 65536) : (Int32.ofNat ix).toNatClampNeg = ix := nI_clamp (n := ix) (by omega)
/-- the row of digits' worths is outside -/
theorem fx_e6 {l : Launch} {g : am_G} (hg : fx_ l g) : am_ext l (fn_sp [(900, fn_0, G900_), (902, fn_0, G902_)]) g 6 := by
  refine ⟨fun x j w K k => ?_, fun x w K k => ?_, fun ix w K hi k => ?_, fun ix w K _ k => ?_, fun kk as w K hk k => ?_⟩
  · have k : fn_s fn_0 G900_ [.ref x, .int j] w K := k
    obtain ⟨-, y, m1, hG, hK⟩ := k
    obtain ⟨hx, hG1⟩ := gd_u (show gd_ (Nat.beq x 1001) _ = some (y, m1) from hG)
    obtain ⟨hj, hG2⟩ := gd_u hG1
    obtain rfl := Nat.eq_of_beq_eq_true hx
    clear hG hG1
    cases hG2
    exact ⟨7, fx_dwf, Or.inr hg.2.1.1, ix_t hj, hK⟩
  · exact (show False from k).elim
  · have k : fn_s fn_0 G902_ [.int (Int32.ofNat ix)] w K := k
    obtain ⟨-, y, m1, hG, hK⟩ := k
    obtain ⟨hx, hG⟩ := gd_u (show gd_ (Nat.beq (Int32.ofNat ix).toNatClampNeg 164) _ = some (y, m1) from hG)
    have hx := Nat.eq_of_beq_eq_true hx
    rw [fx_ofNat hi] at hx
    subst hx
    cases hG
    exact ⟨.ref 1001, "AirZone", "DIGIT_WORTH", "[I", hK, hg.2.1.2, Or.inr fx_link⟩
  · exact (show False from k).elim
  · rcases hk with rfl | rfl
    · exact (show False from k).elim
    · exact (show False from k).elim
theorem fn_sp_none : ∀ (l : List (Nat × (Nat → (Nat → Nat → Option Nat) → Prop) × (Nat → (Nat → Nat → Option Nat) → List Value → fm_ → Option (Option Value × fm_)))) (i : Nat), l.all (fun q => !(Nat.beq q.1 i)) = true → fn_sp l i = am_s0
  | [], _, _ => rfl
  | q :: l, i, h => by
    rw [List.all_cons, Bool.and_eq_true] at h
    unfold fn_sp
    have hb : Nat.beq q.1 i = false := by
      cases hb : Nat.beq q.1 i with
      | false => rfl
      | true => rw [hb] at h; cases h.1
    rw [hb]
    exact fn_sp_none l i h.2
theorem fx_e8w {l : Launch} {g : am_G} (hg : fx_ l g) (F : Nat → (Nat → Nat → Option Nat) → Prop) (G : Nat → (Nat → Nat → Option Nat) → List Value → fm_ → Option (Option Value × fm_)) : am_ext l (fn_sp [(110, F, G), (905, fn_0, G905_)]) g 8 := by
  refine ⟨fun x j w K k => (show False from k).elim, fun x w K k => (show False from k).elim, fun ix w K hi k => (show False from k).elim, fun ix w K hi k => ?_, fun kk as w K hk k => ?_⟩
  · have k : fn_s fn_0 G905_ [.int (Int32.ofNat ix)] w K := k
    obtain ⟨-, y, m1, hG, hK⟩ := k
    obtain ⟨k, hp, hG⟩ := fn_or_u (show fn_or (fx_pos (Int32.ofNat ix).toNatClampNeg fx_six 0) _ = some (y, m1) from hG)
    rw [fx_ofNat hi] at hp
    obtain ⟨j, hj, hl⟩ := fx_pos_u ix fx_six 0 k hp
    rw [Nat.zero_add] at hj
    subst hj
    have hk : k < 23 := (List.getElem?_eq_some_iff.mp hl).1
    cases hG
    have h1 := hg.2.2.1 k hk
    rw [List.getD_eq_getElem?_getD, hl] at h1
    exact ⟨2000 + k, fx_txt.getD k "", hK, h1⟩
  · rcases hk with rfl | rfl
    · exact (show False from k).elim
    · exact (show False from k).elim
theorem fx_e8s {l : Launch} {g : am_G} (hg : fx_ l g) (F : Nat → (Nat → Nat → Option Nat) → Prop) (G : Nat → (Nat → Nat → Option Nat) → List Value → fm_ → Option (Option Value × fm_)) : am_ext l (fn_sp [(101, F, G), (903, fn_0, G903_), (904, fn_0, G904_)]) g 8 := by
  refine ⟨fun x j w K k => (show False from k).elim, fun x w K k => (show False from k).elim, fun ix w K hi k => (show False from k).elim, fun ix w K hi k => (show False from k).elim, fun kk as w K hk k => ?_⟩
  rcases hk with rfl | rfl
  · have k : fn_s fn_0 G903_ as w K := k
    obtain ⟨-, y, m1, hG, hK⟩ := k
    unfold G903_ at hG
    split at hG
    · obtain ⟨kz, hk, hs, hG1⟩ := fn_sk_u hG
      clear hG
      subst hs
      cases hG1
      exact ⟨_, hK, hg.2.2.2.1 kz hk⟩
    · cases hG
  · have k : fn_s fn_0 G904_ as w K := k
    obtain ⟨-, y, m1, hG, hK⟩ := k
    unfold G904_ at hG
    split at hG
    · obtain ⟨kz, hk, hs, hG1⟩ := fn_sk_u hG
      obtain ⟨hj, hG2⟩ := gd_u hG1
      clear hG hG1
      have hl : (fx_wd kz).length < 2 ^ 31 := by
        have : ∀ k, k < 23 → (fx_wd k).length < 2 ^ 31 := by decide +kernel
        exact this kz hk
      obtain ⟨j, hj1, rfl⟩ := vp_in_of (ix_t hj) hl
      subst hs
      cases hG2
      rw [nI_clamp (by omega)] at hK
      exact ⟨_, hK, hg.2.2.2.2 kz j hk hj1⟩
    · cases hG
theorem am_swc {x : Int32} {Y : Nat → Prop} {d : Nat} {q : Int32 × Nat} {l : List (Int32 × Nat)} (h : (x = q.1 → Y q.2) ∧ (¬ x = q.1 → am_sw x Y d l)) : am_sw x Y d (q :: l) := h
theorem am_swn {x : Int32} {Y : Nat → Prop} {d : Nat} (h : Y d) : am_sw x Y d [] := h
theorem fh_t {R : Type} {c : Prop} {d : Decidable c} {a b : Option R} {q : R} (h : @ite _ c d a b = some q) (hc : c) : a = some q := by rw [if_pos hc] at h; exact h
theorem fh_f {R : Type} {c : Prop} {d : Decidable c} {a b : Option R} {q : R} (h : @ite _ c d a b = some q) (hc : ¬ c) : b = some q := by rw [if_neg hc] at h; exact h
theorem fj_t {S R : Type} {K : S → Option R} {c : Prop} {d : Decidable c} {a b : Option (S ⊕ R)} {q : R} (h : am_k K (@ite _ c d a b) = some q) (hc : c) : am_k K a = some q := by rw [if_pos hc] at h; exact h
theorem fj_f {S R : Type} {K : S → Option R} {c : Prop} {d : Decidable c} {a b : Option (S ⊕ R)} {q : R} (h : am_k K (@ite _ c d a b) = some q) (hc : ¬ c) : am_k K b = some q := by rw [if_neg hc] at h; exact h
theorem gp_Gx {f : Nat → Int32 → fm_ → Option (Int32 × fm_)} {n : Nat} {r : Nat → Nat → Option Nat} {o : Nat} {p1 : Int32} {m : fm_} {q : Int32 × fm_} (hr : r 68 1 = some o) (ho : is_O o = true) (e : f o p1 m = some q) : Gx_ f n r [.ref 68, .int p1] m = some (en_i q) := fn_gd rfl (fn_68 hr (fn_gd ho (fn_mp e)))
