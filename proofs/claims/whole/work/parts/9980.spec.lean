/-! ===== what orders ask: read by descent ===== -/
abbrev ers_ : Type := Sum (Nat × Nat) (cd_ × Nat × List tkn_)
def runt_ (al : Nat → Bool) (u : Nat) : List tkn_ → Sum (Nat × Nat) ((Nat × Nat) × List tkn_)
  | [] => .inl (1, 0)
  | t :: r => if (t.1 = 2 ∨ 120 ≤ t.1) ∧ u < 50 then (if t.1 = 2 then .inr ((0, t.2.1), r) else if al (t.1 - 119) = true then .inr ((t.1 - 119, 0), r) else .inl (flt_ 6 t)) else .inl (flt_ 2 t)
theorem runt_l {al : Nat → Bool} {u : Nat} {t : tkn_} {r : List tkn_} : runt_ al u (t :: r) = if (t.1 = 2 ∨ 120 ≤ t.1) ∧ u < 50 then (if t.1 = 2 then .inr ((0, t.2.1), r) else if al (t.1 - 119) = true then .inr ((t.1 - 119, 0), r) else .inl (flt_ 6 t)) else .inl (flt_ 2 t) := rfl
def jnc_ (j : Nat) : cd_ := if j = 0 then [] else [(j, 0)]
def cmo_ (k : Nat) : Nat := if k = 61 then 23 else if k = 60 then 24 else 25
def rcp_ (al : Nat → Bool) : Nat → Nat → Nat → Nat → cd_ → List tkn_ → ers_
  | 0, _, _, _, _, _ => .inl (1, 0)
  | n + 1, cm, jn, u, S, ts => sbd_ (runt_ al u ts) fun q => match q.2 with
    | [] => .inl (1, 0)
    | t :: r => if t.1 = 43 ∨ t.1 = 45 then rcp_ al n cm (if t.1 = 43 then 26 else 27) (u + 1) (S ++ [q.1] ++ jnc_ jn) r
      else if cm = 0 then (if t.1 = 60 ∨ t.1 = 62 ∨ t.1 = 61 then rcp_ al n (cmo_ t.1) 0 (u + 1) (S ++ [q.1] ++ jnc_ jn) r else .inl (flt_ 2 t))
      else .inr (S ++ [q.1] ++ jnc_ jn ++ [(cm, 0)], u + 1, t :: r)
theorem rcp_e {al : Nat → Bool} {n cm jn u : Nat} {S : cd_} {ts : List tkn_} {f : Nat × Nat} (h : runt_ al u ts = .inl f) : rcp_ al (n + 1) cm jn u S ts = .inl f := by
  show sbd_ (runt_ al u ts) _ = _
  rw [h]
  rfl
theorem rcp_s {al : Nat → Bool} {n cm jn u : Nat} {S : cd_} {ts : List tkn_} {x : Nat × Nat} {t : tkn_} {r : List tkn_} (h : runt_ al u ts = .inr (x, t :: r)) : rcp_ al (n + 1) cm jn u S ts = if t.1 = 43 ∨ t.1 = 45 then rcp_ al n cm (if t.1 = 43 then 26 else 27) (u + 1) (S ++ [x] ++ jnc_ jn) r
      else if cm = 0 then (if t.1 = 60 ∨ t.1 = 62 ∨ t.1 = 61 then rcp_ al n (cmo_ t.1) 0 (u + 1) (S ++ [x] ++ jnc_ jn) r else .inl (flt_ 2 t))
      else .inr (S ++ [x] ++ jnc_ jn ++ [(cm, 0)], u + 1, t :: r) := by
  show sbd_ (runt_ al u ts) _ = _
  rw [h]
  rfl
def eit_ (one : Nat → cd_ → List tkn_ → ers_) : Nat → Bool → Bool → Nat → cd_ → List tkn_ → ers_
  | 0, _, _, _, _, _ => .inl (1, 0)
  | n + 1, a, b, u, S, ts => sbd_ (one u S ts) fun q => match q.2.2 with
    | [] => .inl (1, 0)
    | t :: r => if t.1 = 113 then eit_ one n true b q.2.1 (q.1 ++ (if a = true then [(22, 0)] else [])) r
      else if t.1 = 112 then eit_ one n false true q.2.1 (q.1 ++ (if a = true then [(22, 0)] else []) ++ (if b = true then [(21, 0)] else [])) r
      else .inr (q.1 ++ (if a = true then [(22, 0)] else []) ++ (if b = true then [(21, 0)] else []), q.2.1, t :: r)
theorem eit_e {one : Nat → cd_ → List tkn_ → ers_} {n : Nat} {a b : Bool} {u : Nat} {S : cd_} {ts : List tkn_} {f : Nat × Nat} (h : one u S ts = .inl f) : eit_ one (n + 1) a b u S ts = .inl f := by
  show sbd_ (one u S ts) _ = _
  rw [h]
  rfl
theorem eit_s {one : Nat → cd_ → List tkn_ → ers_} {n : Nat} {a b : Bool} {u u1 : Nat} {S S1 : cd_} {ts : List tkn_} {t : tkn_} {r : List tkn_} (h : one u S ts = .inr (S1, u1, t :: r)) : eit_ one (n + 1) a b u S ts = if t.1 = 113 then eit_ one n true b u1 (S1 ++ (if a = true then [(22, 0)] else [])) r
      else if t.1 = 112 then eit_ one n false true u1 (S1 ++ (if a = true then [(22, 0)] else []) ++ (if b = true then [(21, 0)] else [])) r
      else .inr (S1 ++ (if a = true then [(22, 0)] else []) ++ (if b = true then [(21, 0)] else []), u1, t :: r) := by
  show sbd_ (one u S ts) _ = _
  rw [h]
  rfl
/-- a one, where d more may lie within -/
def rne_ (al : Nat → Bool) : Nat → Nat → cd_ → List tkn_ → ers_
  | 0, u, S, ts => match ts with
    | [] => .inl (1, 0)
    | t :: r => if t.1 = 114 ∨ t.1 = 40 then .inl (flt_ 2 t) else rcp_ al 51 0 0 u S (t :: r)
  | d + 1, u, S, ts => match ts with
    | [] => .inl (1, 0)
    | t :: r => if t.1 = 114 then sbd_ (rne_ al d u S r) fun q => .inr (q.1 ++ [(20, 0)], q.2)
      else if t.1 = 40 then sbd_ (eit_ (rne_ al d) 51 false false u S r) fun q => sbd_ (tqk_ 41 q.2.2) fun r1 => .inr (q.1, q.2.1, r1)
      else rcp_ al 51 0 0 u S (t :: r)
theorem rne_0 {al : Nat → Bool} {u : Nat} {S : cd_} {t : tkn_} {r : List tkn_} : rne_ al 0 u S (t :: r) = if t.1 = 114 ∨ t.1 = 40 then .inl (flt_ 2 t) else rcp_ al 51 0 0 u S (t :: r) := rfl
theorem rne_s {al : Nat → Bool} {d u : Nat} {S : cd_} {t : tkn_} {r : List tkn_} : rne_ al (d + 1) u S (t :: r) = if t.1 = 114 then sbd_ (rne_ al d u S r) fun q => .inr (q.1 ++ [(20, 0)], q.2)
      else if t.1 = 40 then sbd_ (eit_ (rne_ al d) 51 false false u S r) fun q => sbd_ (tqk_ 41 q.2.2) fun r1 => .inr (q.1, q.2.1, r1)
      else rcp_ al 51 0 0 u S (t :: r) := rfl
/-! ===== the class: steps, units ===== -/
def stc_ (o : Nat) (B : List Int32) (S : cd_) (m : fm_) : Prop := gi_ m o 2 = nI (min (B.length + S.length) 400) ∧ ∀ i x, (B ++ S.map enc_)[i]? = some x → i < 400 → gi_ m (o + 1) i = x
def ofr_ (o : Nat) (m m1 : fm_) : Prop := ∀ a k, ¬ a = 1 → ¬ (a = 68 ∧ k = 3) → ¬ (a = o ∧ k = 2) → ¬ a = o + 1 → gi_ m1 a k = gi_ m a k
theorem ofr_r {o : Nat} {m : fm_} : ofr_ o m m := fun _ _ _ _ _ _ => rfl
theorem ofr_t {o : Nat} {m m1 m2 : fm_} (h : ofr_ o m m1) (k : ofr_ o m1 m2) : ofr_ o m m2 := fun a j h1 h2 h3 h4 => (k a j h1 h2 h3 h4).trans (h a j h1 h2 h3 h4)
theorem ofr_1 {o : Nat} {m m1 : fm_} (h : sa_ tfw_ m m1) : ofr_ o m m1 := fun a k h1 _ _ _ => sa_gi h (by
  cases hq : wi_ tfw_ a k with
  | false => rfl
  | true =>
    obtain ⟨q, hq, q1, q2, _⟩ := wi_mem.mp hq
    have : ∀ q ∈ tfw_, q.1 = 1 ∧ q.2.1 = 1 := by decide
    have := this q hq
    omega)
def cts_ (o : Nat) (B : List Int32) (ln u : Nat) (S : cd_) (ts : List tkn_) (m : fm_) : Prop := csn_ ts m ∧ stc_ o B S m ∧ gi_ m 68 3 = nI u ∧ gi_ m 68 2 = nI ln
theorem ads_c {o : Nat} (ho : 32 ≤ o) (ho2 : o ≤ 62) {B : List Int32} {ln u : Nat} {S : cd_} {ts : List tkn_} {m : fm_} (h : cts_ o B ln u S ts m) {x : Int32} (q : Nat × Nat) (hx : x = enc_ q) : ∃ m1, f_X4_addStep o x m = some (0, m1) ∧ cts_ o B ln u (S ++ [q]) ts m1 ∧ ofr_ o m m1 := by
  obtain ⟨h1, ⟨h2, h3⟩, h4, h5⟩ := h
  subst hx
  unfold f_X4_addStep
  by_cases c : B.length + S.length < 400
  · have e : min (B.length + S.length) 400 = B.length + S.length := Nat.min_eq_left (by omega)
    rw [e] at h2
    refine ⟨si_ (si_ m (o + 1) (B.length + S.length) (enc_ q)) o 2 (nI (B.length + S.length + 1)), ?_, ⟨csn_si (csn_si h1 (by omega)) (by omega), ⟨?_, fun i x hi hl => ?_⟩, ?_, ?_⟩, fun a k a1 a2 a3 a4 => ?_⟩
    · rw [h2, if_neg (show ¬ (400 : Int32) ≤ nI (B.length + S.length) from show ¬ nI 400 ≤ nI (B.length + S.length) from nI_ge c (by omega))]
      simp (disch := omega) only [↓reduceIte, ↓ns_m1, ns_let, ns_lef, ns_ltt, ns_ltf, ns_eqt, ns_eqf, ns_gd, nI_clamp, nI_add, pk_sub, pk_mul, ns_m1a, ns_m1b, ns_m1c, ns_m1d, ns_m1e, ns_m1f, ns_m1g, ns_un1, ns_un0, ns_day1, Option.bind_some, gi_si_self, gi_si_ne, gl_si, gi_sl, gl_sl_self, gl_sl_ne, if_true, if_false, ns_i0, ns_i1, ns_i2, ns_i3, ns_i4, ns_i5, ns_i6, ns_i7, ns_i8, ns_i9, ns_i10, ns_i11, ns_i12, ns_i13, ns_i20, ns_i23, ns_i24, ns_i31, ns_i50, ns_i60, ns_i99, ns_i100, ns_i144, ns_i200, ns_i255, ns_i700, ns_i880, ns_i899, ns_i900, ns_i901, ns_i999, ns_i1000, ns_i1440, ns_i4095, ns_i1000000, h2]
    · rw [gi_si_self, List.length_append, List.length_singleton, ← Nat.add_assoc, Nat.min_eq_left (by omega)]
    · rw [List.map_append, ← List.append_assoc] at hi
      rcases app_q hi with ⟨z1, z2⟩ | ⟨z1, z2⟩
      · rw [List.length_append, List.length_map] at z1
        rw [gi_si_ne (by omega), gi_si_ne (by omega)]
        exact h3 i x z2 hl
      · rw [List.length_append, List.length_map] at z1
        subst z1
        rw [gi_si_ne (by omega), gi_si_self, z2]
    · rw [gi_si_ne (by omega), gi_si_ne (by omega)]; exact h4
    · rw [gi_si_ne (by omega), gi_si_ne (by omega)]; exact h5
    · rw [gi_si_ne (by omega), gi_si_ne (by omega)]
  · have e : min (B.length + S.length) 400 = 400 := Nat.min_eq_right (by omega)
    rw [e] at h2
    refine ⟨m, ?_, ⟨h1, ⟨?_, fun i x hi hl => ?_⟩, h4, h5⟩, ofr_r⟩
    · rw [h2, if_pos (show (400 : Int32) ≤ nI 400 by decide)]
    · rw [List.length_append, Nat.min_eq_right (by omega)]; exact h2
    · rw [List.map_append, ← List.append_assoc] at hi
      rcases app_q hi with ⟨z1, z2⟩ | ⟨z1, z2⟩
      · exact h3 i x z2 hl
      · rw [List.length_append, List.length_map] at z1
        omega
theorem cts_st {o : Nat} (ho : 32 ≤ o) (ho2 : o ≤ 62) {B : List Int32} {ln u : Nat} {S : cd_} {t : tkn_} {r : List tkn_} {m : fm_} (h : cts_ o B ln u S (t :: r) m) (h2 : 2 ≤ t.1) : ∃ m1, f_X8_step m = some (0, m1) ∧ cts_ o B ln u S r m1 ∧ ofr_ o m m1 := by
  obtain ⟨h1, ⟨h3, h4⟩, h5, h6⟩ := h
  obtain ⟨m1, e1, e2, e3⟩ := stn_c h1 h2
  have g := tfw_6 e3
  exact ⟨m1, e1, ⟨e2, ⟨(g _ _ (by omega)).trans h3, fun i x hi hl => (g _ _ (by omega)).trans (h4 i x hi hl)⟩, (g _ _ (by omega)).trans h5, (g _ _ (by omega)).trans h6⟩, ofr_1 e3⟩
def may_ (ln : Nat) (al : Nat → Bool) : Prop := ∀ (k : Nat) (m : fm_), 120 ≤ k → k < 128 → gi_ m 68 2 = nI ln → f_X5_mayAsk (nI k) m = some (b01_ (al (k - 119)), m)
theorem may_1 : may_ 127 alc_ := fun k m h1 h2 h => by
  unfold f_X5_mayAsk
  rw [h]
  have : k = 120 ∨ k = 121 ∨ k = 122 ∨ k = 123 ∨ k = 124 ∨ k = 125 ∨ k = 126 ∨ k = 127 := by omega
  rcases this with e | e | e | e | e | e | e | e <;> subst e <;> rfl
theorem may_2 : may_ 108 alf_ := fun k m h1 h2 h => by
  unfold f_X5_mayAsk
  rw [h]
  have : k = 120 ∨ k = 121 ∨ k = 122 ∨ k = 123 ∨ k = 124 ∨ k = 125 ∨ k = 126 ∨ k = 127 := by omega
  rcases this with e | e | e | e | e | e | e | e <;> subst e <;> rfl
theorem may_3 : may_ 110 ala_ := fun k m h1 h2 h => by
  unfold f_X5_mayAsk
  rw [h]
  have : k = 120 ∨ k = 121 ∨ k = 122 ∨ k = 123 ∨ k = 124 ∨ k = 125 ∨ k = 126 ∨ k = 127 := by omega
  rcases this with e | e | e | e | e | e | e | e <;> subst e <;> rfl
theorem enc_n (v : Nat) : enc_ (0, v) = nI v := rfl
theorem encw_ {k : Nat} (h1 : 120 ≤ k) (h2 : k < 128) : (-1) - (nI k - 120) = enc_ (k - 119, 0) := by
  have : k = 120 ∨ k = 121 ∨ k = 122 ∨ k = 123 ∨ k = 124 ∨ k = 125 ∨ k = 126 ∨ k = 127 := by omega
  rcases this with e | e | e | e | e | e | e | e <;> subst e <;> rfl
theorem runt_c {o : Nat} (ho : 32 ≤ o) (ho2 : o ≤ 62) {al : Nat → Bool} {ln : Nat} (hal : may_ ln al) {B : List Int32} {u : Nat} (hu : u ≤ 50) {S : cd_} {ts : List tkn_} {m : fm_} (h : cts_ o B ln u S ts m) : (∃ f m1, runt_ al u ts = .inl f ∧ f_X5_readUnit o m = some (nI 0, m1) ∧ flc_ f m1) ∨ (∃ q r m1, runt_ al u ts = .inr (q, r) ∧ f_X5_readUnit o m = some (nI 1, m1) ∧ cts_ o B ln (u + 1) (S ++ [q]) r m1 ∧ ofr_ o m m1 ∧ u < 50) := by
  have hc := h.1
  cases ts with
  | nil => exact absurd hc.2.2 id
  | cons t r =>
    have ht := hc.2.2.1
    have hu3 := h.2.2.1
    have bl0 : bl_ 0 = true := by decide
    have fail2 : ∃ m1, f_X8_fail 2 m = some (0, m1) ∧ flc_ (flt_ 2 t) m1 := by
      obtain ⟨m1, e1, e2, _⟩ := fai_c hc 2
      exact ⟨m1, e1, e2⟩
    obtain ⟨m9, z1, z2⟩ := fail2
    unfold f_X5_readUnit
    rw [runt_l, (knd_c hc.1).1, Option.bind_some]
    dsimp only
    by_cases c1 : t.1 = 2
    · rw [if_pos (show nI t.1 < 120 from show nI t.1 < nI 120 from nI_lt (by omega) (by omega)), if_pos (show nI t.1 = 2 by rw [c1]; rfl), hu3]
      by_cases c2 : u < 50
      · rw [if_pos ⟨Or.inl c1, c2⟩, if_pos c1, if_pos (show nI u < 50 from show nI u < nI 50 from nI_lt c2 (by omega))]
        have e : nI u + 1 = nI (u + 1) := by
          show nI u + nI 1 = _
          rw [nI_add]
        rw [e]
        have s1 : cts_ o B ln (u + 1) S (t :: r) (si_ m 68 3 (nI (u + 1))) := by
          obtain ⟨h1, ⟨h3, h4⟩, h5, h6⟩ := h
          refine ⟨csn_si h1 (by omega), ⟨by rw [gi_si_ne (by omega)]; exact h3, fun i x hi hl => by rw [gi_si_ne (by omega)]; exact h4 i x hi hl⟩, gi_si_self, by rw [gi_si_ne (by omega)]; exact h6⟩
        obtain ⟨m2, a1, a2, a3⟩ := ads_c ho ho2 s1 (x := nI t.2.1) (0, t.2.1) rfl
        obtain ⟨m3, b1, b2, b3⟩ := cts_st ho ho2 a2 (by omega)
        refine Or.inr ⟨(0, t.2.1), r, m3, rfl, ?_, b2, ofr_t (fun a k k1 k2 k3 k4 => gi_si_ne k2) (ofr_t a3 b3), c2⟩
        rw [(knd_c s1.1.1).2, Option.bind_some]
        dsimp only
        rw [a1, Option.bind_some]
        dsimp only
        rw [b1, Option.bind_some]
        rfl
      · rw [if_neg (fun q => c2 q.2), if_neg (show ¬ nI u < 50 from show ¬ nI u < nI 50 from nI_nlt (by omega) (by omega)), z1]
        exact Or.inl ⟨_, m9, rfl, by rw [Option.bind_some, gd_t bl0]; rfl, z2⟩
    · by_cases c2 : 120 ≤ t.1
      · rw [if_neg (show ¬ nI t.1 < 120 from show ¬ nI t.1 < nI 120 from nI_nlt c2 (by omega)), if_neg (show ¬ (127 : Int32) < nI t.1 from show ¬ nI 127 < nI t.1 from nI_nlt (by omega) (by omega)), hu3]
        by_cases c3 : u < 50
        · rw [if_pos ⟨Or.inr c2, c3⟩, if_neg c1, if_pos (show nI u < 50 from show nI u < nI 50 from nI_lt c3 (by omega)), hal t.1 m c2 (by omega) h.2.2.2, Option.bind_some]
          dsimp only
          by_cases c4 : al (t.1 - 119) = true
          · rw [if_pos c4, c4, if_neg (show ¬ b01_ true = 0 by decide), hu3]
            have e : nI u + 1 = nI (u + 1) := by
              show nI u + nI 1 = _
              rw [nI_add]
            rw [e]
            have s1 : cts_ o B ln (u + 1) S (t :: r) (si_ m 68 3 (nI (u + 1))) := by
              obtain ⟨h1, ⟨h3, h4⟩, h5, h6⟩ := h
              refine ⟨csn_si h1 (by omega), ⟨by rw [gi_si_ne (by omega)]; exact h3, fun i x hi hl => by rw [gi_si_ne (by omega)]; exact h4 i x hi hl⟩, gi_si_self, by rw [gi_si_ne (by omega)]; exact h6⟩
            obtain ⟨m2, a1, a2, a3⟩ := ads_c ho ho2 s1 (x := (-1) - (nI t.1 - 120)) (t.1 - 119, 0) (encw_ c2 (by omega))
            obtain ⟨m3, b1, b2, b3⟩ := cts_st ho ho2 a2 (by omega)
            refine Or.inr ⟨(t.1 - 119, 0), r, m3, rfl, ?_, b2, ofr_t (fun a k k1 k2 k3 k4 => gi_si_ne k2) (ofr_t a3 b3), c3⟩
            rw [a1, Option.bind_some]
            dsimp only
            rw [b1, Option.bind_some]
            rfl
          · have c5 := Bool.eq_false_iff.mpr c4
            obtain ⟨m1, e1, e2, _⟩ := fai_c hc 6
            have e1 : f_X8_fail 6 m = some (0, m1) := e1
            rw [if_neg c4, c5, if_pos (show b01_ false = 0 by decide), e1]
            exact Or.inl ⟨_, m1, rfl, by rw [Option.bind_some, gd_t bl0]; rfl, e2⟩
        · rw [if_neg (fun q => c3 q.2), if_neg (show ¬ nI u < 50 from show ¬ nI u < nI 50 from nI_nlt (by omega) (by omega)), z1]
          exact Or.inl ⟨_, m9, rfl, by rw [Option.bind_some, gd_t bl0]; rfl, z2⟩
      · rw [if_pos (show nI t.1 < 120 from show nI t.1 < nI 120 from nI_lt (by omega) (by omega)), if_neg (show ¬ nI t.1 = 2 from show ¬ nI t.1 = nI 2 from fun q => c1 ((nI_eq (by omega) (by omega)).mp q)), if_neg (show ¬ ((t.1 = 2 ∨ 120 ≤ t.1) ∧ u < 50) from fun q => q.1.elim c1 c2), z1]
        exact Or.inl ⟨_, m9, rfl, by rw [Option.bind_some, gd_t bl0]; rfl, z2⟩
