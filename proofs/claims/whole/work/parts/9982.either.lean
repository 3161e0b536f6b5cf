/-! ===== the class: an e, by ones ===== -/
def PO_ (o : Nat) (B : List Int32) (ln : Nat) (one : Nat → cd_ → List tkn_ → ers_) (g : fm_ → Option (Int32 × fm_)) : Prop := ∀ (u : Nat) (S : cd_) (ts : List tkn_) (m : fm_), cts_ o B ln u S ts m → u ≤ 50 → (∃ e m1, one u S ts = .inl e ∧ g m = some (nI 0, m1) ∧ flc_ e m1) ∨ (∃ S1 u1 r m1, one u S ts = .inr (S1, u1, r) ∧ g m = some (nI 1, m1) ∧ cts_ o B ln u1 S1 r m1 ∧ ofr_ o m m1 ∧ u < u1 ∧ u1 ≤ 50)
theorem eit_c {o : Nat} (ho : 32 ≤ o) (ho2 : o ≤ 62) {B : List Int32} {ln : Nat} {one : Nat → cd_ → List tkn_ → ers_} {g : Nat → Int32 → fm_ → Option (Int32 × fm_)} {y : Int32} (hg : PO_ o B ln one (g o y)) : ∀ (n : Nat) (a b : Bool) (u : Nat) (S : cd_) (ts : List tkn_) (m : fm_) (x : Nat), cts_ o B ln u S ts m → 51 ≤ n + u → u ≤ 50 → x ≤ u → (∃ e m1, eit_ one n a b u S ts = .inl e ∧ f_X5_readEither_7 g o y (b01_ b) (b01_ a) (nI x) m = some (nI 0, m1) ∧ flc_ e m1) ∨ (∃ S1 u1 r m1, eit_ one n a b u S ts = .inr (S1, u1, r) ∧ f_X5_readEither_7 g o y (b01_ b) (b01_ a) (nI x) m = some (nI 1, m1) ∧ cts_ o B ln u1 S1 r m1 ∧ ofr_ o m m1 ∧ u < u1 ∧ u1 ≤ 50) := by
  intro n
  induction n with
  | zero => intro a b u S ts m x h h1 h2; omega
  | succ n ih =>
    intro a b u S ts m x h h51 hu hx
    rw [e_X5_readEither_7, if_neg (show ¬ (50 : Int32) < nI x from show ¬ nI 50 < nI x from nI_nlt (by omega) (by omega))]
    rcases hg u S ts m h hu with ⟨e, m1, a1, a2, a3⟩ | ⟨S1, u1, r, m1, a1, a2, a3, a4, a5, a6⟩
    · refine Or.inl ⟨e, m1, eit_e a1, ?_, a3⟩
      rw [a2]
      rfl
    · rw [a2, Option.bind_some, if_neg (show ¬ nI 1 = 0 by decide)]
      dsimp only
      cases r with
      | nil => exact absurd a3.1.2.2 id
      | cons t r =>
        have ht := a3.1.2.2.1
        rw [eit_s a1]
        have tail : ∀ (S2 : cd_) (m2 : fm_), cts_ o B ln u1 S2 (t :: r) m2 → ofr_ o m m2 → (∃ e m9, (if t.1 = 113 then eit_ one n true b u1 S2 r else if t.1 = 112 then eit_ one n false true u1 (S2 ++ (if b = true then [(21, 0)] else [])) r else .inr (S2 ++ (if b = true then [(21, 0)] else []), u1, t :: r)) = .inl e ∧ (Option.bind (f_X8_kind m2) fun q10 =>
(if q10.1 = 113 then
(if (b01_ b) = 0 then
(Option.bind (f_X8_step q10.2) fun q51 =>
((f_X5_readEither_7 g o y (b01_ b) 1 (nI x + 1) q51.2)))
else
(Option.bind (f_X8_step q10.2) fun q57 =>
((f_X5_readEither_7 g o y (b01_ b) 1 (nI x + 1) q57.2))))
else
(if (b01_ b) = 0 then
(Option.bind (f_X8_kind q10.2) fun q18 =>
(if q18.1 = 112 then
(Option.bind (f_X8_step q18.2) fun q27 =>
((f_X5_readEither_7 g o y 1 0 (nI x + 1) q27.2)))
else
((some (1, q18.2)))))
else
(Option.bind (f_X4_addStep o (-112) q10.2) fun q31 =>
(Option.bind (f_X8_kind q31.2) fun q35 =>
(if q35.1 = 112 then
(Option.bind (f_X8_step q35.2) fun q44 =>
((f_X5_readEither_7 g o y 1 0 (nI x + 1) q44.2)))
else
((some (1, q35.2))))))))) = some (nI 0, m9) ∧ flc_ e m9) ∨ (∃ S9 u9 r9 m9, (if t.1 = 113 then eit_ one n true b u1 S2 r else if t.1 = 112 then eit_ one n false true u1 (S2 ++ (if b = true then [(21, 0)] else [])) r else .inr (S2 ++ (if b = true then [(21, 0)] else []), u1, t :: r)) = .inr (S9, u9, r9) ∧ (Option.bind (f_X8_kind m2) fun q10 =>
(if q10.1 = 113 then
(if (b01_ b) = 0 then
(Option.bind (f_X8_step q10.2) fun q51 =>
((f_X5_readEither_7 g o y (b01_ b) 1 (nI x + 1) q51.2)))
else
(Option.bind (f_X8_step q10.2) fun q57 =>
((f_X5_readEither_7 g o y (b01_ b) 1 (nI x + 1) q57.2))))
else
(if (b01_ b) = 0 then
(Option.bind (f_X8_kind q10.2) fun q18 =>
(if q18.1 = 112 then
(Option.bind (f_X8_step q18.2) fun q27 =>
((f_X5_readEither_7 g o y 1 0 (nI x + 1) q27.2)))
else
((some (1, q18.2)))))
else
(Option.bind (f_X4_addStep o (-112) q10.2) fun q31 =>
(Option.bind (f_X8_kind q31.2) fun q35 =>
(if q35.1 = 112 then
(Option.bind (f_X8_step q35.2) fun q44 =>
((f_X5_readEither_7 g o y 1 0 (nI x + 1) q44.2)))
else
((some (1, q35.2))))))))) = some (nI 1, m9) ∧ cts_ o B ln u9 S9 r9 m9 ∧ ofr_ o m m9 ∧ u < u9 ∧ u9 ≤ 50) := by
          intro S2 m2 c1 c2
          have ex : nI x + 1 = nI (x + 1) := by
            show nI x + nI 1 = _
            rw [nI_add]
          rw [(knd_c c1.1.1).1, Option.bind_some, ex]
          dsimp only
          by_cases d1 : t.1 = 113
          · obtain ⟨m3, e1, e2, e3⟩ := cts_st ho ho2 c1 (by omega)
            have ek : (if (b01_ b) = 0 then (Option.bind (f_X8_step m2) fun q51 => ((f_X5_readEither_7 g o y (b01_ b) 1 (nI (x + 1)) q51.2))) else (Option.bind (f_X8_step m2) fun q57 => ((f_X5_readEither_7 g o y (b01_ b) 1 (nI (x + 1)) q57.2)))) = f_X5_readEither_7 g o y (b01_ b) (b01_ true) (nI (x + 1)) m3 := by
              rw [e1, Option.bind_some, ite_self]
              rfl
            rw [if_pos d1, if_pos (show nI t.1 = 113 by rw [d1]; rfl), ek]
            rcases ih true b u1 S2 r m3 (x + 1) e2 (by omega) a6 (by omega) with ⟨e, m9, z1, z2, z3⟩ | ⟨S9, u9, r9, m9, z1, z2, z3, z4, z5, z6⟩
            · exact Or.inl ⟨e, m9, z1, z2, z3⟩
            · exact Or.inr ⟨S9, u9, r9, m9, z1, z2, z3, ofr_t c2 (ofr_t e3 z4), by omega, z6⟩
          · rw [if_neg d1, if_neg (show ¬ nI t.1 = 113 from show ¬ nI t.1 = nI 113 from fun q => d1 ((nI_eq (by omega) (by omega)).mp q))]
            have join : ∃ m3, (if (b01_ b) = 0 then
(Option.bind (f_X8_kind m2) fun q18 =>
(if q18.1 = 112 then
(Option.bind (f_X8_step q18.2) fun q27 =>
((f_X5_readEither_7 g o y 1 0 (nI (x + 1)) q27.2)))
else
((some (1, q18.2)))))
else
(Option.bind (f_X4_addStep o (-112) m2) fun q31 =>
(Option.bind (f_X8_kind q31.2) fun q35 =>
(if q35.1 = 112 then
(Option.bind (f_X8_step q35.2) fun q44 =>
((f_X5_readEither_7 g o y 1 0 (nI (x + 1)) q44.2)))
else
((some (1, q35.2))))))) = (Option.bind (f_X8_kind m3) fun q18 =>
(if q18.1 = 112 then
(Option.bind (f_X8_step q18.2) fun q27 =>
((f_X5_readEither_7 g o y 1 0 (nI (x + 1)) q27.2)))
else
((some (1, q18.2))))) ∧ cts_ o B ln u1 (S2 ++ (if b = true then [(21, 0)] else [])) (t :: r) m3 ∧ ofr_ o m2 m3 := by
              cases b with
              | false =>
                refine ⟨m2, if_pos (by decide), ?_, ofr_r⟩
                rw [if_neg (by decide), List.append_nil]
                exact c1
              | true =>
                obtain ⟨m3, e1, e2, e3⟩ := ads_c ho ho2 c1 (x := -112) (21, 0) rfl
                refine ⟨m3, ?_, ?_, e3⟩
                · rw [if_neg (by decide), e1, Option.bind_some]
                · rw [if_pos rfl]
                  exact e2
            obtain ⟨m3, j1, j2, j3⟩ := join
            rw [j1, (knd_c j2.1.1).1, Option.bind_some]
            dsimp only
            by_cases d2 : t.1 = 112
            · obtain ⟨m4, e1, e2, e3⟩ := cts_st ho ho2 j2 (by omega)
              rw [if_pos d2, if_pos (show nI t.1 = 112 by rw [d2]; rfl), e1, Option.bind_some]
              rcases ih false true u1 _ r m4 (x + 1) e2 (by omega) a6 (by omega) with ⟨e, m9, z1, z2, z3⟩ | ⟨S9, u9, r9, m9, z1, z2, z3, z4, z5, z6⟩
              · exact Or.inl ⟨e, m9, z1, z2, z3⟩
              · exact Or.inr ⟨S9, u9, r9, m9, z1, z2, z3, ofr_t c2 (ofr_t j3 (ofr_t e3 z4)), by omega, z6⟩
            · rw [if_neg d2, if_neg (show ¬ nI t.1 = 112 from show ¬ nI t.1 = nI 112 from fun q => d2 ((nI_eq (by omega) (by omega)).mp q))]
              exact Or.inr ⟨_, u1, t :: r, m3, rfl, rfl, j2, ofr_t c2 j3, a5, a6⟩
        cases a with
        | false =>
          rw [if_pos (show b01_ false = 0 by decide), if_neg (show ¬ false = true by decide), List.append_nil]
          exact tail S1 m1 a3 a4
        | true =>
          obtain ⟨m2, b1, b2, b3⟩ := ads_c ho ho2 a3 (x := -113) (22, 0) rfl
          rw [if_neg (show ¬ b01_ true = 0 by decide), if_pos (show true = true from rfl), b1, Option.bind_some]
          exact tail (S1 ++ [(22, 0)]) m2 b2 (ofr_t a4 b3)
theorem pe_c {o : Nat} (ho : 32 ≤ o) (ho2 : o ≤ 62) {al : Nat → Bool} {ln : Nat} (hal : may_ ln al) {B : List Int32} : ∀ (k d : Nat), d < k → d ≤ 7 → PE_ o B ln al (rd_E k) d := by
  intro k
  induction k with
  | zero => intro d h; omega
  | succ k ih =>
    intro d h1 h2 u S ts m h hu
    have hg : PO_ o B ln (rne_ al d) ((fun o p m => f_X5_readOne (rd_E k) o p m) o (nI (7 - d))) := by
      intro u S ts m h hu
      rcases one_c ho ho2 hal (f := rd_E k) (nests := 7 - d) d 0 (by omega) (fun e he => ih e (by omega) (by omega)) u S ts m h hu with ⟨e, m1, a1, a2, a3⟩ | ⟨S1, u1, r, m1, a1, a2, a3, a4, a5, a6⟩
      · exact Or.inl ⟨e, m1, a1, a2, a3⟩
      · refine Or.inr ⟨S1, u1, r, m1, a1, a2, ?_, a4, a5, a6⟩
        rw [List.replicate_zero, List.append_nil] at a3
        exact a3
    exact eit_c ho ho2 (g := fun o p m => f_X5_readOne (rd_E k) o p m) hg 51 false false u S ts m 0 h (by omega) hu (by omega)
/-- an e with the word when before it -/
def whn_ (al : Nat → Bool) (u : Nat) (ts : List tkn_) : ers_ := sbd_ (tqk_ 111 ts) fun r => eit_ (rne_ al 7) 51 false false u [] r
theorem whn_c {o : Nat} (ho : 32 ≤ o) (ho2 : o ≤ 62) {al : Nat → Bool} {ln : Nat} (hal : may_ ln al) {B : List Int32} {u : Nat} {ts : List tkn_} {m : fm_} (h : cts_ o B ln u [] ts m) (hu : u ≤ 50) : (∃ e m1, whn_ al u ts = .inl e ∧ f_X5_readWhen o m = some (nI 0, m1) ∧ flc_ e m1) ∨ (∃ S1 u1 r m1, whn_ al u ts = .inr (S1, u1, r) ∧ f_X5_readWhen o m = some (nI 1, m1) ∧ csn_ r m1 ∧ gi_ m1 68 3 = nI u1 ∧ gi_ m1 o 2 = nI (min (B.length + S1.length + 1) 400) ∧ (∀ i x, (B ++ S1.map enc_ ++ [-100])[i]? = some x → i < 400 → gi_ m1 (o + 1) i = x) ∧ ofr_ o m m1 ∧ u < u1 ∧ u1 ≤ 50) := by
  unfold f_X5_readWhen
  rcases tak_c h.1 (k := 111) (by omega) (by omega) with ⟨g, m3, b1, b2, b3, _⟩ | ⟨r2, m3, b1, b2, b3, b4⟩
  · have b2 : f_X8_take 111 m = some (nI 0, m3) := b2
    refine Or.inl ⟨g, m3, by unfold whn_; rw [b1]; rfl, ?_, b3⟩
    rw [b2]
    rfl
  · have b2 : f_X8_take 111 m = some (nI 1, m3) := b2
    have gg := tfw_6 b4
    have d3 : cts_ o B ln u [] r2 m3 := ⟨b3, ⟨(gg _ _ (by omega)).trans h.2.1.1, fun i x hi hl => (gg _ _ (by omega)).trans (h.2.1.2 i x hi hl)⟩, (gg _ _ (by omega)).trans h.2.2.1, (gg _ _ (by omega)).trans h.2.2.2⟩
    rw [b2, Option.bind_some, if_neg (show ¬ nI 1 = 0 by decide)]
    dsimp only
    have ew : whn_ al u ts = eit_ (rne_ al 7) 51 false false u [] r2 := by
      unfold whn_
      rw [b1]
      rfl
    rw [ew]
    rcases pe_c ho ho2 hal (B := B) 9 7 (by omega) (by omega) u [] r2 m3 d3 hu with ⟨g, m4, e1, e2, e3⟩ | ⟨S1, u1, r, m4, e1, e2, e3, e4, e5, e6⟩
    · have e2 : rd_E 9 o 0 m3 = some (nI 0, m4) := e2
      refine Or.inl ⟨g, m4, e1, ?_, e3⟩
      rw [e2]
      rfl
    · have e2 : rd_E 9 o 0 m3 = some (nI 1, m4) := e2
      rw [e2, Option.bind_some, if_neg (show ¬ nI 1 = 0 by decide)]
      dsimp only
      obtain ⟨k1, ⟨k2, k3⟩, k4, k5⟩ := e3
      by_cases c : B.length + S1.length < 400
      · rw [Nat.min_eq_left (by omega)] at k2
        refine Or.inr ⟨S1, u1, r, si_ (si_ m4 (o + 1) (B.length + S1.length) (-100)) o 2 (nI (B.length + S1.length + 1)), e1, ?_, csn_si (csn_si k1 (by omega)) (by omega), ?_, ?_, fun i x hi hl => ?_, ?_, e5, e6⟩
        · unfold f_X4_addStep
          rw [k2, if_neg (show ¬ (400 : Int32) ≤ nI (B.length + S1.length) from show ¬ nI 400 ≤ nI (B.length + S1.length) from nI_ge c (by omega))]
          simp (disch := omega) only [↓reduceIte, ↓ns_m1, ns_let, ns_lef, ns_ltt, ns_ltf, ns_eqt, ns_eqf, ns_gd, nI_clamp, nI_add, pk_sub, pk_mul, ns_m1a, ns_m1b, ns_m1c, ns_m1d, ns_m1e, ns_m1f, ns_m1g, ns_un1, ns_un0, ns_day1, Option.bind_some, gi_si_self, gi_si_ne, gl_si, gi_sl, gl_sl_self, gl_sl_ne, if_true, if_false, ns_i0, ns_i1, ns_i2, ns_i3, ns_i4, ns_i5, ns_i6, ns_i7, ns_i8, ns_i9, ns_i10, ns_i11, ns_i12, ns_i13, ns_i20, ns_i23, ns_i24, ns_i31, ns_i50, ns_i60, ns_i99, ns_i100, ns_i144, ns_i200, ns_i255, ns_i700, ns_i880, ns_i899, ns_i900, ns_i901, ns_i999, ns_i1000, ns_i1440, ns_i4095, ns_i1000000, k2]
        · rw [gi_si_ne (by omega), gi_si_ne (by omega)]; exact k4
        · rw [gi_si_self, Nat.min_eq_left (by omega)]
        · rcases app_q hi with ⟨z1, z2⟩ | ⟨z1, z2⟩
          · rw [List.length_append, List.length_map] at z1
            rw [gi_si_ne (by omega), gi_si_ne (by omega)]
            exact k3 i x z2 hl
          · rw [List.length_append, List.length_map] at z1
            subst z1
            rw [gi_si_ne (by omega), gi_si_self, z2]
        · exact ofr_t (ofr_1 b4) (ofr_t e4 (fun a k a1 a2 a3 a4 => by rw [gi_si_ne (by omega), gi_si_ne (by omega)]))
      · rw [Nat.min_eq_right (by omega)] at k2
        refine Or.inr ⟨S1, u1, r, m4, e1, ?_, k1, k4, ?_, fun i x hi hl => ?_, ofr_t (ofr_1 b4) e4, e5, e6⟩
        · unfold f_X4_addStep
          rw [k2, if_pos (show (400 : Int32) ≤ nI 400 by decide)]
          rfl
        · rw [Nat.min_eq_right (by omega)]; exact k2
        · rcases app_q hi with ⟨z1, z2⟩ | ⟨z1, z2⟩
          · exact k3 i x z2 hl
          · rw [List.length_append, List.length_map] at z1
            omega
