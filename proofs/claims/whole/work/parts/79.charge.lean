/-! ===== the charge of a day ===== -/
def uwf_ (D d v n c : Nat) (w : Nat) : Int32 := if w = 6 then nI v else if w = 7 then nI n else if w = 8 then nI c else uwp_ D d w
theorem uwf_5 {D d v n c w : Nat} (h : w ≤ 5) : uwf_ D d v n c w = uwp_ D d w := by
  unfold uwf_
  rw [if_neg (by omega), if_neg (by omega), if_neg (by omega)]
def cd1_ (F : List fa_) (p d : Nat) (k : Int32) (v n : Nat) (o : od_) : Nat :=
  if hop1_ (uwf_ (pdg_ F p d k) d v n (cby_ (uwp_ (pdg_ F p d k) d) o.2.2.2.2.1)) o.2.2.2.2.2.1 = true then 0
  else if oom_ o.2.2.2.1 ≤ n then (if (hap_ F p d k && hop1_ (uwf_ (pdg_ F p d k) d v n (cby_ (uwp_ (pdg_ F p d k) d) o.2.2.2.2.1)) o.2.2.2.2.2.2) = true then 0 else oom_ (o.2.1 (cby_ (uwp_ (pdg_ F p d k) d) o.2.2.2.2.1)))
  else 0
def cdu_ (O : List od_) (F : List fa_) (p d : Nat) (k : Int32) (v n : Nat) : Nat := match inf_ O d O.length with
  | none => 0
  | some j => match O[j]? with
    | none => 0
    | some o => cd1_ F p d k v n o
theorem oom_b {O : List od_} (hO : ok1_ O) {j : Nat} {o : od_} (h : O[j]? = some o) (c : Nat) : oom_ (o.2.1 c) ≤ 999 := by
  unfold oom_
  cases e2 : o.2.1 c with
  | none => exact Nat.zero_le _
  | some v => exact (hO.2 o (List.mem_of_getElem? h)).2 c v e2
theorem cdu_b {O : List od_} (hO : ok1_ O) {F : List fa_} {p d : Nat} {k : Int32} {v n : Nat} : cdu_ O F p d k v n ≤ 999 := by
  unfold cdu_
  cases inf_ O d O.length with
  | none => exact Nat.zero_le _
  | some j =>
    simp only
    cases e : O[j]? with
    | none => exact Nat.zero_le _
    | some o =>
      simp only
      have := oom_b hO e (cby_ (uwp_ (pdg_ F p d k) d) o.2.2.2.2.1)
      unfold cd1_
      by_cases c1 : hop1_ (uwf_ (pdg_ F p d k) d v n (cby_ (uwp_ (pdg_ F p d k) d) o.2.2.2.2.1)) o.2.2.2.2.2.1 = true
      · rw [if_pos c1]; exact Nat.zero_le _
      · rw [if_neg c1]
        by_cases c2 : oom_ o.2.2.2.1 ≤ n
        · rw [if_pos c2]
          by_cases c3 : (hap_ F p d k && hop1_ (uwf_ (pdg_ F p d k) d v n (cby_ (uwp_ (pdg_ F p d k) d) o.2.2.2.2.1)) o.2.2.2.2.2.2) = true
          · rw [if_pos c3]; exact Nat.zero_le _
          · rw [if_neg c3]; exact this
        · rw [if_neg c2]; exact Nat.zero_le _
theorem cho_c {O : List od_} {m : fm_} (hO : ok1_ O) (h : oc1_ O m) {j k : Nat} {o : od_} (e : O[j]? = some o) (hk : k < 10) : f_X4_chargeOf (32 + 6 * j) (nI k) m = some (nI (oom_ (o.2.1 k)), m) := by
  have g := (h.2 j o e).2 k hk
  unfold f_X4_chargeOf
  cases e2 : o.2.1 k with
  | none =>
    rw [e2] at g
    have g : gi_ m (32 + 6 * j + 4) k = -1 := g
    simp (disch := omega) only [↓reduceIte, ↓ns_m1, ns_let, ns_lef, ns_ltt, ns_ltf, ns_eqt, ns_eqf, ns_gd, nI_clamp, nI_add, pk_sub, pk_mul, ns_m1a, ns_m1b, ns_m1c, ns_m1d, ns_m1e, ns_m1f, ns_m1g, ns_un1, ns_un0, ns_day1, Option.bind_some, gi_si_self, gi_si_ne, gl_si, gi_sl, gl_sl_self, gl_sl_ne, if_true, if_false, ns_i0, ns_i1, ns_i2, ns_i3, ns_i4, ns_i5, ns_i6, ns_i7, ns_i8, ns_i9, ns_i10, ns_i11, ns_i12, ns_i13, ns_i20, ns_i23, ns_i24, ns_i31, ns_i50, ns_i60, ns_i99, ns_i100, ns_i144, ns_i200, ns_i255, ns_i700, ns_i880, ns_i899, ns_i900, ns_i901, ns_i999, ns_i1000, ns_i1440, ns_i4095, ns_i1000000, g]
    rfl
  | some v =>
    rw [e2] at g
    have g : gi_ m (32 + 6 * j + 4) k = nI v := g
    have b := (hO.2 o (List.mem_of_getElem? e)).2 k v e2
    have e3 : oom_ (some v) = v := rfl
    have e4 : max v 0 = v := by omega
    simp (disch := omega) only [↓reduceIte, ↓ns_m1, ns_let, ns_lef, ns_ltt, ns_ltf, ns_eqt, ns_eqf, ns_gd, nI_clamp, nI_add, pk_sub, pk_mul, ns_m1a, ns_m1b, ns_m1c, ns_m1d, ns_m1e, ns_m1f, ns_m1g, ns_un1, ns_un0, ns_day1, Option.bind_some, gi_si_self, gi_si_ne, gl_si, gi_sl, gl_sl_self, gl_sl_ne, if_true, if_false, ns_i0, ns_i1, ns_i2, ns_i3, ns_i4, ns_i5, ns_i6, ns_i7, ns_i8, ns_i9, ns_i10, ns_i11, ns_i12, ns_i13, ns_i20, ns_i23, ns_i24, ns_i31, ns_i50, ns_i60, ns_i99, ns_i100, ns_i144, ns_i200, ns_i255, ns_i700, ns_i880, ns_i899, ns_i900, ns_i901, ns_i999, ns_i1000, ns_i1440, ns_i4095, ns_i1000000, g, ns_mx, e3, e4]
theorem upj_ {j : Nat} (hj : j < 6) : sb_ [(32 + 6 * j + 5, 32 + 6 * j + 5, 0)] w_X2_chargeDue = true := by
  have : ∀ j, j < 6 → sb_ [(32 + 6 * j + 5, 32 + 6 * j + 5, 0)] w_X2_chargeDue = true := by decide
  exact this j hj
def fcd_ : List (Nat × Nat × Nat) := [(72, 72, 8), (72, 72, 9), (73, 79, 0)]
theorem fc_ag {F : List fa_} {T : Nat} {m m1 : fm_} (h2 : fc_ F T m) (ha : ag_ fcd_ m m1) : fc_ F T m1 := by
  refine ⟨(ha 72 7 rfl).1.trans h2.1, (ha 72 8 rfl).1.trans h2.2.1, fun j q hj => ?_⟩
  have := h2.2.2 j q hj
  unfold fc1_ at this ⊢
  rw [(ha 73 j rfl).1, (ha 74 j rfl).1, (ha 75 j rfl).1, (ha 76 j rfl).1, (ha 77 j rfl).1, (ha 78 j rfl).1, (ha 79 j rfl).2]
  exact this
theorem cdu_c {O : List od_} (hO : oko_ O) {F : List fa_} {T : Nat} (hF : fw_ F T) {m : fm_} (hm : loc_ O m) (hf : fc_ F T m) {p d : Nat} (hp : p < 10) (hd : d < 100) {v n : Nat} (hv : v ≤ 1440) (hn : n ≤ 100) (k : Int32) (hask : ∀ w, 1 ≤ w → w ≤ 7 → gi_ m 93 (w - 1) = uwf_ (pdg_ F p d k) d v n 0 w) : ∃ m1, f_X2_chargeDue (nI p) (nI d) k m = some (nI (cdu_ O F p d k v n), m1) := by
  have hl := hO.1.1
  unfold f_X2_chargeDue cdu_
  rw [inf_c hO.1 hm.1 hd]
  simp only [Option.bind_some]
  cases hb : inf_ O d O.length with
  | none => exact ⟨m, rfl⟩
  | some j =>
    have hj := (inf_u _ _ hb).1
    have e := List.getElem?_eq_getElem hj
    generalize O[j] = o at e
    have hoo := hO.2 o (List.mem_of_getElem? e)
    have h6 : j < 6 := by omega
    obtain ⟨m1, q1, f1⟩ := cby_c (o := 32 + 6 * j) (by omega) hoo (uw := uwp_ (pdg_ F p d k) d) _ 0 m (by omega) rfl (hm.2 j o e) (fun w hw => by
      have hw := of_decide_eq_true hw
      rw [hask w hw.1 (by omega), uwf_5 hw.2])
    have q1 : f_X4_classBy (32 + 6 * j) m = some (nI (cby_ (uwp_ (pdg_ F p d k) d) o.2.2.2.2.1), m1) := q1
    simp only [e]
    unfold cd1_
    have hcb : cby_ (uwp_ (pdg_ F p d k) d) o.2.2.2.2.1 ≤ 9 := cby_b fun q hq => (hoo.2.1 q hq).1
    generalize cby_ (uwp_ (pdg_ F p d k) d) o.2.2.2.2.1 = c at q1 hcb
    -- what the code sees from then on
    have fa : ∀ m', (∀ a i, ¬ a = 32 + 6 * j + 5 → gi_ m' a i = gi_ (si_ m1 93 7 (nI c)) a i) → orc_ (32 + 6 * j) o m' ∧ (∀ w, 1 ≤ w → w ≤ 8 → gi_ m' 93 (w - 1) = uwf_ (pdg_ F p d k) d v n c w) := fun m' hm' => by
      refine ⟨orc_fr (hm.2 j o e) fun a i h1 h2 => ?_, fun w h1 h8 => ?_⟩
      · rw [hm' a i (by omega), gi_si_ne (by omega), f1 a i (by omega)]
      · rw [hm' 93 _ (by omega)]
        by_cases c8 : w = 8
        · subst c8
          rw [gi_si_self]
          rfl
        · rw [gi_si_ne (by omega), f1 93 _ (by omega), hask w h1 (by omega)]
          unfold uwf_
          rw [if_neg c8, if_neg c8]
    obtain ⟨o1, a1⟩ := fa _ fun _ _ _ => rfl
    obtain ⟨m2, q2, f2⟩ := hol1_c (o := 32 + 6 * j) (by omega) alf_8 (uw := uwf_ (pdg_ F p d k) d v n c) hoo.2.2.1 o1.2.2.2.2.1 (fun w hw => a1 w (alf_8 w hw).1 (alf_8 w hw).2)
    obtain ⟨o2, a2⟩ := fa m2 f2
    obtain ⟨m3, q3, f3⟩ := hol1_c (o := 32 + 6 * j) (by omega) ala_8 (uw := uwf_ (pdg_ F p d k) d v n c) hoo.2.2.2.1 o2.2.2.2.2.2 (fun w hw => a2 w (ala_8 w hw).1 (ala_8 w hw).2)
    have bl0 : bl_ (nI 0) = true := rfl
    have bl1 : bl_ (nI 1) = true := rfl
    have e1t : b01_ true = nI 1 := rfl
    have e0t : b01_ false = nI 0 := rfl
    have key : ∀ a i, ¬ a = 93 → ¬ a = 32 + 6 * j + 5 → gi_ m2 a i = gi_ m a i := fun a i h1 h2 => by rw [f2 a i h2, gi_si_ne (by omega), f1 a i h2]
    have key3 : ∀ a i, ¬ a = 93 → ¬ a = 32 + 6 * j + 5 → gi_ m3 a i = gi_ m a i := fun a i h1 h2 => by rw [f3 a i h2, key a i h1 h2]
    have s1 : sa_ w_X2_chargeDue m m1 := sa_up (upj_ h6) (fr_X4_classBy q1)
    have s2 : sa_ w_X2_chargeDue m m2 := sa_t (sa_si (by rfl) s1) (sa_up (upj_ h6) (fr_X4_holds q2))
    have s3 : sa_ w_X2_chargeDue m m3 := sa_t s2 (sa_up (upj_ h6) (fr_X4_holds q3))
    have hm2 : loc_ O m2 := loc_ag hl hm (sa_ag (by rfl) s2)
    have hm3 : loc_ O m3 := loc_ag hl hm (sa_ag (by rfl) s3)
    have hf2 : fc_ F T m2 := fc_ag hf (sa_ag (by rfl) s2)
    have hap := ha_c hF hf2 hp hd k F.length 0 (by omega)
    have hap : f_X1_hasAppeal (nI p) (nI d) k m2 = some (b01_ (hap_ F p d k), m2) := hap
    have ch2 := cho_c hO.1 hm2.1 e (show c < 10 by omega)
    have ch3 := cho_c hO.1 hm3.1 e (show c < 10 by omega)
    have g9 := o2.2.1
    have g6 : gi_ m2 93 6 = nI n := (a2 7 (by omega) (by omega)).trans rfl
    have lo : (∃ m', f_X4_letsOff (32 + 6 * j) m2 = some (b01_ (hop1_ (uwf_ (pdg_ F p d k) d v n c) o.2.2.2.2.2.2), m') ∧ m' = m3) := ⟨m3, by
      unfold f_X4_letsOff
      rw [q3]
      cases hop1_ (uwf_ (pdg_ F p d k) d v n c) o.2.2.2.2.2.2 <;> rfl, rfl⟩
    obtain ⟨_, lo, rfl⟩ := lo
    have fre : f_X4_isFree (32 + 6 * j) (si_ m1 93 7 (nI c)) = some (b01_ (hop1_ (uwf_ (pdg_ F p d k) d v n c) o.2.2.2.2.2.1), m2) := by
      unfold f_X4_isFree
      rw [q2]
      cases hop1_ (uwf_ (pdg_ F p d k) d v n c) o.2.2.2.2.2.1 <;> rfl
    have gr : (gi_ m2 (32 + 6 * j) 9 ≤ nI n) ↔ oom_ o.2.2.2.1 ≤ n := by
      rw [g9]
      have hg := hoo.2.2.2.2.2
      cases e4 : o.2.2.2.1 with
      | none =>
        refine ⟨fun _ => Nat.zero_le _, fun _ => ?_⟩
        show (-1 : Int32) ≤ nI n
        have : (0 : Int32) ≤ nI n := nI_pos' (by omega)
        exact Int32.le_trans (by decide) this
      | some g =>
        have := hg g e4
        show nI g ≤ nI n ↔ g ≤ n
        exact ⟨fun h => by
          by_cases q : g ≤ n
          · exact q
          · exact absurd h (nI_ge (by omega) (by omega)), fun h => nI_le h (by omega)⟩
    show ∃ m1, gd_ (is_O (32 + 6 * j)) _ = _
    rw [gd_t (isO_ h6), q1]
    simp only [Option.bind_some]
    generalize hop1_ (uwf_ (pdg_ F p d k) d v n c) o.2.2.2.2.2.1 = b1 at fre
    generalize hop1_ (uwf_ (pdg_ F p d k) d v n c) o.2.2.2.2.2.2 = b2 at lo
    generalize hap_ F p d k = b3 at hap
    have i7 : (nI 7).toNatClampNeg = 7 := by decide
    cases b1 with
    | true =>
      rw [e1t] at fre
      rw [if_pos rfl]
      simp (disch := omega) only [↓reduceIte, ↓ns_m1, ns_let, ns_lef, ns_ltt, ns_ltf, ns_eqt, ns_eqf, ns_gd, nI_clamp, nI_add, pk_sub, pk_mul, ns_m1a, ns_m1b, ns_m1c, ns_m1d, ns_m1e, ns_m1f, ns_m1g, ns_un1, ns_un0, ns_day1, Option.bind_some, gi_si_self, gi_si_ne, gl_si, gi_sl, gl_sl_self, gl_sl_ne, if_true, if_false, ns_i0, ns_i1, ns_i2, ns_i3, ns_i4, ns_i5, ns_i6, ns_i7, ns_i8, ns_i9, ns_i10, ns_i11, ns_i12, ns_i13, ns_i20, ns_i23, ns_i24, ns_i31, ns_i50, ns_i60, ns_i99, ns_i100, ns_i144, ns_i200, ns_i255, ns_i700, ns_i880, ns_i899, ns_i900, ns_i901, ns_i999, ns_i1000, ns_i1440, ns_i4095, ns_i1000000, fre]
      exact ⟨_, rfl⟩
    | false =>
      rw [e0t] at fre
      rw [if_neg (by decide)]
      by_cases cg : oom_ o.2.2.2.1 ≤ n
      · have cg1 := gr.mpr cg
        rw [if_pos cg]
        cases b3 with
        | false =>
          rw [e0t] at hap
          rw [if_neg (by simp)]
          simp (disch := omega) only [↓reduceIte, ↓ns_m1, ns_let, ns_lef, ns_ltt, ns_ltf, ns_eqt, ns_eqf, ns_gd, nI_clamp, nI_add, pk_sub, pk_mul, ns_m1a, ns_m1b, ns_m1c, ns_m1d, ns_m1e, ns_m1f, ns_m1g, ns_un1, ns_un0, ns_day1, Option.bind_some, gi_si_self, gi_si_ne, gl_si, gi_sl, gl_sl_self, gl_sl_ne, if_true, if_false, ns_i0, ns_i1, ns_i2, ns_i3, ns_i4, ns_i5, ns_i6, ns_i7, ns_i8, ns_i9, ns_i10, ns_i11, ns_i12, ns_i13, ns_i20, ns_i23, ns_i24, ns_i31, ns_i50, ns_i60, ns_i99, ns_i100, ns_i144, ns_i200, ns_i255, ns_i700, ns_i880, ns_i899, ns_i900, ns_i901, ns_i999, ns_i1000, ns_i1440, ns_i4095, ns_i1000000, fre, g6, cg1, hap, ch2]
          exact ⟨_, rfl⟩
        | true =>
          rw [e1t] at hap
          cases b2 with
          | false =>
            rw [e0t] at lo
            rw [if_neg (by simp)]
            simp (disch := omega) only [↓reduceIte, ↓ns_m1, ns_let, ns_lef, ns_ltt, ns_ltf, ns_eqt, ns_eqf, ns_gd, nI_clamp, nI_add, pk_sub, pk_mul, ns_m1a, ns_m1b, ns_m1c, ns_m1d, ns_m1e, ns_m1f, ns_m1g, ns_un1, ns_un0, ns_day1, Option.bind_some, gi_si_self, gi_si_ne, gl_si, gi_sl, gl_sl_self, gl_sl_ne, if_true, if_false, ns_i0, ns_i1, ns_i2, ns_i3, ns_i4, ns_i5, ns_i6, ns_i7, ns_i8, ns_i9, ns_i10, ns_i11, ns_i12, ns_i13, ns_i20, ns_i23, ns_i24, ns_i31, ns_i50, ns_i60, ns_i99, ns_i100, ns_i144, ns_i200, ns_i255, ns_i700, ns_i880, ns_i899, ns_i900, ns_i901, ns_i999, ns_i1000, ns_i1440, ns_i4095, ns_i1000000, fre, g6, cg1, hap, lo, ch3]
            exact ⟨_, rfl⟩
          | true =>
            rw [e1t] at lo
            rw [if_pos (by simp)]
            simp (disch := omega) only [↓reduceIte, ↓ns_m1, ns_let, ns_lef, ns_ltt, ns_ltf, ns_eqt, ns_eqf, ns_gd, nI_clamp, nI_add, pk_sub, pk_mul, ns_m1a, ns_m1b, ns_m1c, ns_m1d, ns_m1e, ns_m1f, ns_m1g, ns_un1, ns_un0, ns_day1, Option.bind_some, gi_si_self, gi_si_ne, gl_si, gi_sl, gl_sl_self, gl_sl_ne, if_true, if_false, ns_i0, ns_i1, ns_i2, ns_i3, ns_i4, ns_i5, ns_i6, ns_i7, ns_i8, ns_i9, ns_i10, ns_i11, ns_i12, ns_i13, ns_i20, ns_i23, ns_i24, ns_i31, ns_i50, ns_i60, ns_i99, ns_i100, ns_i144, ns_i200, ns_i255, ns_i700, ns_i880, ns_i899, ns_i900, ns_i901, ns_i999, ns_i1000, ns_i1440, ns_i4095, ns_i1000000, fre, g6, cg1, hap, lo]
            exact ⟨_, rfl⟩
      · have cg1 : ¬ (gi_ m2 (32 + 6 * j) 9 ≤ nI n) := fun h => cg (gr.mp h)
        rw [if_neg cg]
        simp (disch := omega) only [↓reduceIte, ↓ns_m1, ns_let, ns_lef, ns_ltt, ns_ltf, ns_eqt, ns_eqf, ns_gd, nI_clamp, nI_add, pk_sub, pk_mul, ns_m1a, ns_m1b, ns_m1c, ns_m1d, ns_m1e, ns_m1f, ns_m1g, ns_un1, ns_un0, ns_day1, Option.bind_some, gi_si_self, gi_si_ne, gl_si, gi_sl, gl_sl_self, gl_sl_ne, if_true, if_false, ns_i0, ns_i1, ns_i2, ns_i3, ns_i4, ns_i5, ns_i6, ns_i7, ns_i8, ns_i9, ns_i10, ns_i11, ns_i12, ns_i13, ns_i20, ns_i23, ns_i24, ns_i31, ns_i50, ns_i60, ns_i99, ns_i100, ns_i144, ns_i200, ns_i255, ns_i700, ns_i880, ns_i899, ns_i900, ns_i901, ns_i999, ns_i1000, ns_i1440, ns_i4095, ns_i1000000, fre, g6, cg1]
        exact ⟨_, rfl⟩
