/-! ===== the charge of a day, the reference ===== -/
def fmd_ : List (Nat × Nat × Nat) := [(106, 106, 59), (106, 106, 60), (139, 139, 0), (141, 150, 0)]
theorem fm1s_ag {F : List fa_} {T : Nat} {m m1 : fm_} (h2 : fm1s_ F T m) (ha : ag_ fmd_ m m1) : fm1s_ F T m1 := by
  refine ⟨(ha 106 58 rfl).1.trans h2.1, (ha 106 59 rfl).1.trans h2.2.1, fun j q hj => ?_⟩
  have := h2.2.2 j q hj
  unfold fm1_ at this ⊢
  rw [(ha 141 j rfl).1, (ha 149 j rfl).1, (ha 150 j rfl).1, (ha 142 j rfl).1, (ha 143 j rfl).1, (ha 144 j rfl).1, (ha 139 j rfl).2, (ha 145 j rfl).1, (ha 146 j rfl).1, (ha 147 j rfl).1, (ha 148 j rfl).1]
  exact this
theorem cdu_m {O : List od_} (hO : oko_ O) {F : List fa_} {T : Nat} (hF : fw_ F T) {m : fm_} (hm : lom_ O m) (hf : fm1s_ F T m) {p d : Nat} (hp : p < 10) (hd : d < 100) {v n : Nat} (hv : v ≤ 1440) (hn : n ≤ 100) (k : Int32) {j : Nat} (hin : inf_ O d O.length = some j) : ∃ m1, f_X12_chargeOf (nI p) (nI d) (nI n) (nI v) k m = some (nI (cdu_ O F p d k v n), m1) := by
  have hl := hO.1.1
  have hj := (inf_u _ _ hin).1
  have e := List.getElem?_eq_getElem hj
  generalize O[j] = o at e
  have hoo := hO.2 o (List.mem_of_getElem? e)
  have h6 : j < 6 := by omega
  have hinf := inf_m hO.1 hm.1 hd
  rw [hin] at hinf
  have hinf : f_X12_inForce (nI d) m = some (nI j, m) := hinf
  obtain ⟨m1, q1, a1⟩ := cbj_m hO hF hm hf hp hd k e
  have s1 := fr_X12_classBy q1
  have hcb : cby_ (uwp_ (pdg_ F p d k) d) o.2.2.2.2.1 ≤ 9 := cby_b fun q hq => (hoo.2.1 q hq).1
  unfold cdu_
  simp only [hin, e]
  unfold cd1_
  generalize cby_ (uwp_ (pdg_ F p d k) d) o.2.2.2.2.1 = c at q1 hcb
  have s1' : sa_ w_X12_chargeOf m m1 := sa_up (by rfl) s1
  have s2 : sa_ w_X12_chargeOf m (si_ (si_ (si_ m1 136 8 (nI c)) 136 7 (nI n)) 136 6 (nI v)) := sa_si (by rfl) (sa_si (by rfl) (sa_si (by rfl) s1'))
  have aw : ∀ w, 1 ≤ w → w ≤ 8 → gi_ (si_ (si_ (si_ m1 136 8 (nI c)) 136 7 (nI n)) 136 6 (nI v)) 136 w = uwf_ (pdg_ F p d k) d v n c w := fun w h1 h8 => by
    by_cases c6 : w = 6
    · subst c6; rw [gi_si_self]; rfl
    rw [gi_si_ne (by omega)]
    by_cases c7 : w = 7
    · subst c7; rw [gi_si_self]; rfl
    rw [gi_si_ne (by omega)]
    by_cases c8 : w = 8
    · subst c8; rw [gi_si_self]; rfl
    rw [gi_si_ne (by omega), a1 w h1 (by omega), uwf_5 (by omega)]
  have l2 : lom_ O (si_ (si_ (si_ m1 136 8 (nI c)) 136 7 (nI n)) 136 6 (nI v)) := lom_ag hm (sa_ag (by rfl) s2)
  generalize hm2 : (si_ (si_ (si_ m1 136 8 (nI c)) 136 7 (nI n)) 136 6 (nI v)) = m2 at s2 aw l2
  obtain ⟨m3, q3, f3⟩ := hol1_m (j := j) (l := 6) (by omega) (by omega) (uw := uwf_ (pdg_ F p d k) d v n c) hoo.2.2.1 (l2.2 j o e).2.2.2.2.2.1 (fun w hw => aw w (alf_8 w hw).1 (alf_8 w hw).2)
  have s3 : sa_ w_X12_chargeOf m m3 := sa_t s2 (sa_up (by rfl) (fr_X12_holds q3))
  have l3 : lom_ O m3 := lom_ag hm (sa_ag (by rfl) s3)
  obtain ⟨m4, q4, f4⟩ := hol1_m (j := j) (l := 7) (by omega) (by omega) (uw := uwf_ (pdg_ F p d k) d v n c) hoo.2.2.2.1 (l3.2 j o e).2.2.2.2.2.2 (fun w hw => (f3 136 w (by omega)).trans (aw w (ala_8 w hw).1 (ala_8 w hw).2))
  have s4 : sa_ w_X12_chargeOf m m4 := sa_t s3 (sa_up (by rfl) (fr_X12_holds q4))
  have l4 : lom_ O m4 := lom_ag hm (sa_ag (by rfl) s4)
  have hf3 : fm1s_ F T m3 := fm1s_ag hf (sa_ag (by rfl) s3)
  have hap := ha_m hF hf3 hp hd k F.length 0 false (by omega)
  rw [Bool.false_or] at hap
  have hap : f_X12_hasAppeal (nI p) (nI d) k m3 = some (b01_ (hap_ F p d k), m3) := hap
  have g131 := (l3.2 j o e).2.2.1
  have g3 := (l3.1.2 j o e).2 c (by omega)
  have g4 := (l4.1.2 j o e).2 c (by omega)
  have hgb : oom_ o.2.2.2.1 ≤ 20 := by
    have hg := hoo.2.2.2.2.2
    cases e4 : o.2.2.2.1 with
    | none => exact Nat.zero_le _
    | some g => exact hg g e4
  have e1t : b01_ true = nI 1 := rfl
  have e0t : b01_ false = nI 0 := rfl
  generalize hop1_ (uwf_ (pdg_ F p d k) d v n c) o.2.2.2.2.2.1 = b1 at q3
  generalize hop1_ (uwf_ (pdg_ F p d k) d v n c) o.2.2.2.2.2.2 = b2 at q4
  generalize hap_ F p d k = b3 at hap
  generalize oom_ o.2.2.2.1 = g at g131 hgb
  cases b1 with
  | true =>
    rw [e1t] at q3
    rw [if_pos rfl]
    unfold f_X12_chargeOf
    simp (disch := omega) only [↓reduceIte, ↓ns_m1, ns_let, ns_lef, ns_ltt, ns_ltf, ns_eqt, ns_eqf, ns_gd, nI_clamp, nI_add, pk_sub, pk_mul, ns_m1a, ns_m1b, ns_m1c, ns_m1d, ns_m1e, ns_m1f, ns_m1g, ns_un1, ns_un0, ns_day1, Option.bind_some, gi_si_self, gi_si_ne, gl_si, gi_sl, gl_sl_self, gl_sl_ne, if_true, if_false, ns_i0, ns_i1, ns_i2, ns_i3, ns_i4, ns_i5, ns_i6, ns_i7, ns_i8, ns_i9, ns_i10, ns_i11, ns_i12, ns_i13, ns_i20, ns_i23, ns_i24, ns_i31, ns_i50, ns_i60, ns_i99, ns_i100, ns_i144, ns_i200, ns_i255, ns_i700, ns_i880, ns_i899, ns_i900, ns_i901, ns_i999, ns_i1000, ns_i1440, ns_i4095, ns_i1000000, hinf, q1, hm2, q3]
    exact ⟨_, rfl⟩
  | false =>
    rw [e0t] at q3
    rw [if_neg (by decide)]
    by_cases cg : g ≤ n
    · rw [if_pos cg]
      cases b3 with
      | false =>
        rw [e0t] at hap
        rw [if_neg (by simp)]
        unfold f_X12_chargeOf
        simp (disch := omega) only [↓reduceIte, ↓ns_m1, ns_let, ns_lef, ns_ltt, ns_ltf, ns_eqt, ns_eqf, ns_gd, nI_clamp, nI_add, pk_sub, pk_mul, ns_m1a, ns_m1b, ns_m1c, ns_m1d, ns_m1e, ns_m1f, ns_m1g, ns_un1, ns_un0, ns_day1, Option.bind_some, gi_si_self, gi_si_ne, gl_si, gi_sl, gl_sl_self, gl_sl_ne, if_true, if_false, ns_i0, ns_i1, ns_i2, ns_i3, ns_i4, ns_i5, ns_i6, ns_i7, ns_i8, ns_i9, ns_i10, ns_i11, ns_i12, ns_i13, ns_i20, ns_i23, ns_i24, ns_i31, ns_i50, ns_i60, ns_i99, ns_i100, ns_i144, ns_i200, ns_i255, ns_i700, ns_i880, ns_i899, ns_i900, ns_i901, ns_i999, ns_i1000, ns_i1440, ns_i4095, ns_i1000000, hinf, q1, hm2, q3, g131, hap, g3]
        exact ⟨_, rfl⟩
      | true =>
        rw [e1t] at hap
        cases b2 with
        | false =>
          rw [e0t] at q4
          rw [if_neg (by simp)]
          unfold f_X12_chargeOf
          simp (disch := omega) only [↓reduceIte, ↓ns_m1, ns_let, ns_lef, ns_ltt, ns_ltf, ns_eqt, ns_eqf, ns_gd, nI_clamp, nI_add, pk_sub, pk_mul, ns_m1a, ns_m1b, ns_m1c, ns_m1d, ns_m1e, ns_m1f, ns_m1g, ns_un1, ns_un0, ns_day1, Option.bind_some, gi_si_self, gi_si_ne, gl_si, gi_sl, gl_sl_self, gl_sl_ne, if_true, if_false, ns_i0, ns_i1, ns_i2, ns_i3, ns_i4, ns_i5, ns_i6, ns_i7, ns_i8, ns_i9, ns_i10, ns_i11, ns_i12, ns_i13, ns_i20, ns_i23, ns_i24, ns_i31, ns_i50, ns_i60, ns_i99, ns_i100, ns_i144, ns_i200, ns_i255, ns_i700, ns_i880, ns_i899, ns_i900, ns_i901, ns_i999, ns_i1000, ns_i1440, ns_i4095, ns_i1000000, hinf, q1, hm2, q3, g131, hap, q4, g4]
          exact ⟨_, rfl⟩
        | true =>
          rw [e1t] at q4
          rw [if_pos (by simp)]
          unfold f_X12_chargeOf
          simp (disch := omega) only [↓reduceIte, ↓ns_m1, ns_let, ns_lef, ns_ltt, ns_ltf, ns_eqt, ns_eqf, ns_gd, nI_clamp, nI_add, pk_sub, pk_mul, ns_m1a, ns_m1b, ns_m1c, ns_m1d, ns_m1e, ns_m1f, ns_m1g, ns_un1, ns_un0, ns_day1, Option.bind_some, gi_si_self, gi_si_ne, gl_si, gi_sl, gl_sl_self, gl_sl_ne, if_true, if_false, ns_i0, ns_i1, ns_i2, ns_i3, ns_i4, ns_i5, ns_i6, ns_i7, ns_i8, ns_i9, ns_i10, ns_i11, ns_i12, ns_i13, ns_i20, ns_i23, ns_i24, ns_i31, ns_i50, ns_i60, ns_i99, ns_i100, ns_i144, ns_i200, ns_i255, ns_i700, ns_i880, ns_i899, ns_i900, ns_i901, ns_i999, ns_i1000, ns_i1440, ns_i4095, ns_i1000000, hinf, q1, hm2, q3, g131, hap, q4]
          exact ⟨_, rfl⟩
    · rw [if_neg cg]
      unfold f_X12_chargeOf
      simp (disch := omega) only [↓reduceIte, ↓ns_m1, ns_let, ns_lef, ns_ltt, ns_ltf, ns_eqt, ns_eqf, ns_gd, nI_clamp, nI_add, pk_sub, pk_mul, ns_m1a, ns_m1b, ns_m1c, ns_m1d, ns_m1e, ns_m1f, ns_m1g, ns_un1, ns_un0, ns_day1, Option.bind_some, gi_si_self, gi_si_ne, gl_si, gi_sl, gl_sl_self, gl_sl_ne, if_true, if_false, ns_i0, ns_i1, ns_i2, ns_i3, ns_i4, ns_i5, ns_i6, ns_i7, ns_i8, ns_i9, ns_i10, ns_i11, ns_i12, ns_i13, ns_i20, ns_i23, ns_i24, ns_i31, ns_i50, ns_i60, ns_i99, ns_i100, ns_i144, ns_i200, ns_i255, ns_i700, ns_i880, ns_i899, ns_i900, ns_i901, ns_i999, ns_i1000, ns_i1440, ns_i4095, ns_i1000000, hinf, q1, hm2, q3, g131]
      exact ⟨_, rfl⟩
