/-! ===== map: the reference ===== -/
theorem sbd_i {α β : Type} {x : Sum (Nat × Nat) α} {f : α → Sum (Nat × Nat) β} {b : β} (h : sbd_ x f = .inr b) : ∃ a, x = .inr a ∧ f a = .inr b := by
  cases x with
  | inl e => cases h
  | inr a => exact ⟨a, rfl, h⟩
theorem tqp_j {z : Nat} {ts : List tkn_} {q : Nat × List tkn_} (h : tqp_ z ts = .inr q) (hw : wts_ ts) : q.1 < 12 ∧ ¬ bb_ z q.1 = 1 ∧ wts_ q.2 ∧ ts.length = q.2.length + 1 := by
  cases ts with
  | nil => cases h
  | cons t r1 =>
    rw [tqp_l] at h
    by_cases c : t.1 = 3
    · rw [if_pos c] at h
      by_cases c1 : bb_ z t.2.1 = 1
      · rw [if_pos c1] at h; cases h
      · rw [if_neg c1] at h
        injection h with h
        subst h
        exact ⟨hw.2.2.2.1 c, c1, wts_t hw (by omega), rfl⟩
    · rw [if_neg c] at h; cases h
theorem tqn_j {lo hi : Nat} {ts : List tkn_} {q : Nat × List tkn_} (h : tqn_ lo hi ts = .inr q) (hw : wts_ ts) : lo ≤ q.1 ∧ q.1 ≤ hi ∧ wts_ q.2 ∧ ts.length = q.2.length + 1 := by
  cases ts with
  | nil => cases h
  | cons t r1 =>
    rw [tqn_l] at h
    by_cases c : t.1 = 2
    · rw [if_pos c] at h
      by_cases c1 : t.2.1 < lo ∨ hi < t.2.1
      · rw [if_pos c1] at h; cases h
      · rw [if_neg c1] at h
        injection h with h
        subst h
        exact ⟨by show lo ≤ t.2.1; omega, by show t.2.1 ≤ hi; omega, wts_t hw (by omega), rfl⟩
    · rw [if_neg c] at h; cases h
theorem tqk_j {k : Nat} {ts r : List tkn_} (h : tqk_ k ts = .inr r) (hk : 2 ≤ k) (hw : wts_ ts) : wts_ r ∧ ts.length = r.length + 1 := by
  cases ts with
  | nil => cases h
  | cons t r1 =>
    rw [tqk_l] at h
    by_cases c : t.1 = k
    · rw [if_pos c] at h
      injection h with h
      subst h
      exact ⟨wts_t hw (by omega), rfl⟩
    · rw [if_neg c] at h; cases h
theorem rzl_j : ∀ (ts : List tkn_) (z : Nat) (q : Nat × List tkn_), rzl_ z ts = .inr q → z < 4096 → wts_ ts → q.1 < 4096 ∧ wts_ q.2 ∧ q.2.length + 1 ≤ ts.length
  | [], _, _, h, _, _ => by cases h
  | t :: r, z, q, h, hz, hw => by
    rw [rzl_l] at h
    by_cases c : t.1 = 3
    · rw [if_pos c] at h
      by_cases c1 : bb_ z t.2.1 = 1
      · rw [if_pos c1] at h; cases h
      · rw [if_neg c1] at h
        have := rzl_j r (z ||| 2 ^ t.2.1) q h (or12 hz (pw12 (hw.2.2.2.1 c)).1) (wts_t hw (by omega))
        exact ⟨this.1, this.2.1, by rw [List.length_cons]; omega⟩
    · rw [if_neg c] at h
      by_cases c1 : t.1 = 59
      · rw [if_pos c1] at h
        injection h with h
        subst h
        exact ⟨hz, wts_t hw (by omega), Nat.le_refl _⟩
      · rw [if_neg c1] at h; cases h
theorem rlin_j {w : tw_} (hk : twk_ w) {ts : List tkn_} (hw : wts_ ts) {q : tw_ × List tkn_} (h : rlin_ w ts = .inr q) : twk_ q.1 ∧ q.2.length + 1 ≤ ts.length := by
  cases ts with
  | nil => cases h
  | cons t r =>
    rw [rlin_l] at h
    by_cases c1 : t.1 = 100
    · rw [if_pos c1] at h
      have hr := wts_t hw (by omega)
      unfold rway_ at h
      by_cases c2 : 24 ≤ w.1.length
      · rw [if_pos c2] at h; cases h
      · rw [if_neg c2] at h
        obtain ⟨a, a1, h⟩ := sbd_i h
        obtain ⟨b, b1, h⟩ := sbd_i h
        obtain ⟨c, d1, h⟩ := sbd_i h
        obtain ⟨u, g1, h⟩ := sbd_i h
        have ja := tqp_j a1 hr
        have jb := tqp_j b1 ja.2.2.1
        have jc := tqn_j d1 jb.2.2.1
        have ju := tqk_j g1 (by omega) jc.2.2.1
        injection h with h
        subst h
        exact ⟨⟨wok_a hk.1 (by omega) ja.1 jb.1 (fun e => jb.2.1 ((bb_2p ja.1 jb.1).mpr e)) jc.1 jc.2.1, hk.2⟩, by rw [List.length_cons]; show u.length + 1 ≤ _; omega⟩
    · rw [if_neg c1] at h
      by_cases c2 : t.1 = 101
      · rw [if_pos c2] at h
        have hr := wts_t hw (by omega)
        unfold rzon_ at h
        by_cases c3 : w.2.1 = 0
        · rw [if_pos c3] at h
          obtain ⟨a, a1, h⟩ := sbd_i h
          obtain ⟨b, b1, h⟩ := sbd_i h
          have ja := tqp_j a1 hr
          have jb := rzl_j _ _ _ b1 (pw12 ja.1).1 ja.2.2.1
          injection h with h
          subst h
          exact ⟨⟨hk.1, jb.1, hk.2.2⟩, by rw [List.length_cons]; show b.2.length + 1 ≤ _; omega⟩
        · rw [if_neg c3] at h; cases h
      · rw [if_neg c2] at h
        by_cases c3 : t.1 = 102
        · rw [if_pos c3] at h
          have hr := wts_t hw (by omega)
          unfold rcam_ at h
          by_cases c4 : 8 ≤ w.2.2.1.length
          · rw [if_pos c4] at h; cases h
          · rw [if_neg c4] at h
            obtain ⟨a, a1, h⟩ := sbd_i h
            obtain ⟨b, b1, h⟩ := sbd_i h
            obtain ⟨c, d1, h⟩ := sbd_i h
            obtain ⟨d, g1, h⟩ := sbd_i h
            obtain ⟨e, i1, h⟩ := sbd_i h
            obtain ⟨u, k1, h⟩ := sbd_i h
            have ja := tqp_j a1 hr
            have jb := tqk_j b1 (by omega) ja.2.2.1
            have jc := tqn_j d1 jb.1
            have jd := tqk_j g1 (by omega) jc.2.2.1
            have je := tqn_j i1 jd.1
            have ju := tqk_j k1 (by omega) je.2.2.1
            injection h with h
            subst h
            exact ⟨⟨hk.1, hk.2.1, cok_a hk.2.2.1 (by omega) ja.1 (by omega) je.2.1, or12 hk.2.2.2 (pw12 ja.1).1⟩, by rw [List.length_cons]; show u.length + 1 ≤ _; omega⟩
        · rw [if_neg c3] at h; cases h
theorem rls_m {L : List Nat} : ∀ (n : Nat) (ts : List tkn_) (w : tw_) (k : Nat) (m : fm_), ts.length ≤ n → rsn_ L ts m → twk_ w → twd_ w m → gi_ m 106 20 = nI k → (∃ f m1, rls_ n w ts k = .inl f ∧ f_X12_map_29 m = some (-1, m1) ∧ flm_ f m1 ∧ sa_ w_X12_readLine m m1) ∨ (∃ w1 k1 m1, rls_ n w ts k = .inr (w1, k1) ∧ f_X12_map_29 m = f_X12_map_61 0 m1 ∧ twk_ w1 ∧ twd_ w1 m1 ∧ gi_ m1 106 20 = nI k1 ∧ gi_ m1 106 2 = nI 0 ∧ gi_ m1 106 3 = -1 ∧ sa_ w_X12_readLine m m1) := by
  intro n
  induction n with
  | zero =>
    intro ts w k m hn h
    cases ts with
    | nil => exact absurd h.2.2.1 id
    | cons x r => exact absurd hn (by rw [List.length_cons]; omega)
  | succ n ih =>
    intro ts w k m hn h hw hm hk
    cases ts with
    | nil => exact absurd h.2.2.1 id
    | cons x r =>
      have hs := sor_m h (j := 0) (by omega) (by omega) (by omega)
      rw [rls_s, e_X12_map_29, if_pos (rsn_g h).2]
      by_cases c1 : x.1 = 0
      · rw [if_pos c1, if_pos (show gi_ m 106 6 = 0 from hs.mpr c1), if_pos (rsn_g h).1]
        exact Or.inr ⟨w, k, m, rfl, rfl, hw, hm, hk, h.2.1.1, h.2.1.2, sa_rf⟩
      · rw [if_neg c1, if_neg (show ¬ gi_ m 106 6 = 0 from fun q => c1 (hs.mp q))]
        rcases rlin_m hw h hm hk with ⟨f, m1, a1, a2, a3⟩ | ⟨w1, r1, m1, a1, a2, a3, a4, a5⟩
        · have s1 := fr_X12_readLine a2
          refine Or.inl ⟨f, m1, by rw [a1]; rfl, ?_, a3, s1⟩
          rw [a2, Option.bind_some]
          dsimp only
          rw [e_X12_map_29, if_neg (flm_g a3).2, if_neg (flm_g a3).1]
        · have s1 := fr_X12_readLine a2
          obtain ⟨j1, j2⟩ := rlin_j hw h.2.2.1 a1
          have j2 : r1.length + 1 ≤ (x :: r).length := j2
          rw [a1, sbd_r, a2, Option.bind_some]
          rcases ih r1 w1 (k + 1) m1 (by omega) a3 j1 a4 a5 with ⟨f, m2, b1, b2, b3, b4⟩ | ⟨w2, k2, m2, b1, b2, b3, b4, b5, b6, b7, b8⟩
          · exact Or.inl ⟨f, m2, b1, b2, b3, sa_t s1 b4⟩
          · exact Or.inr ⟨w2, k2, m2, b1, b2, b3, b4, b5, b6, b7, sa_t s1 b8⟩
def wmm_ : List (Nat × Nat × Nat) := [(106, 106, 2), (106, 106, 3), (106, 106, 4), (106, 106, 5), (106, 106, 6), (106, 106, 7), (106, 106, 8), (106, 106, 9), (106, 106, 10), (106, 106, 17), (106, 106, 18), (106, 106, 19), (106, 106, 20), (106, 106, 21), (108, 113, 0)]
theorem begin_m {L : List Nat} (hL : L.length ≤ 900) (hb : ∀ x ∈ L, x < 256) {ts : List tkn_} (hT : Tk_ L ts 0) (hw : wts_ ts) {m : fm_} (h : tm_ L m) : ∃ m1, f_X12_begin m = some (0, m1) ∧ rsn_ L ts m1 ∧ gi_ m1 106 1 = 0 := by
  have h0 : bm9_ L (si_ (si_ (si_ (si_ (si_ m 106 5 (gi_ m 106 1)) 106 1 0) 106 4 0) 106 2 0) 106 3 (-1)) := by
    refine ⟨hL, ?_, fun j b hj => ⟨hb b (List.mem_of_getElem? hj), ?_⟩⟩
    · rw [gi_si_ne (by omega), gi_si_ne (by omega), gi_si_ne (by omega), gi_si_ne (by omega), gi_si_self]; exact h.1
    · rw [gi_si_ne (by omega), gi_si_ne (by omega), gi_si_ne (by omega), gi_si_ne (by omega), gi_si_ne (by omega)]; exact h.2 j b hj
  obtain ⟨m1, e1, e2⟩ := next_m h0 (i := 0) (by omega) (by rw [gi_si_ne (by omega), gi_si_ne (by omega), gi_si_self]; rfl) hT
  have s := fr_X12_next e1
  refine ⟨m1, ?_, ⟨e2, ⟨?_, ?_⟩, hw, bm9_fr h0 s (by rfl)⟩, ?_⟩
  · unfold f_X12_begin
    rw [e1]
    rfl
  · rw [sa_gi s (by rfl), gi_si_ne (by omega), gi_si_self]; rfl
  · rw [sa_gi s (by rfl), gi_si_self]
  · rw [sa_gi s (by rfl), gi_si_ne (by omega), gi_si_ne (by omega), gi_si_ne (by omega), gi_si_self]
theorem map_m {L : List Nat} (hL : L.length ≤ 900) (hb : ∀ x ∈ L, x < 256) {ts : List tkn_} (hT : Tk_ L ts 0) (hw : wts_ ts) (h9 : ts.length ≤ 901) {m : fm_} (h : tm_ L m) {F : List fa_} {T : Nat} (hF : fw_ F T) (hf : fm1s_ F T m) : (∃ f m1, rls_ 901 w0_ ts 0 = .inl f ∧ f_X12_map m = some (-1, m1) ∧ flm_ f m1 ∧ gi_ m1 106 1 = 0 ∧ sa_ wmm_ m m1) ∨ (∃ w k m1, rls_ 901 w0_ ts 0 = .inr (w, k) ∧ f_X12_map m = some (nI k, m1) ∧ twk_ w ∧ wm_ w.1 m1 ∧ camm_ w.2.2.1 m1 ∧ gi_ m1 106 31 = nI w.2.1 ∧ gi_ m1 106 32 = nI w.2.2.2 ∧ tabm_ w.1 m1 ∧ fm1s_ (F.map drp_) T m1 ∧ gi_ m1 106 2 = nI 0 ∧ gi_ m1 106 3 = -1 ∧ gi_ m1 106 87 = nI 0 ∧ gi_ m1 106 1 = 0) := by
  have m0d : ∃ m0, m0 = si_ (si_ (si_ (si_ (si_ m 106 16 0) 106 17 0) 106 18 0) 106 19 0) 106 20 0 := ⟨_, rfl⟩
  obtain ⟨m0, hm0⟩ := m0d
  have s0 : sa_ [(106, 106, 17), (106, 106, 18), (106, 106, 19), (106, 106, 20), (106, 106, 21)] m m0 := by rw [hm0]; exact sa_si (by rfl) (sa_si (by rfl) (sa_si (by rfl) (sa_si (by rfl) (sa_si (by rfl) sa_rf))))
  have h0 : tm_ L m0 := ⟨(sa_gi s0 (by rfl)).trans h.1, fun j x hj => (sa_gi s0 (by rfl)).trans (h.2 j x hj)⟩
  obtain ⟨m1, e1, e2, e3⟩ := begin_m hL hb hT hw h0
  have s1 := fr_X12_begin e1
  have t1 : twd_ w0_ m1 := by
    refine ⟨?_, fun j q hj => ?_, ?_, ?_, fun j q hj => ?_, ?_⟩
    · rw [sa_gi s1 (by rfl), hm0, gi_si_ne (by omega), gi_si_ne (by omega), gi_si_ne (by omega), gi_si_ne (by omega), gi_si_self]; rfl
    · cases hj
    · rw [sa_gi s1 (by rfl), hm0, gi_si_ne (by omega), gi_si_ne (by omega), gi_si_self]; rfl
    · rw [sa_gi s1 (by rfl), hm0, gi_si_ne (by omega), gi_si_ne (by omega), gi_si_ne (by omega), gi_si_self]; rfl
    · cases hj
    · rw [sa_gi s1 (by rfl), hm0, gi_si_ne (by omega), gi_si_self]; rfl
  have c1 : gi_ m1 106 20 = nI 0 := by rw [sa_gi s1 (by rfl), hm0, gi_si_self]; rfl
  have em : f_X12_map m = f_X12_map_29 m1 := by
    unfold f_X12_map
    rw [← hm0, e1]
    rfl
  rw [em]
  rcases rls_m 901 ts w0_ 0 m1 h9 e2 twk_0 t1 c1 with ⟨f, m2, a1, a2, a3, a4⟩ | ⟨w, k, m2, a1, a2, a3, a4, a5, a6, a7, a8⟩
  · refine Or.inl ⟨f, m2, a1, a2, a3, ?_, sa_t (sa_up (by rfl) s0) (sa_t (sa_up (by rfl) s1) (sa_up (by rfl) a4))⟩
    rw [sa_gi a4 (by rfl)]; exact e3
  · have hW := a3.1.1
    have hC := a3.2.2.1.1
    obtain ⟨q1, q2, q3, q4, q5, q6⟩ := a4
    obtain ⟨m3, b1, b2, b3⟩ := take_w hW q1
    obtain ⟨m4, d1, d2, d3⟩ := take_k (nc := w.2.2.1.length) hC (m := m3) ((sa_gi b3 (by rfl)).trans q4)
    rw [sa_gi b3 (a := 106) (k := 16) (by rfl), q1, sa_gi b3 (a := 106) (k := 18) (by rfl), q3, sa_gi b3 (a := 106) (k := 19) (by rfl), q6] at d1
    have m5d : ∃ m5, m5 = si_ (si_ (si_ (si_ m4 106 29 (nI w.1.length)) 106 30 (nI w.2.2.1.length)) 106 31 (nI w.2.1)) 106 32 (nI w.2.2.2) := ⟨_, rfl⟩
    obtain ⟨m5, hm5⟩ := m5d
    rw [← hm5] at d1
    have s5 : sa_ [(106, 106, 30), (106, 106, 31), (106, 106, 32), (106, 106, 33)] m4 m5 := by rw [hm5]; exact sa_si (by rfl) (sa_si (by rfl) (sa_si (by rfl) (sa_si (by rfl) sa_rf)))
    have f5 : fm1s_ F T m5 := by
      have x0 := fm1s_ag hf (sa_ag (by rfl) s0)
      have x1 := fm1s_ag x0 (sa_ag (by rfl) s1)
      have x2 := fm1s_ag x1 (sa_ag (by rfl) a8)
      have x3 := fm1s_ag x2 (sa_ag (by rfl) b3)
      have x4 := fm1s_ag x3 (sa_ag (by rfl) d3)
      exact fm1s_ag x4 (sa_ag (by rfl) s5)
    obtain ⟨m6, g1, g2, g3⟩ := drop_m hF f5
    have s7 : sa_ [(106, 106, 88)] m6 (si_ m6 106 87 0) := sa_si (by rfl) sa_rf
    have w7 : wm_ w.1 (si_ m6 106 87 0) := by
      refine ⟨?_, fun j q hj => ?_⟩
      · rw [sa_gi s7 (by rfl), sa_gi g3 (by rfl), hm5, gi_si_ne (by omega), gi_si_ne (by omega), gi_si_ne (by omega), gi_si_self]
      · have hj1 := (List.getElem?_eq_some_iff.mp hj).1
        obtain ⟨y1, y2, y3⟩ := q2 j q hj
        obtain ⟨z1, z2, z3⟩ := b2 j hj1
        refine ⟨?_, ?_, ?_⟩
        · rw [sa_gi s7 (by rfl), sa_gi g3 (by rfl), sa_gi s5 (by rfl), sa_gi d3 (by rfl), z1]; exact y1
        · rw [sa_gi s7 (by rfl), sa_gi g3 (by rfl), sa_gi s5 (by rfl), sa_gi d3 (by rfl), z2]; exact y2
        · rw [sa_gi s7 (by rfl), sa_gi g3 (by rfl), sa_gi s5 (by rfl), sa_gi d3 (by rfl), z3]; exact y3
    obtain ⟨m8, i1, i2⟩ := meas_m a3.1 w7
    have s8 := fr_X12_measure i1
    have k8 : gi_ m8 106 20 = nI k := by
      rw [sa_gi s8 (by rfl), sa_gi s7 (by rfl), sa_gi g3 (by rfl), sa_gi s5 (by rfl), sa_gi d3 (by rfl), sa_gi b3 (by rfl)]; exact a5
    refine Or.inr ⟨w, k, m8, a1, ?_, a3, ⟨?_, fun j q hj => ?_⟩, ⟨?_, fun j q hj => ?_⟩, ?_, ?_, i2, ?_, ?_, ?_, ?_, ?_⟩
    · have b1 : f_X12_map_61 0 m2 = f_X12_map_113 (nI 0) m3 := b1
      rw [a2, b1, d1, g1, e_X12_map_197, g2.1, List.length_map, if_pos (nI_le (Nat.le_refl _) (by have := hF.1; omega)), i1, Option.bind_some]
      dsimp only
      rw [k8]
    · rw [sa_gi s8 (by rfl)]; exact w7.1
    · rw [sa_gi s8 (by rfl), sa_gi s8 (by rfl), sa_gi s8 (by rfl)]; exact w7.2 j q hj
    · rw [sa_gi s8 (by rfl), sa_gi s7 (by rfl), sa_gi g3 (by rfl), hm5, gi_si_ne (by omega), gi_si_ne (by omega), gi_si_self]
    · have hj1 := (List.getElem?_eq_some_iff.mp hj).1
      obtain ⟨y1, y2, y3⟩ := q5 j q hj
      obtain ⟨z1, z2, z3⟩ := d2 j hj1
      refine ⟨?_, ?_, ?_⟩
      · rw [sa_gi s8 (by rfl), sa_gi s7 (by rfl), sa_gi g3 (by rfl), sa_gi s5 (by rfl), z1, sa_gi b3 (by rfl)]; exact y1
      · rw [sa_gi s8 (by rfl), sa_gi s7 (by rfl), sa_gi g3 (by rfl), sa_gi s5 (by rfl), z2, sa_gi b3 (by rfl)]; exact y2
      · rw [sa_gi s8 (by rfl), sa_gi s7 (by rfl), sa_gi g3 (by rfl), sa_gi s5 (by rfl), z3, sa_gi b3 (by rfl)]; exact y3
    · rw [sa_gi s8 (by rfl), sa_gi s7 (by rfl), sa_gi g3 (by rfl), hm5, gi_si_ne (by omega), gi_si_self]
    · rw [sa_gi s8 (by rfl), sa_gi s7 (by rfl), sa_gi g3 (by rfl), hm5, gi_si_self]
    · exact fm1s_ag (fm1s_ag g2 (sa_ag (by rfl) s7)) (sa_ag (by rfl) s8)
    · rw [sa_gi s8 (by rfl), sa_gi s7 (by rfl), sa_gi g3 (by rfl), sa_gi s5 (by rfl), sa_gi d3 (by rfl), sa_gi b3 (by rfl)]; exact a6
    · rw [sa_gi s8 (by rfl), sa_gi s7 (by rfl), sa_gi g3 (by rfl), sa_gi s5 (by rfl), sa_gi d3 (by rfl), sa_gi b3 (by rfl)]; exact a7
    · rw [sa_gi s8 (by rfl), gi_si_self]; rfl
    · rw [sa_gi s8 (by rfl), sa_gi s7 (by rfl), sa_gi g3 (by rfl), sa_gi s5 (by rfl), sa_gi d3 (by rfl), sa_gi b3 (by rfl), sa_gi a8 (by rfl)]; exact e3
