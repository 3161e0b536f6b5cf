/-! ===== what is known of the start ===== -/
theorem fx_ac {s : State} {A0 : Array Value} {t : FieldType} (h : (Cond.arrayClass t).before A0 s = true) : ∃ cA : ClassId, ArrOfT s cA t ∧ s.vm.findClass ("[" ++ t.toString) = some cA := by
  obtain ⟨cA, kA, comp, h1, h2, h3⟩ := Cond.arrayClass_spec h
  exact ⟨cA, fun n z => ⟨fun k h => (by cases h), kA, h2, comp, h3⟩, h1⟩
theorem fx_gok {s : State} {A0 : Array Value} (hts : ∀ w ∈ lw_tbl, w.before A0 s = true) (ad : Nat → Nat) (had : ∀ a, a < 168 → ad a = s.heap.size + a) : ∃ (D : va_G) (cA : Nat → ClassId), am_gok (s, D, cA, ad) := by
  have h0 : ∀ c : Nat, ∃ z : ClassId × (Nat → Nat), ∀ q : vw_C, am_cl[c]? = some q → u_Kn s q.1 q.2.1 q.2.2 z.1 z.2 := by
    intro c
    cases hq : am_cl[c]? with
    | none => exact ⟨(0, fun _ => 0), fun q h => by cases h⟩
    | some q =>
      obtain ⟨cC, iS, hK⟩ := u_known (C := q.1) (T := q.2.1) (N := q.2.2) (n := q.2.2) hts (am_lay c q hq) (hts _ (am_ins c q hq).1)
      exact ⟨(cC, iS), fun q1 h1 => by cases h1; exact hK⟩
  obtain ⟨z, hz⟩ := Classical.axiomOfChoice h0
  obtain ⟨c0, a0, b0⟩ := fx_ac (hts (.arrayClass .int) (am_pos_in (p := 181) (by decide +kernel)))
  obtain ⟨c1, a1, b1⟩ := fx_ac (hts (.arrayClass .byte) (am_pos_in (p := 180) (by decide +kernel)))
  obtain ⟨c2, a2, b2⟩ := fx_ac (hts (.arrayClass .boolean) (am_pos_in (p := 497) (by decide +kernel)))
  obtain ⟨c3, a3, b3⟩ := fx_ac (hts (.arrayClass .long) (am_pos_in (p := 395) (by decide +kernel)))
  obtain ⟨comp, c4, k4, f1, -, f2, f3, f4⟩ := Cond.arrayOver_spec (hts (.arrayOver (.object "AirZone$Orders")) (am_pos_in (p := 287) (by decide +kernel)))
  refine ⟨(fun c => (z c).1, fun c => (z c).2), fun k => match k with
    | 0 => c0
    | 1 => c1
    | 2 => c2
    | 3 => c3
    | _ => c4, ⟨fun c q hq => hz c q hq, fun k q hk => ?_⟩, had, A0, hts⟩
  match k, hk with
  | 0, hk => cases hk; exact ⟨a0, b0⟩
  | 1, hk => cases hk; exact ⟨a1, b1⟩
  | 2, hk => cases hk; exact ⟨a2, b2⟩
  | 3, hk => cases hk; exact ⟨a3, b3⟩
  | 4, hk => cases hk; exact ⟨fun n z => ⟨fun k h => (by cases h), k4, f2, comp, f3⟩, k4, comp, f2, f3, f1, f4⟩
  | k + 5, hk => simp [am_tys] at hk
set_option maxRecDepth 100000 in
theorem fx_sdw {s : State} {b : Nat} (hts : ∀ w ∈ lw_tbl, w.before #[Value.ref b] s = true) (hgv : (Jvm.Cond.and given_1 narrow_1).before #[Value.ref b] s = true) : ∃ t : Nat, va_T .int t 7 (fun j => .int (fx_dwf j)) (fun q => s.heap.size ≤ q) s s.heap ∧ va_Z "AirZone" "DIGIT_WORTH" "[I" (.ref t) (fun q => s.heap.size ≤ q) s s.heap := by
  have hs := flat_of_before _ hgv
  have harr : (Cond.arrayOf (.static "AirZone" "DIGIT_WORTH" "[I") .int).before #[Value.ref b] s = true := hs _ (by decide +kernel)
  have hlen : (Cond.eq (.length (.static "AirZone" "DIGIT_WORTH" "[I")) (.int 7)).before #[Value.ref b] s = true := hs _ (by decide +kernel)
  have hA : ∀ a : Nat, a < s.heap.size → ¬ (fun q => s.heap.size ≤ q) a := fun a h q => by have q : s.heap.size ≤ a := q; omega
  obtain ⟨t, ht, hT⟩ := va_Tof (N := 7) (f := fun j => .int (fx_dwf j)) (A := fun q => s.heap.size ≤ q) (by omega) harr (va_eqt hlen) (fun j hj => by
    match j, hj with
    | 0, _ => exact va_eqt (hs (.eq (.elem (.static "AirZone" "DIGIT_WORTH" "[I") (.int 0)) (.int 1)) (by decide +kernel))
    | 1, _ => exact va_eqt (hs (.eq (.elem (.static "AirZone" "DIGIT_WORTH" "[I") (.int 1)) (.int 11)) (by decide +kernel))
    | 2, _ => exact va_eqt (hs (.eq (.elem (.static "AirZone" "DIGIT_WORTH" "[I") (.int 2)) (.int 121)) (by decide +kernel))
    | 3, _ => exact va_eqt (hs (.eq (.elem (.static "AirZone" "DIGIT_WORTH" "[I") (.int 3)) (.int 1331)) (by decide +kernel))
    | 4, _ => exact va_eqt (hs (.eq (.elem (.static "AirZone" "DIGIT_WORTH" "[I") (.int 4)) (.int 14641)) (by decide +kernel))
    | 5, _ => exact va_eqt (hs (.eq (.elem (.static "AirZone" "DIGIT_WORTH" "[I") (.int 5)) (.int 161051)) (by decide +kernel))
    | 6, _ => exact va_eqt (hs (.eq (.elem (.static "AirZone" "DIGIT_WORTH" "[I") (.int 6)) (.int 1771561)) (by decide +kernel))
    | j + 7, hj => omega) hA
  exact ⟨t, hT, va_Zof (hts _ (am_pos_in (p := 1088) (by decide +kernel))) (hts _ (am_pos_in (p := 115) (by decide +kernel))) ht hA⟩
