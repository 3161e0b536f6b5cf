/-! ===== the start as the abstract machine wants it ===== -/
theorem str_1 {args : Array Value} {s : State} {tm : Term} {N : Nat} {f : Nat → Value} {A : Nat → Prop} (hN : N < 2 ^ 31) (hex : (Cond.exactly tm "java/lang/String").before args s = true) (hco : (Cond.eq (.field tm "java/lang/String" "coder" "B") (.int 0)).before args s = true) (har : (Cond.arrayOf (.field tm "java/lang/String" "value" "[B") .byte).before args s = true) (hle : (Cond.eq (.length (.field tm "java/lang/String" "value" "[B")) (.int (Int32.ofNat N))).before args s = true) (hel : ∀ j : Nat, j < N → (Term.elem (.field tm "java/lang/String" "value" "[B") (.int (Int32.ofNat j))).eval args s none [] s = some (f j)) (hA : ∀ a : Nat, a < s.heap.size → ¬ A a) : ∃ a v : Nat, tm.eval args s none [] s = some (.ref a) ∧ va_O "java/lang/String" a A s s.heap ∧ va_OF "java/lang/String" "coder" "B" (.int 0) a A s s.heap ∧ va_OF "java/lang/String" "value" "[B" (.ref v) a A s s.heap ∧ va_T .byte v N f A s s.heap := by
  obtain ⟨a, c, cA, kA, q1, q2, q3, q4, q5, q6, -⟩ := Cond.exactly_spec (args := args) (first := s) (o := none) (s := s) (idx := []) (t := tm) (cls := "java/lang/String") hex
  obtain ⟨t, ht, hT⟩ := va_Tof (f := f) (A := A) hN har (va_eqt hle) hel hA
  exact ⟨a, t, q1, ⟨cA, q3, q5, by rw [q6]; exact q2, hA a (Array.getElem?_eq_some_iff.mp q3).1⟩, vk_OFof q1 (va_eqt hco) hA, vk_OFof q1 ht hA, hT⟩
def stm_ (k : Nat) : Term := .string "AirZone$Text" (fx_six.getD k 0)
def stvv_ (k : Nat) : Term := .field (stm_ k) "java/lang/String" "value" "[B"
def stw1_ (k : Nat) : List Cond := [.exactly (stm_ k) "java/lang/String", .eq (.field (stm_ k) "java/lang/String" "coder" "B") (.int 0), .arrayOf (stvv_ k) .byte, .eq (.length (stvv_ k)) (.int (Int32.ofNat (fx_wd k).length))]
def stw2_ (k : Nat) : List Cond := (List.range (fx_wd k).length).map fun j => .eq (.elem (stvv_ k) (.int (Int32.ofNat j))) (.int ((fx_wd k).getD j 0))
set_option maxRecDepth 100000 in
theorem stw1_in : ((List.range 23).all fun k => (stw1_ k).all fun w => decide (w ∈ flatC (Jvm.Cond.and given_1 narrow_1))) = true := by decide +kernel
set_option maxRecDepth 100000 in
theorem stw2_in : ((List.range 23).all fun k => (stw2_ k).all fun w => decide (w ∈ flatC (Jvm.Cond.and given_1 narrow_1))) = true := by decide +kernel
set_option maxRecDepth 100000 in
theorem str_in : ((List.range 23).all fun k => decide (Cond.stringRef "AirZone$Text" (fx_six.getD k 0) (fx_txt.getD k "") ∈ lw_tbl)) = true := by decide +kernel
theorem wd_255 : ∀ k, k < 23 → ∀ j, j < (fx_wd k).length → (fx_wd k).getD j 0 &&& 255 = (fx_wd k).getD j 0 := by decide +kernel
theorem wd_len : ∀ k, k < 23 → (fx_wd k).length < 2 ^ 31 := by decide +kernel
theorem fx_start {p : Program} {s : State} {m : MethodId} {meth : Method} {c : Code} (l : Launch) {b L : Nat} {xs : Nat → Int32} (C0 : lw_At p s m meth c b L xs) : ∃ g : am_G, fx_ l g ∧ g.1 = s ∧ am_ad g 1000 = b := by
  have hts := C0.2.2.2.2.2.1
  have hgv := C0.2.2.2.2.2.2.2.2.2
  have hs := flat_of_before _ hgv
  have hA : ∀ a : Nat, a < s.heap.size → ¬ (fun q => s.heap.size ≤ q) a := fun a h q => by have q : s.heap.size ≤ a := q; omega
  obtain ⟨t, hT, hZ⟩ := fx_sdw hts hgv
  have hcs : va_Z "java/lang/String" "COMPACT_STRINGS" "Z" (.int 1) (fun q => s.heap.size ≤ q) s s.heap := va_Zof (hts _ (am_pos_in (p := 719) (by decide +kernel))) (hts _ (am_pos_in (p := 130) (by decide +kernel))) (va_eqt (hs (.eq (.static "java/lang/String" "COMPACT_STRINGS" "Z") (.int 1)) (by decide +kernel))) hA
  have hfm : sF_ (fun q => s.heap.size ≤ q) s s.heap := by
    obtain ⟨v, hv, hr⟩ := Cond.isRef_spec (show (Cond.isRef (.static "jdk/internal/util/Preconditions" "SIOOBE_FORMATTER" "Ljava/util/function/BiFunction;")).holds #[Value.ref b] s none s [] = true from hs (.isRef (.static "jdk/internal/util/Preconditions" "SIOOBE_FORMATTER" "Ljava/util/function/BiFunction;")) (by decide +kernel))
    refine ⟨v, ?_, va_Zof (hts _ (am_pos_in (p := 735) (by decide +kernel))) (hts _ (am_pos_in (p := 132) (by decide +kernel))) hv hA⟩
    cases v with
    | null => exact Or.inl rfl
    | ref a => exact Or.inr ⟨a, rfl⟩
    | int x => cases hr
    | long x => cases hr
    | float x => cases hr
    | double x => cases hr
    | retAddr x => cases hr
  have h0 : ∀ k : Nat, ∃ q : Nat × Nat, k < 23 → (stm_ k).eval #[Value.ref b] s none [] s = some (.ref q.1) ∧ sS_ q.1 q.2 (fx_wd k).length (fun j => .int ((fx_wd k).getD j 0)) (fun q => s.heap.size ≤ q) s s.heap := by
    intro k
    by_cases hk : k < 23
    · have w1 : ∀ w ∈ stw1_ k, w.before #[Value.ref b] s = true := fun w hw => hs w (of_decide_eq_true (List.all_eq_true.mp (List.all_eq_true.mp stw1_in k (List.mem_range.mpr hk)) w hw))
      have w2 : ∀ w ∈ stw2_ k, w.before #[Value.ref b] s = true := fun w hw => hs w (of_decide_eq_true (List.all_eq_true.mp (List.all_eq_true.mp stw2_in k (List.mem_range.mpr hk)) w hw))
      obtain ⟨a, v, q1, q2, q3, q4, q5⟩ := str_1 (tm := stm_ k) (f := fun j => .int ((fx_wd k).getD j 0)) (wd_len k hk) (w1 _ (List.mem_of_getElem? (i := 0) rfl)) (w1 _ (List.mem_of_getElem? (i := 1) rfl)) (w1 _ (List.mem_of_getElem? (i := 2) rfl)) (w1 _ (List.mem_of_getElem? (i := 3) rfl)) (fun j hj => va_eqt (w2 _ (List.mem_map.mpr ⟨j, List.mem_range.mpr hj, rfl⟩))) hA
      exact ⟨(a, v), fun _ => ⟨q1, q2, q3, q4, q5, hcs, hfm⟩⟩
    · exact ⟨(0, 0), fun h => absurd h hk⟩
  obtain ⟨K, hK⟩ := Classical.axiomOfChoice h0
  have add : ∃ ad : Nat → Nat, (∀ a, a < 168 → ad a = s.heap.size + a) ∧ ad 1000 = b ∧ ad 1001 = t ∧ ∀ k, ad (2000 + k) = (K k).1 := by
    refine ⟨fun a => if a < 168 then s.heap.size + a else if a = 1000 then b else if a = 1001 then t else (K (a - 2000)).1, fun a ha => if_pos ha, ?_, ?_, fun k => ?_⟩
    · show (if 1000 < 168 then _ else if 1000 = 1000 then b else _) = b
      rw [if_neg (by omega), if_pos rfl]
    · show (if 1001 < 168 then _ else if 1001 = 1000 then b else if 1001 = 1001 then t else _) = t
      rw [if_neg (by omega), if_neg (by omega), if_pos rfl]
    · show (if 2000 + k < 168 then _ else if 2000 + k = 1000 then b else if 2000 + k = 1001 then t else (K (2000 + k - 2000)).1) = _
      rw [if_neg (by omega), if_neg (by omega), if_neg (by omega), Nat.add_sub_cancel_left]
  obtain ⟨ad, d1, d2, d3, d4⟩ := add
  obtain ⟨D, cA, hg⟩ := fx_gok hts ad d1
  refine ⟨(s, D, cA, ad), ⟨hg, ⟨?_, ?_⟩, fun k hk => ?_, fun k hk => ?_, fun k j hk hj => ?_⟩, rfl, d2⟩
  · show va_T .int (ad 1001) 7 (fun j => .int (fx_dwf j)) (fun q => s.heap.size ≤ q) s s.heap
    rw [d3]
    exact hT
  · show va_Z "AirZone" "DIGIT_WORTH" "[I" (.ref (ad 1001)) (fun q => s.heap.size ≤ q) s s.heap
    rw [d3]
    exact hZ
  · show vk_R (am_ow 8) (fx_six.getD k 0) (fx_txt.getD k "") (ad (2000 + k)) s
    rw [am_ow8, d4]
    exact vk_R.of (A := #[Value.ref b]) (hts _ (of_decide_eq_true (List.all_eq_true.mp str_in k (List.mem_range.mpr hk)))) (hK k hk).1
  · exact vs_len l (g := (s, D, cA, ad)) (wd_len k hk) (d4 k) (hK k hk).2
  · have := vs_chr l (g := (s, D, cA, ad)) (wd_len k hk) (d4 k) (hK k hk).2 hj (bb := (fx_wd k).getD j 0) rfl
    rw [wd_255 k hk j hj] at this
    exact this
/-- from the entry, for every script of at most 3584 ints, the law comes to its end with true -/
theorem whole_start {p : Program} {e : Env} {s : State} {m : MethodId} {below : List Frame} {meth : Method} {c : Code} (l : Launch) {b L : Nat} {xs : Nat → Int32} (hL : L ≤ 3584) (C0 : lw_At p s m meth c b L xs) : W p l e room_1 s m #[Value.ref b] below meth c s.heap [] 0 0 (lw_Z below #[Value.ref b] s) (entryFrame m ([Value.ref b] : List Value).toArray 4) := by
  obtain ⟨g, hg, hgs, hb0⟩ := fx_start l C0
  obtain ⟨m', e1⟩ := law_1 L hL xs
  exact lw_whole l C0 hg hgs hb0 e1 rfl
