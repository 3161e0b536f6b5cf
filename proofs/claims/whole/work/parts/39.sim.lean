/-! ===== the law out of a simulation for each method ===== -/
/-- one call on both: the answers are one, and what holds of both goes on -/
def sm_ (J : Nat → fm_ → Prop) (fc fm : fm_ → Option (Int32 × fm_)) : Prop := ∀ k m, k < 512 → J k m → ∃ r m1 m2, fc m = some (r, m1) ∧ fm m1 = some (r, m2) ∧ J (k + 1) m2
theorem lc_one {P : fm_ → Prop} {fc fm : fm_ → Option (Int32 × fm_)} {m : fm_} {K : fm_ → Option (Int32 × fm_)} (h : ∃ r m1 m2, fc m = some (r, m1) ∧ fm m1 = some (r, m2) ∧ P m2) (cont : ∀ m2, P m2 → ∃ m', K m2 = some (1, m')) : ∃ m', (Option.bind (fc m) fun q => Option.bind (fm q.2) fun q8 => if q.1 = q8.1 then K q8.2 else some (0, q8.2)) = some (1, m') := by
  obtain ⟨r, m1, m2, e1, e2, h⟩ := h
  obtain ⟨m', hm⟩ := cont m2 h
  refine ⟨m', ?_⟩
  rw [e1]
  show (Option.bind (fm m1) fun q8 => if r = q8.1 then K q8.2 else some (0, q8.2)) = _
  rw [e2]
  show (if r = r then K m2 else some (0, m2)) = _
  rw [if_pos rfl]
  exact hm
theorem lc_180 {J : Nat → fm_ → Prop} (H : ∀ (a0 : Int32) (a1 : Int32) (a2 : Int32) (a3 : Int32) (a4 : Int32), sm_ J (f_X11_feed a0 a1 a2 a3 a4) (f_X12_feed a0 a1 a2 a3 a4)) {L : Nat} {xs : Nat → Int32} {x3 : Int32} (hx : ∀ j : Nat, 1 ≤ j → j < 7 → ix_ (x3 + nI j) L = true) {k : Nat} (hk : k < 512) {m : fm_} (hJ : J k m) (cont : ∀ m2, J (k + 1) m2 → ∃ m', f_L_18 L xs (x3 + 7) m2 = some (1, m')) : ∃ m', f_L_180 L xs x3 m = some (1, m') := by
  rw [e_L_180]
  have g1 : ∀ x : Option (Int32 × fm_), gd_ (ix_ (x3 + 1) L) x = x := fun x => gd_t (hx 1 (by omega) (by omega))
  have g2 : ∀ x : Option (Int32 × fm_), gd_ (ix_ (x3 + 2) L) x = x := fun x => gd_t (hx 2 (by omega) (by omega))
  have g3 : ∀ x : Option (Int32 × fm_), gd_ (ix_ (x3 + 3) L) x = x := fun x => gd_t (hx 3 (by omega) (by omega))
  have g4 : ∀ x : Option (Int32 × fm_), gd_ (ix_ (x3 + 4) L) x = x := fun x => gd_t (hx 4 (by omega) (by omega))
  have g5 : ∀ x : Option (Int32 × fm_), gd_ (ix_ (x3 + 5) L) x = x := fun x => gd_t (hx 5 (by omega) (by omega))
  simp only [g1, g2, g3, g4, g5]
  exact lc_one (P := J (k + 1)) (H _ _ _ _ _ k m hk hJ) cont
theorem lc_243 {J : Nat → fm_ → Prop} (H : ∀ (a0 : Int32), sm_ J (f_X11_end a0) (f_X12_end a0)) {L : Nat} {xs : Nat → Int32} {x3 : Int32} (hx : ∀ j : Nat, 1 ≤ j → j < 7 → ix_ (x3 + nI j) L = true) {k : Nat} (hk : k < 512) {m : fm_} (hJ : J k m) (cont : ∀ m2, J (k + 1) m2 → ∃ m', f_L_18 L xs (x3 + 7) m2 = some (1, m')) : ∃ m', f_L_243 L xs x3 m = some (1, m') := by
  rw [e_L_243]
  have g1 : ∀ x : Option (Int32 × fm_), gd_ (ix_ (x3 + 1) L) x = x := fun x => gd_t (hx 1 (by omega) (by omega))
  simp only [g1]
  exact lc_one (P := J (k + 1)) (H _ k m hk hJ) cont
theorem lc_266 {J : Nat → fm_ → Prop} (H : sm_ J f_X11_map f_X12_map) {L : Nat} {xs : Nat → Int32} {x3 : Int32} (hx : ∀ j : Nat, 1 ≤ j → j < 7 → ix_ (x3 + nI j) L = true) {k : Nat} (hk : k < 512) {m : fm_} (hJ : J k m) (cont : ∀ m2, J (k + 1) m2 → ∃ m', f_L_18 L xs (x3 + 7) m2 = some (1, m')) : ∃ m', f_L_266 L xs x3 m = some (1, m') := by
  rw [e_L_266]
  exact lc_one (P := J (k + 1)) (H k m hk hJ) cont
theorem lc_279 {J : Nat → fm_ → Prop} (H : ∀ (a0 : Int32), sm_ J (f_X11_orders a0) (f_X12_orders a0)) {L : Nat} {xs : Nat → Int32} {x3 : Int32} (hx : ∀ j : Nat, 1 ≤ j → j < 7 → ix_ (x3 + nI j) L = true) {k : Nat} (hk : k < 512) {m : fm_} (hJ : J k m) (cont : ∀ m2, J (k + 1) m2 → ∃ m', f_L_18 L xs (x3 + 7) m2 = some (1, m')) : ∃ m', f_L_279 L xs x3 m = some (1, m') := by
  rw [e_L_279]
  have g1 : ∀ x : Option (Int32 × fm_), gd_ (ix_ (x3 + 1) L) x = x := fun x => gd_t (hx 1 (by omega) (by omega))
  simp only [g1]
  exact lc_one (P := J (k + 1)) (H _ k m hk hJ) cont
theorem lc_302 {J : Nat → fm_ → Prop} (H : ∀ (a0 : Int32), sm_ J (f_X11_fault a0) (f_X12_fault a0)) {L : Nat} {xs : Nat → Int32} {x3 : Int32} (hx : ∀ j : Nat, 1 ≤ j → j < 7 → ix_ (x3 + nI j) L = true) {k : Nat} (hk : k < 512) {m : fm_} (hJ : J k m) (cont : ∀ m2, J (k + 1) m2 → ∃ m', f_L_18 L xs (x3 + 7) m2 = some (1, m')) : ∃ m', f_L_302 L xs x3 m = some (1, m') := by
  rw [e_L_302]
  have g1 : ∀ x : Option (Int32 × fm_), gd_ (ix_ (x3 + 1) L) x = x := fun x => gd_t (hx 1 (by omega) (by omega))
  simp only [g1]
  exact lc_one (P := J (k + 1)) (H _ k m hk hJ) cont
theorem lc_325 {J : Nat → fm_ → Prop} (H : ∀ (a0 : Int32) (a1 : Int32), sm_ J (f_X11_between a0 a1) (f_X12_between a0 a1)) {L : Nat} {xs : Nat → Int32} {x3 : Int32} (hx : ∀ j : Nat, 1 ≤ j → j < 7 → ix_ (x3 + nI j) L = true) {k : Nat} (hk : k < 512) {m : fm_} (hJ : J k m) (cont : ∀ m2, J (k + 1) m2 → ∃ m', f_L_18 L xs (x3 + 7) m2 = some (1, m')) : ∃ m', f_L_325 L xs x3 m = some (1, m') := by
  rw [e_L_325]
  have g1 : ∀ x : Option (Int32 × fm_), gd_ (ix_ (x3 + 1) L) x = x := fun x => gd_t (hx 1 (by omega) (by omega))
  have g2 : ∀ x : Option (Int32 × fm_), gd_ (ix_ (x3 + 2) L) x = x := fun x => gd_t (hx 2 (by omega) (by omega))
  simp only [g1, g2]
  exact lc_one (P := J (k + 1)) (H _ _ k m hk hJ) cont
theorem lc_358 {J : Nat → fm_ → Prop} (H : ∀ (a0 : Int64) (a1 : Int32), sm_ J (f_X11_plate a0 a1) (f_X12_plate a0 a1)) {L : Nat} {xs : Nat → Int32} {x3 : Int32} (hx : ∀ j : Nat, 1 ≤ j → j < 7 → ix_ (x3 + nI j) L = true) {k : Nat} (hk : k < 512) {m : fm_} (hJ : J k m) (cont : ∀ m2, J (k + 1) m2 → ∃ m', f_L_18 L xs (x3 + 7) m2 = some (1, m')) : ∃ m', f_L_358 L xs x3 m = some (1, m') := by
  rw [e_L_358]
  have g1 : ∀ x : Option (Int32 × fm_), gd_ (ix_ (x3 + 1) L) x = x := fun x => gd_t (hx 1 (by omega) (by omega))
  have g2 : ∀ x : Option (Int32 × fm_), gd_ (ix_ (x3 + 2) L) x = x := fun x => gd_t (hx 2 (by omega) (by omega))
  have g3 : ∀ x : Option (Int32 × fm_), gd_ (ix_ (x3 + 3) L) x = x := fun x => gd_t (hx 3 (by omega) (by omega))
  simp only [g1, g2, g3]
  exact lc_one (P := J (k + 1)) (H _ _ k m hk hJ) cont
theorem lc_421 {J : Nat → fm_ → Prop} (H : ∀ (a0 : Int32) (a1 : Int32) (a2 : Int32) (a3 : Int32) (a4 : Int32) (a5 : Int32), sm_ J (f_X11_papers a0 a1 a2 a3 a4 a5) (f_X12_papers a0 a1 a2 a3 a4 a5)) {L : Nat} {xs : Nat → Int32} {x3 : Int32} (hx : ∀ j : Nat, 1 ≤ j → j < 7 → ix_ (x3 + nI j) L = true) {k : Nat} (hk : k < 512) {m : fm_} (hJ : J k m) (cont : ∀ m2, J (k + 1) m2 → ∃ m', f_L_18 L xs (x3 + 7) m2 = some (1, m')) : ∃ m', f_L_421 L xs x3 m = some (1, m') := by
  rw [e_L_421]
  have g1 : ∀ x : Option (Int32 × fm_), gd_ (ix_ (x3 + 1) L) x = x := fun x => gd_t (hx 1 (by omega) (by omega))
  have g2 : ∀ x : Option (Int32 × fm_), gd_ (ix_ (x3 + 2) L) x = x := fun x => gd_t (hx 2 (by omega) (by omega))
  have g3 : ∀ x : Option (Int32 × fm_), gd_ (ix_ (x3 + 3) L) x = x := fun x => gd_t (hx 3 (by omega) (by omega))
  have g4 : ∀ x : Option (Int32 × fm_), gd_ (ix_ (x3 + 4) L) x = x := fun x => gd_t (hx 4 (by omega) (by omega))
  have g5 : ∀ x : Option (Int32 × fm_), gd_ (ix_ (x3 + 5) L) x = x := fun x => gd_t (hx 5 (by omega) (by omega))
  have g6 : ∀ x : Option (Int32 × fm_), gd_ (ix_ (x3 + 6) L) x = x := fun x => gd_t (hx 6 (by omega) (by omega))
  simp only [g1, g2, g3, g4, g5, g6]
  exact lc_one (P := J (k + 1)) (H _ _ _ _ _ _ k m hk hJ) cont
theorem lc_496 {J : Nat → fm_ → Prop} (H : ∀ (a0 : Int32) (a1 : Int32) (a2 : Int32) (a3 : Int64), sm_ J (f_X11_read a0 a1 a2 a3) (f_X12_read a0 a1 a2 a3)) {L : Nat} {xs : Nat → Int32} {x3 : Int32} (hx : ∀ j : Nat, 1 ≤ j → j < 7 → ix_ (x3 + nI j) L = true) {k : Nat} (hk : k < 512) {m : fm_} (hJ : J k m) (cont : ∀ m2, J (k + 1) m2 → ∃ m', f_L_18 L xs (x3 + 7) m2 = some (1, m')) : ∃ m', f_L_496 L xs x3 m = some (1, m') := by
  rw [e_L_496]
  have g1 : ∀ x : Option (Int32 × fm_), gd_ (ix_ (x3 + 1) L) x = x := fun x => gd_t (hx 1 (by omega) (by omega))
  have g2 : ∀ x : Option (Int32 × fm_), gd_ (ix_ (x3 + 2) L) x = x := fun x => gd_t (hx 2 (by omega) (by omega))
  have g3 : ∀ x : Option (Int32 × fm_), gd_ (ix_ (x3 + 3) L) x = x := fun x => gd_t (hx 3 (by omega) (by omega))
  have g4 : ∀ x : Option (Int32 × fm_), gd_ (ix_ (x3 + 4) L) x = x := fun x => gd_t (hx 4 (by omega) (by omega))
  have g5 : ∀ x : Option (Int32 × fm_), gd_ (ix_ (x3 + 5) L) x = x := fun x => gd_t (hx 5 (by omega) (by omega))
  simp only [g1, g2, g3, g4, g5]
  exact lc_one (P := J (k + 1)) (H _ _ _ _ k m hk hJ) cont
theorem lc_579 {J : Nat → fm_ → Prop} (H : ∀ (a0 : Int32) (a1 : Int32), sm_ J (f_X11_appeal a0 a1) (f_X12_appeal a0 a1)) {L : Nat} {xs : Nat → Int32} {x3 : Int32} (hx : ∀ j : Nat, 1 ≤ j → j < 7 → ix_ (x3 + nI j) L = true) {k : Nat} (hk : k < 512) {m : fm_} (hJ : J k m) (cont : ∀ m2, J (k + 1) m2 → ∃ m', f_L_18 L xs (x3 + 7) m2 = some (1, m')) : ∃ m', f_L_579 L xs x3 m = some (1, m') := by
  rw [e_L_579]
  have g1 : ∀ x : Option (Int32 × fm_), gd_ (ix_ (x3 + 1) L) x = x := fun x => gd_t (hx 1 (by omega) (by omega))
  have g2 : ∀ x : Option (Int32 × fm_), gd_ (ix_ (x3 + 2) L) x = x := fun x => gd_t (hx 2 (by omega) (by omega))
  simp only [g1, g2]
  exact lc_one (P := J (k + 1)) (H _ _ k m hk hJ) cont
theorem lc_612 {J : Nat → fm_ → Prop} (H : ∀ (a0 : Int32), sm_ J (f_X11_untell a0) (f_X12_untell a0)) {L : Nat} {xs : Nat → Int32} {x3 : Int32} (hx : ∀ j : Nat, 1 ≤ j → j < 7 → ix_ (x3 + nI j) L = true) {k : Nat} (hk : k < 512) {m : fm_} (hJ : J k m) (cont : ∀ m2, J (k + 1) m2 → ∃ m', f_L_18 L xs (x3 + 7) m2 = some (1, m')) : ∃ m', f_L_612 L xs x3 m = some (1, m') := by
  rw [e_L_612]
  have g1 : ∀ x : Option (Int32 × fm_), gd_ (ix_ (x3 + 1) L) x = x := fun x => gd_t (hx 1 (by omega) (by omega))
  simp only [g1]
  exact lc_one (P := J (k + 1)) (H _ k m hk hJ) cont
theorem lc_635 {J : Nat → fm_ → Prop} (H : ∀ (a0 : Int32), sm_ J (f_X11_later a0) (f_X12_later a0)) {L : Nat} {xs : Nat → Int32} {x3 : Int32} (hx : ∀ j : Nat, 1 ≤ j → j < 7 → ix_ (x3 + nI j) L = true) {k : Nat} (hk : k < 512) {m : fm_} (hJ : J k m) (cont : ∀ m2, J (k + 1) m2 → ∃ m', f_L_18 L xs (x3 + 7) m2 = some (1, m')) : ∃ m', f_L_635 L xs x3 m = some (1, m') := by
  rw [e_L_635]
  have g1 : ∀ x : Option (Int32 × fm_), gd_ (ix_ (x3 + 1) L) x = x := fun x => gd_t (hx 1 (by omega) (by omega))
  simp only [g1]
  exact lc_one (P := J (k + 1)) (H _ k m hk hJ) cont
theorem lc_658 {J : Nat → fm_ → Prop} (H : ∀ (a0 : Int32) (a1 : Int32), sm_ J (f_X11_like a0 a1) (f_X12_like a0 a1)) {L : Nat} {xs : Nat → Int32} {x3 : Int32} (hx : ∀ j : Nat, 1 ≤ j → j < 7 → ix_ (x3 + nI j) L = true) {k : Nat} (hk : k < 512) {m : fm_} (hJ : J k m) (cont : ∀ m2, J (k + 1) m2 → ∃ m', f_L_18 L xs (x3 + 7) m2 = some (1, m')) : ∃ m', f_L_658 L xs x3 m = some (1, m') := by
  rw [e_L_658]
  have g1 : ∀ x : Option (Int32 × fm_), gd_ (ix_ (x3 + 1) L) x = x := fun x => gd_t (hx 1 (by omega) (by omega))
  have g2 : ∀ x : Option (Int32 × fm_), gd_ (ix_ (x3 + 2) L) x = x := fun x => gd_t (hx 2 (by omega) (by omega))
  simp only [g1, g2]
  exact lc_one (P := J (k + 1)) (H _ _ k m hk hJ) cont
theorem lc_691 {J : Nat → fm_ → Prop} (H : ∀ (a0 : Int32) (a1 : Int32), sm_ J (f_X11_whose a0 a1) (f_X12_whose a0 a1)) {L : Nat} {xs : Nat → Int32} {x3 : Int32} (hx : ∀ j : Nat, 1 ≤ j → j < 7 → ix_ (x3 + nI j) L = true) {k : Nat} (hk : k < 512) {m : fm_} (hJ : J k m) (cont : ∀ m2, J (k + 1) m2 → ∃ m', f_L_18 L xs (x3 + 7) m2 = some (1, m')) : ∃ m', f_L_691 L xs x3 m = some (1, m') := by
  rw [e_L_691]
  have g1 : ∀ x : Option (Int32 × fm_), gd_ (ix_ (x3 + 1) L) x = x := fun x => gd_t (hx 1 (by omega) (by omega))
  have g2 : ∀ x : Option (Int32 × fm_), gd_ (ix_ (x3 + 2) L) x = x := fun x => gd_t (hx 2 (by omega) (by omega))
  simp only [g1, g2]
  exact lc_one (P := J (k + 1)) (H _ _ k m hk hJ) cont
theorem lc_724 {J : Nat → fm_ → Prop} (H : ∀ (a0 : Int32) (a1 : Int32), sm_ J (f_X11_doubt a0 a1) (f_X12_doubt a0 a1)) {L : Nat} {xs : Nat → Int32} {x3 : Int32} (hx : ∀ j : Nat, 1 ≤ j → j < 7 → ix_ (x3 + nI j) L = true) {k : Nat} (hk : k < 512) {m : fm_} (hJ : J k m) (cont : ∀ m2, J (k + 1) m2 → ∃ m', f_L_18 L xs (x3 + 7) m2 = some (1, m')) : ∃ m', f_L_724 L xs x3 m = some (1, m') := by
  rw [e_L_724]
  have g1 : ∀ x : Option (Int32 × fm_), gd_ (ix_ (x3 + 1) L) x = x := fun x => gd_t (hx 1 (by omega) (by omega))
  have g2 : ∀ x : Option (Int32 × fm_), gd_ (ix_ (x3 + 2) L) x = x := fun x => gd_t (hx 2 (by omega) (by omega))
  simp only [g1, g2]
  exact lc_one (P := J (k + 1)) (H _ _ k m hk hJ) cont
theorem lc_757 {J : Nat → fm_ → Prop} (H : ∀ (a0 : Int32) (a1 : Int32) (a2 : Int32), sm_ J (f_X11_isDouble a0 a1 a2) (f_X12_isDouble a0 a1 a2)) {L : Nat} {xs : Nat → Int32} {x3 : Int32} (hx : ∀ j : Nat, 1 ≤ j → j < 7 → ix_ (x3 + nI j) L = true) {k : Nat} (hk : k < 512) {m : fm_} (hJ : J k m) (cont : ∀ m2, J (k + 1) m2 → ∃ m', f_L_18 L xs (x3 + 7) m2 = some (1, m')) : ∃ m', f_L_757 L xs x3 m = some (1, m') := by
  rw [e_L_757]
  have g1 : ∀ x : Option (Int32 × fm_), gd_ (ix_ (x3 + 1) L) x = x := fun x => gd_t (hx 1 (by omega) (by omega))
  have g2 : ∀ x : Option (Int32 × fm_), gd_ (ix_ (x3 + 2) L) x = x := fun x => gd_t (hx 2 (by omega) (by omega))
  have g3 : ∀ x : Option (Int32 × fm_), gd_ (ix_ (x3 + 3) L) x = x := fun x => gd_t (hx 3 (by omega) (by omega))
  simp only [g1, g2, g3]
  exact lc_one (P := J (k + 1)) (H _ _ _ k m hk hJ) cont
theorem lc_800 {J : Nat → fm_ → Prop} (H : ∀ (a0 : Int32) (a1 : Int32) (a2 : Int32) (a3 : Int32), (a2 = 0 ∨ a2 = 1) → sm_ J (f_X11_inside a0 a1 a2 a3) (f_X12_inside a0 a1 a2 a3)) {L : Nat} {xs : Nat → Int32} {x3 : Int32} (hx : ∀ j : Nat, 1 ≤ j → j < 7 → ix_ (x3 + nI j) L = true) {k : Nat} (hk : k < 512) {m : fm_} (hJ : J k m) (cont : ∀ m2, J (k + 1) m2 → ∃ m', f_L_18 L xs (x3 + 7) m2 = some (1, m')) : ∃ m', f_L_800 L xs x3 m = some (1, m') := by
  rw [e_L_800]
  have g1 : ∀ x : Option (Int32 × fm_), gd_ (ix_ (x3 + 1) L) x = x := fun x => gd_t (hx 1 (by omega) (by omega))
  have g2 : ∀ x : Option (Int32 × fm_), gd_ (ix_ (x3 + 2) L) x = x := fun x => gd_t (hx 2 (by omega) (by omega))
  have g3 : ∀ x : Option (Int32 × fm_), gd_ (ix_ (x3 + 3) L) x = x := fun x => gd_t (hx 3 (by omega) (by omega))
  have g4 : ∀ x : Option (Int32 × fm_), gd_ (ix_ (x3 + 4) L) x = x := fun x => gd_t (hx 4 (by omega) (by omega))
  simp only [g1, g2, g3, g4]
  by_cases hz : xs (Int32.toNatClampNeg (x3 + 3)) = 0
  · simp only [if_pos hz]
    exact lc_one (P := J (k + 1)) (H _ _ _ _ (Or.inl rfl) k m hk hJ) cont
  · simp only [if_neg hz]
    exact lc_one (P := J (k + 1)) (H _ _ _ _ (Or.inr rfl) k m hk hJ) cont
theorem lc_869 {J : Nat → fm_ → Prop} (H : ∀ (a0 : Int32) (a1 : Int32) (a2 : Int32), sm_ J (f_X11_classOf a0 a1 a2) (f_X12_classOf a0 a1 a2)) {L : Nat} {xs : Nat → Int32} {x3 : Int32} (hx : ∀ j : Nat, 1 ≤ j → j < 7 → ix_ (x3 + nI j) L = true) {k : Nat} (hk : k < 512) {m : fm_} (hJ : J k m) (cont : ∀ m2, J (k + 1) m2 → ∃ m', f_L_18 L xs (x3 + 7) m2 = some (1, m')) : ∃ m', f_L_869 L xs x3 m = some (1, m') := by
  rw [e_L_869]
  have g1 : ∀ x : Option (Int32 × fm_), gd_ (ix_ (x3 + 1) L) x = x := fun x => gd_t (hx 1 (by omega) (by omega))
  have g2 : ∀ x : Option (Int32 × fm_), gd_ (ix_ (x3 + 2) L) x = x := fun x => gd_t (hx 2 (by omega) (by omega))
  have g3 : ∀ x : Option (Int32 × fm_), gd_ (ix_ (x3 + 3) L) x = x := fun x => gd_t (hx 3 (by omega) (by omega))
  simp only [g1, g2, g3]
  exact lc_one (P := J (k + 1)) (H _ _ _ k m hk hJ) cont
theorem lc_912 {J : Nat → fm_ → Prop} (H : ∀ (a0 : Int32) (a1 : Int32) (a2 : Int32), sm_ J (f_X11_entries a0 a1 a2) (f_X12_entries a0 a1 a2)) {L : Nat} {xs : Nat → Int32} {x3 : Int32} (hx : ∀ j : Nat, 1 ≤ j → j < 7 → ix_ (x3 + nI j) L = true) {k : Nat} (hk : k < 512) {m : fm_} (hJ : J k m) (cont : ∀ m2, J (k + 1) m2 → ∃ m', f_L_18 L xs (x3 + 7) m2 = some (1, m')) : ∃ m', f_L_912 L xs x3 m = some (1, m') := by
  rw [e_L_912]
  have g1 : ∀ x : Option (Int32 × fm_), gd_ (ix_ (x3 + 1) L) x = x := fun x => gd_t (hx 1 (by omega) (by omega))
  have g2 : ∀ x : Option (Int32 × fm_), gd_ (ix_ (x3 + 2) L) x = x := fun x => gd_t (hx 2 (by omega) (by omega))
  have g3 : ∀ x : Option (Int32 × fm_), gd_ (ix_ (x3 + 3) L) x = x := fun x => gd_t (hx 3 (by omega) (by omega))
  simp only [g1, g2, g3]
  exact lc_one (P := J (k + 1)) (H _ _ _ k m hk hJ) cont
theorem lc_955 {J : Nat → fm_ → Prop} (H : ∀ (a0 : Int32) (a1 : Int32) (a2 : Int32), sm_ J (f_X11_charge a0 a1 a2) (f_X12_charge a0 a1 a2)) {L : Nat} {xs : Nat → Int32} {x3 : Int32} (hx : ∀ j : Nat, 1 ≤ j → j < 7 → ix_ (x3 + nI j) L = true) {k : Nat} (hk : k < 512) {m : fm_} (hJ : J k m) (cont : ∀ m2, J (k + 1) m2 → ∃ m', f_L_18 L xs (x3 + 7) m2 = some (1, m')) : ∃ m', f_L_955 L xs x3 m = some (1, m') := by
  rw [e_L_955]
  have g1 : ∀ x : Option (Int32 × fm_), gd_ (ix_ (x3 + 1) L) x = x := fun x => gd_t (hx 1 (by omega) (by omega))
  have g2 : ∀ x : Option (Int32 × fm_), gd_ (ix_ (x3 + 2) L) x = x := fun x => gd_t (hx 2 (by omega) (by omega))
  have g3 : ∀ x : Option (Int32 × fm_), gd_ (ix_ (x3 + 3) L) x = x := fun x => gd_t (hx 3 (by omega) (by omega))
  simp only [g1, g2, g3]
  exact lc_one (P := J (k + 1)) (H _ _ _ k m hk hJ) cont
theorem lc_998 {J : Nat → fm_ → Prop} (H : ∀ (a0 : Int32) (a1 : Int32) (a2 : Int32) (a3 : Int32), sm_ J (f_X11_account a0 a1 a2 a3) (f_X12_account a0 a1 a2 a3)) {L : Nat} {xs : Nat → Int32} {x3 : Int32} (hx : ∀ j : Nat, 1 ≤ j → j < 7 → ix_ (x3 + nI j) L = true) {k : Nat} (hk : k < 512) {m : fm_} (hJ : J k m) (cont : ∀ m2, J (k + 1) m2 → ∃ m', f_L_18 L xs (x3 + 7) m2 = some (1, m')) : ∃ m', f_L_998 L xs x3 m = some (1, m') := by
  rw [e_L_998]
  have g1 : ∀ x : Option (Int32 × fm_), gd_ (ix_ (x3 + 1) L) x = x := fun x => gd_t (hx 1 (by omega) (by omega))
  have g2 : ∀ x : Option (Int32 × fm_), gd_ (ix_ (x3 + 2) L) x = x := fun x => gd_t (hx 2 (by omega) (by omega))
  have g3 : ∀ x : Option (Int32 × fm_), gd_ (ix_ (x3 + 3) L) x = x := fun x => gd_t (hx 3 (by omega) (by omega))
  have g4 : ∀ x : Option (Int32 × fm_), gd_ (ix_ (x3 + 4) L) x = x := fun x => gd_t (hx 4 (by omega) (by omega))
  simp only [g1, g2, g3, g4]
  exact lc_one (P := J (k + 1)) (H _ _ _ _ k m hk hJ) cont
theorem lc_1051 {J : Nat → fm_ → Prop} (H : ∀ (a0 : Int32) (a1 : Int32) (a2 : Int32) (a3 : Int32) (a4 : Int32), sm_ J (f_X11_back a0 a1 a2 a3 a4) (f_X12_back a0 a1 a2 a3 a4)) {L : Nat} {xs : Nat → Int32} {x3 : Int32} (hx : ∀ j : Nat, 1 ≤ j → j < 7 → ix_ (x3 + nI j) L = true) {k : Nat} (hk : k < 512) {m : fm_} (hJ : J k m) (cont : ∀ m2, J (k + 1) m2 → ∃ m', f_L_18 L xs (x3 + 7) m2 = some (1, m')) : ∃ m', f_L_1051 L xs x3 m = some (1, m') := by
  rw [e_L_1051]
  have g1 : ∀ x : Option (Int32 × fm_), gd_ (ix_ (x3 + 1) L) x = x := fun x => gd_t (hx 1 (by omega) (by omega))
  have g2 : ∀ x : Option (Int32 × fm_), gd_ (ix_ (x3 + 2) L) x = x := fun x => gd_t (hx 2 (by omega) (by omega))
  have g3 : ∀ x : Option (Int32 × fm_), gd_ (ix_ (x3 + 3) L) x = x := fun x => gd_t (hx 3 (by omega) (by omega))
  have g4 : ∀ x : Option (Int32 × fm_), gd_ (ix_ (x3 + 4) L) x = x := fun x => gd_t (hx 4 (by omega) (by omega))
  have g5 : ∀ x : Option (Int32 × fm_), gd_ (ix_ (x3 + 5) L) x = x := fun x => gd_t (hx 5 (by omega) (by omega))
  simp only [g1, g2, g3, g4, g5]
  exact lc_one (P := J (k + 1)) (H _ _ _ _ _ k m hk hJ) cont
theorem lc_1114 {J : Nat → fm_ → Prop} (H : ∀ (a0 : Int32) (a1 : Int32) (a2 : Int32) (a3 : Int32), sm_ J (f_X11_air a0 a1 a2 a3) (f_X12_air a0 a1 a2 a3)) {L : Nat} {xs : Nat → Int32} {x3 : Int32} (hx : ∀ j : Nat, 1 ≤ j → j < 7 → ix_ (x3 + nI j) L = true) {k : Nat} (hk : k < 512) {m : fm_} (hJ : J k m) (cont : ∀ m2, J (k + 1) m2 → ∃ m', f_L_18 L xs (x3 + 7) m2 = some (1, m')) : ∃ m', f_L_1114 L xs x3 m = some (1, m') := by
  rw [e_L_1114]
  have g1 : ∀ x : Option (Int32 × fm_), gd_ (ix_ (x3 + 1) L) x = x := fun x => gd_t (hx 1 (by omega) (by omega))
  have g2 : ∀ x : Option (Int32 × fm_), gd_ (ix_ (x3 + 2) L) x = x := fun x => gd_t (hx 2 (by omega) (by omega))
  have g3 : ∀ x : Option (Int32 × fm_), gd_ (ix_ (x3 + 3) L) x = x := fun x => gd_t (hx 3 (by omega) (by omega))
  have g4 : ∀ x : Option (Int32 × fm_), gd_ (ix_ (x3 + 4) L) x = x := fun x => gd_t (hx 4 (by omega) (by omega))
  simp only [g1, g2, g3, g4]
  exact lc_one (P := J (k + 1)) (H _ _ _ _ k m hk hJ) cont
theorem lc_1167 {J : Nat → fm_ → Prop} (H : ∀ (a0 : Int32), sm_ J (f_X11_effect a0) (f_X12_effect a0)) {L : Nat} {xs : Nat → Int32} {x3 : Int32} (hx : ∀ j : Nat, 1 ≤ j → j < 7 → ix_ (x3 + nI j) L = true) {k : Nat} (hk : k < 512) {m : fm_} (hJ : J k m) (cont : ∀ m2, J (k + 1) m2 → ∃ m', f_L_18 L xs (x3 + 7) m2 = some (1, m')) : ∃ m', f_L_1167 L xs x3 m = some (1, m') := by
  rw [e_L_1167]
  have g1 : ∀ x : Option (Int32 × fm_), gd_ (ix_ (x3 + 1) L) x = x := fun x => gd_t (hx 1 (by omega) (by omega))
  simp only [g1]
  exact lc_one (P := J (k + 1)) (H _ k m hk hJ) cont
theorem lc_1190 {J : Nat → fm_ → Prop} (H : ∀ (a0 : Int32) (a1 : Int32), sm_ J (f_X11_doubtOf a0 a1) (f_X12_doubtOf a0 a1)) {L : Nat} {xs : Nat → Int32} {x3 : Int32} (hx : ∀ j : Nat, 1 ≤ j → j < 7 → ix_ (x3 + nI j) L = true) {k : Nat} (hk : k < 512) {m : fm_} (hJ : J k m) (cont : ∀ m2, J (k + 1) m2 → ∃ m', f_L_18 L xs (x3 + 7) m2 = some (1, m')) : ∃ m', f_L_1190 L xs x3 m = some (1, m') := by
  rw [e_L_1190]
  have g1 : ∀ x : Option (Int32 × fm_), gd_ (ix_ (x3 + 1) L) x = x := fun x => gd_t (hx 1 (by omega) (by omega))
  have g2 : ∀ x : Option (Int32 × fm_), gd_ (ix_ (x3 + 2) L) x = x := fun x => gd_t (hx 2 (by omega) (by omega))
  simp only [g1, g2]
  exact lc_one (P := J (k + 1)) (H _ _ k m hk hJ) cont
theorem lc_1223 {J : Nat → fm_ → Prop} (H : ∀ (a0 : Int32) (a1 : Int32) (a2 : Int32) (a3 : Int32) (a4 : Int32), sm_ J (f_X11_trip a0 a1 a2 a3 a4) (f_X12_trip a0 a1 a2 a3 a4)) {L : Nat} {xs : Nat → Int32} {x3 : Int32} (hx : ∀ j : Nat, 1 ≤ j → j < 7 → ix_ (x3 + nI j) L = true) {k : Nat} (hk : k < 512) {m : fm_} (hJ : J k m) (cont : ∀ m2, J (k + 1) m2 → ∃ m', f_L_18 L xs (x3 + 7) m2 = some (1, m')) : ∃ m', f_L_1223 L xs x3 m = some (1, m') := by
  rw [e_L_1223]
  have g1 : ∀ x : Option (Int32 × fm_), gd_ (ix_ (x3 + 1) L) x = x := fun x => gd_t (hx 1 (by omega) (by omega))
  have g2 : ∀ x : Option (Int32 × fm_), gd_ (ix_ (x3 + 2) L) x = x := fun x => gd_t (hx 2 (by omega) (by omega))
  have g3 : ∀ x : Option (Int32 × fm_), gd_ (ix_ (x3 + 3) L) x = x := fun x => gd_t (hx 3 (by omega) (by omega))
  have g4 : ∀ x : Option (Int32 × fm_), gd_ (ix_ (x3 + 4) L) x = x := fun x => gd_t (hx 4 (by omega) (by omega))
  have g5 : ∀ x : Option (Int32 × fm_), gd_ (ix_ (x3 + 5) L) x = x := fun x => gd_t (hx 5 (by omega) (by omega))
  simp only [g1, g2, g3, g4, g5]
  exact lc_one (P := J (k + 1)) (H _ _ _ _ _ k m hk hJ) cont
theorem lc_1286 {J : Nat → fm_ → Prop} (H : ∀ (a0 : Int32) (a1 : Int32) (a2 : Int32), (a2 = 0 ∨ a2 = 1) → sm_ J (f_X11_minutes a0 a1 a2) (f_X12_minutes a0 a1 a2)) {L : Nat} {xs : Nat → Int32} {x3 : Int32} (hx : ∀ j : Nat, 1 ≤ j → j < 7 → ix_ (x3 + nI j) L = true) {k : Nat} (hk : k < 512) {m : fm_} (hJ : J k m) (cont : ∀ m2, J (k + 1) m2 → ∃ m', f_L_18 L xs (x3 + 7) m2 = some (1, m')) : ∃ m', f_L_1286 L xs x3 m = some (1, m') := by
  rw [e_L_1286]
  have g1 : ∀ x : Option (Int32 × fm_), gd_ (ix_ (x3 + 1) L) x = x := fun x => gd_t (hx 1 (by omega) (by omega))
  have g2 : ∀ x : Option (Int32 × fm_), gd_ (ix_ (x3 + 2) L) x = x := fun x => gd_t (hx 2 (by omega) (by omega))
  have g3 : ∀ x : Option (Int32 × fm_), gd_ (ix_ (x3 + 3) L) x = x := fun x => gd_t (hx 3 (by omega) (by omega))
  simp only [g1, g2, g3]
  by_cases hz : xs (Int32.toNatClampNeg (x3 + 3)) = 0
  · simp only [if_pos hz]
    exact lc_one (P := J (k + 1)) (H _ _ _ (Or.inl rfl) k m hk hJ) cont
  · simp only [if_neg hz]
    exact lc_one (P := J (k + 1)) (H _ _ _ (Or.inr rfl) k m hk hJ) cont
theorem lc_1345 {J : Nat → fm_ → Prop} (H : ∀ (a0 : Int32) (a1 : Int32) (a2 : Int32) (a3 : Int32), (a2 = 0 ∨ a2 = 1) → sm_ J (f_X11_via a0 a1 a2 a3) (f_X12_via a0 a1 a2 a3)) {L : Nat} {xs : Nat → Int32} {x3 : Int32} (hx : ∀ j : Nat, 1 ≤ j → j < 7 → ix_ (x3 + nI j) L = true) {k : Nat} (hk : k < 512) {m : fm_} (hJ : J k m) (cont : ∀ m2, J (k + 1) m2 → ∃ m', f_L_18 L xs (x3 + 7) m2 = some (1, m')) : ∃ m', f_L_1345 L xs x3 m = some (1, m') := by
  rw [e_L_1345]
  have g1 : ∀ x : Option (Int32 × fm_), gd_ (ix_ (x3 + 1) L) x = x := fun x => gd_t (hx 1 (by omega) (by omega))
  have g2 : ∀ x : Option (Int32 × fm_), gd_ (ix_ (x3 + 2) L) x = x := fun x => gd_t (hx 2 (by omega) (by omega))
  have g3 : ∀ x : Option (Int32 × fm_), gd_ (ix_ (x3 + 3) L) x = x := fun x => gd_t (hx 3 (by omega) (by omega))
  have g4 : ∀ x : Option (Int32 × fm_), gd_ (ix_ (x3 + 4) L) x = x := fun x => gd_t (hx 4 (by omega) (by omega))
  simp only [g1, g2, g3, g4]
  by_cases hz : xs (Int32.toNatClampNeg (x3 + 3)) = 0
  · simp only [if_pos hz]
    exact lc_one (P := J (k + 1)) (H _ _ _ _ (Or.inl rfl) k m hk hJ) cont
  · simp only [if_neg hz]
    exact lc_one (P := J (k + 1)) (H _ _ _ _ (Or.inr rfl) k m hk hJ) cont
theorem lc_1414 {J : Nat → fm_ → Prop} (H : ∀ (a0 : Int32) (a1 : Int32) (a2 : Int32), (a2 = 0 ∨ a2 = 1) → sm_ J (f_X11_load a0 a1 a2) (f_X12_load a0 a1 a2)) {L : Nat} {xs : Nat → Int32} {x3 : Int32} (hx : ∀ j : Nat, 1 ≤ j → j < 7 → ix_ (x3 + nI j) L = true) {k : Nat} (hk : k < 512) {m : fm_} (hJ : J k m) (cont : ∀ m2, J (k + 1) m2 → ∃ m', f_L_18 L xs (x3 + 7) m2 = some (1, m')) : ∃ m', f_L_1414 L xs x3 m = some (1, m') := by
  rw [e_L_1414]
  have g1 : ∀ x : Option (Int32 × fm_), gd_ (ix_ (x3 + 1) L) x = x := fun x => gd_t (hx 1 (by omega) (by omega))
  have g2 : ∀ x : Option (Int32 × fm_), gd_ (ix_ (x3 + 2) L) x = x := fun x => gd_t (hx 2 (by omega) (by omega))
  have g3 : ∀ x : Option (Int32 × fm_), gd_ (ix_ (x3 + 3) L) x = x := fun x => gd_t (hx 3 (by omega) (by omega))
  simp only [g1, g2, g3]
  by_cases hz : xs (Int32.toNatClampNeg (x3 + 3)) = 0
  · simp only [if_pos hz]
    exact lc_one (P := J (k + 1)) (H _ _ _ (Or.inl rfl) k m hk hJ) cont
  · simp only [if_neg hz]
    exact lc_one (P := J (k + 1)) (H _ _ _ (Or.inr rfl) k m hk hJ) cont
theorem lc_1473 {J : Nat → fm_ → Prop} (H : ∀ (a0 : Int32), sm_ J (f_X11_around a0) (f_X12_around a0)) {L : Nat} {xs : Nat → Int32} {x3 : Int32} (hx : ∀ j : Nat, 1 ≤ j → j < 7 → ix_ (x3 + nI j) L = true) {k : Nat} (hk : k < 512) {m : fm_} (hJ : J k m) (cont : ∀ m2, J (k + 1) m2 → ∃ m', f_L_18 L xs (x3 + 7) m2 = some (1, m')) : ∃ m', f_L_1473 L xs x3 m = some (1, m') := by
  rw [e_L_1473]
  have g1 : ∀ x : Option (Int32 × fm_), gd_ (ix_ (x3 + 1) L) x = x := fun x => gd_t (hx 1 (by omega) (by omega))
  simp only [g1]
  exact lc_one (P := J (k + 1)) (H _ k m hk hJ) cont
theorem lc_1496 {J : Nat → fm_ → Prop} (H : ∀ (a0 : Int32) (a1 : Int32), sm_ J (f_X11_view a0 a1) (f_X12_view a0 a1)) {L : Nat} {xs : Nat → Int32} {x3 : Int32} (hx : ∀ j : Nat, 1 ≤ j → j < 7 → ix_ (x3 + nI j) L = true) {k : Nat} (hk : k < 512) {m : fm_} (hJ : J k m) (cont : ∀ m2, J (k + 1) m2 → ∃ m', f_L_18 L xs (x3 + 7) m2 = some (1, m')) : ∃ m', f_L_1496 L xs x3 m = some (1, m') := by
  rw [e_L_1496]
  have g1 : ∀ x : Option (Int32 × fm_), gd_ (ix_ (x3 + 1) L) x = x := fun x => gd_t (hx 1 (by omega) (by omega))
  have g2 : ∀ x : Option (Int32 × fm_), gd_ (ix_ (x3 + 2) L) x = x := fun x => gd_t (hx 2 (by omega) (by omega))
  simp only [g1, g2]
  exact lc_one (P := J (k + 1)) (H _ _ k m hk hJ) cont
theorem lc_1529 {J : Nat → fm_ → Prop} (H : ∀ (a0 : Int32) (a1 : Int32), sm_ J (f_X11_seen a0 a1) (f_X12_seen a0 a1)) {L : Nat} {xs : Nat → Int32} {x3 : Int32} (hx : ∀ j : Nat, 1 ≤ j → j < 7 → ix_ (x3 + nI j) L = true) {k : Nat} (hk : k < 512) {m : fm_} (hJ : J k m) (cont : ∀ m2, J (k + 1) m2 → ∃ m', f_L_18 L xs (x3 + 7) m2 = some (1, m')) : ∃ m', f_L_1529 L xs x3 m = some (1, m') := by
  rw [e_L_1529]
  have g1 : ∀ x : Option (Int32 × fm_), gd_ (ix_ (x3 + 1) L) x = x := fun x => gd_t (hx 1 (by omega) (by omega))
  have g2 : ∀ x : Option (Int32 × fm_), gd_ (ix_ (x3 + 2) L) x = x := fun x => gd_t (hx 2 (by omega) (by omega))
  simp only [g1, g2]
  exact lc_one (P := J (k + 1)) (H _ _ k m hk hJ) cont
theorem lc_1562 {J : Nat → fm_ → Prop} (H : ∀ (a0 : Int32), sm_ J (f_X11_about a0) (f_X12_about a0)) {L : Nat} {xs : Nat → Int32} {x3 : Int32} (hx : ∀ j : Nat, 1 ≤ j → j < 7 → ix_ (x3 + nI j) L = true) {k : Nat} (hk : k < 512) {m : fm_} (hJ : J k m) (cont : ∀ m2, J (k + 1) m2 → ∃ m', f_L_18 L xs (x3 + 7) m2 = some (1, m')) : ∃ m', f_L_1562 L xs x3 m = some (1, m') := by
  rw [e_L_1562]
  have g1 : ∀ x : Option (Int32 × fm_), gd_ (ix_ (x3 + 1) L) x = x := fun x => gd_t (hx 1 (by omega) (by omega))
  simp only [g1]
  exact lc_one (P := J (k + 1)) (H _ k m hk hJ) cont
theorem lc_ix {L i : Nat} (hL : L ≤ 3584) (h : 7 * i + 7 ≤ L) (j : Nat) (hj : j < 7) : ix_ (nI (7 * i) + nI j) L = true := by
  rw [nI_add]
  exact ix_i (vp_in_nI (by omega) (by omega))
theorem lw_loop {J : Nat → fm_ → Prop} (hup : ∀ k m, J k m → J (k + 1) m)
    (H0 : ∀ (a0 : Int32) (a1 : Int32) (a2 : Int32) (a3 : Int32) (a4 : Int32), sm_ J (f_X11_feed a0 a1 a2 a3 a4) (f_X12_feed a0 a1 a2 a3 a4))
    (H1 : ∀ (a0 : Int32), sm_ J (f_X11_end a0) (f_X12_end a0))
    (H2 : sm_ J f_X11_map f_X12_map)
    (H3 : ∀ (a0 : Int32), sm_ J (f_X11_orders a0) (f_X12_orders a0))
    (H4 : ∀ (a0 : Int32), sm_ J (f_X11_fault a0) (f_X12_fault a0))
    (H5 : ∀ (a0 : Int32) (a1 : Int32), sm_ J (f_X11_between a0 a1) (f_X12_between a0 a1))
    (H6 : ∀ (a0 : Int64) (a1 : Int32), sm_ J (f_X11_plate a0 a1) (f_X12_plate a0 a1))
    (H7 : ∀ (a0 : Int32) (a1 : Int32) (a2 : Int32) (a3 : Int32) (a4 : Int32) (a5 : Int32), sm_ J (f_X11_papers a0 a1 a2 a3 a4 a5) (f_X12_papers a0 a1 a2 a3 a4 a5))
    (H8 : ∀ (a0 : Int32) (a1 : Int32) (a2 : Int32) (a3 : Int64), sm_ J (f_X11_read a0 a1 a2 a3) (f_X12_read a0 a1 a2 a3))
    (H9 : ∀ (a0 : Int32) (a1 : Int32), sm_ J (f_X11_appeal a0 a1) (f_X12_appeal a0 a1))
    (H10 : ∀ (a0 : Int32), sm_ J (f_X11_untell a0) (f_X12_untell a0))
    (H11 : ∀ (a0 : Int32), sm_ J (f_X11_later a0) (f_X12_later a0))
    (H12 : ∀ (a0 : Int32) (a1 : Int32), sm_ J (f_X11_like a0 a1) (f_X12_like a0 a1))
    (H13 : ∀ (a0 : Int32) (a1 : Int32), sm_ J (f_X11_whose a0 a1) (f_X12_whose a0 a1))
    (H14 : ∀ (a0 : Int32) (a1 : Int32), sm_ J (f_X11_doubt a0 a1) (f_X12_doubt a0 a1))
    (H15 : ∀ (a0 : Int32) (a1 : Int32) (a2 : Int32), sm_ J (f_X11_isDouble a0 a1 a2) (f_X12_isDouble a0 a1 a2))
    (H16 : ∀ (a0 : Int32) (a1 : Int32) (a2 : Int32) (a3 : Int32), (a2 = 0 ∨ a2 = 1) → sm_ J (f_X11_inside a0 a1 a2 a3) (f_X12_inside a0 a1 a2 a3))
    (H17 : ∀ (a0 : Int32) (a1 : Int32) (a2 : Int32), sm_ J (f_X11_classOf a0 a1 a2) (f_X12_classOf a0 a1 a2))
    (H18 : ∀ (a0 : Int32) (a1 : Int32) (a2 : Int32), sm_ J (f_X11_entries a0 a1 a2) (f_X12_entries a0 a1 a2))
    (H19 : ∀ (a0 : Int32) (a1 : Int32) (a2 : Int32), sm_ J (f_X11_charge a0 a1 a2) (f_X12_charge a0 a1 a2))
    (H20 : ∀ (a0 : Int32) (a1 : Int32) (a2 : Int32) (a3 : Int32), sm_ J (f_X11_account a0 a1 a2 a3) (f_X12_account a0 a1 a2 a3))
    (H21 : ∀ (a0 : Int32) (a1 : Int32) (a2 : Int32) (a3 : Int32) (a4 : Int32), sm_ J (f_X11_back a0 a1 a2 a3 a4) (f_X12_back a0 a1 a2 a3 a4))
    (H22 : ∀ (a0 : Int32) (a1 : Int32) (a2 : Int32) (a3 : Int32), sm_ J (f_X11_air a0 a1 a2 a3) (f_X12_air a0 a1 a2 a3))
    (H23 : ∀ (a0 : Int32), sm_ J (f_X11_effect a0) (f_X12_effect a0))
    (H24 : ∀ (a0 : Int32) (a1 : Int32), sm_ J (f_X11_doubtOf a0 a1) (f_X12_doubtOf a0 a1))
    (H25 : ∀ (a0 : Int32) (a1 : Int32) (a2 : Int32) (a3 : Int32) (a4 : Int32), sm_ J (f_X11_trip a0 a1 a2 a3 a4) (f_X12_trip a0 a1 a2 a3 a4))
    (H26 : ∀ (a0 : Int32) (a1 : Int32) (a2 : Int32), (a2 = 0 ∨ a2 = 1) → sm_ J (f_X11_minutes a0 a1 a2) (f_X12_minutes a0 a1 a2))
    (H27 : ∀ (a0 : Int32) (a1 : Int32) (a2 : Int32) (a3 : Int32), (a2 = 0 ∨ a2 = 1) → sm_ J (f_X11_via a0 a1 a2 a3) (f_X12_via a0 a1 a2 a3))
    (H28 : ∀ (a0 : Int32) (a1 : Int32) (a2 : Int32), (a2 = 0 ∨ a2 = 1) → sm_ J (f_X11_load a0 a1 a2) (f_X12_load a0 a1 a2))
    (H29 : ∀ (a0 : Int32), sm_ J (f_X11_around a0) (f_X12_around a0))
    (H30 : ∀ (a0 : Int32) (a1 : Int32), sm_ J (f_X11_view a0 a1) (f_X12_view a0 a1))
    (H31 : ∀ (a0 : Int32) (a1 : Int32), sm_ J (f_X11_seen a0 a1) (f_X12_seen a0 a1))
    (H32 : ∀ (a0 : Int32), sm_ J (f_X11_about a0) (f_X12_about a0)) {L : Nat} {xs : Nat → Int32} (hL : L ≤ 3584) : ∀ (n i : Nat) (m : fm_), L ≤ 7 * i + n → 7 * i ≤ 3584 → J i m → ∃ m', f_L_18 L xs (nI (7 * i)) m = some (1, m') := by
  intro n
  induction n with
  | zero =>
    intro i m h1 h2 hJ
    refine ⟨m, ?_⟩
    rw [e_L_18, if_pos]
    rw [Int32.lt_iff_toInt_lt, show (7 : Int32) = nI 7 from rfl, pk_sub_toInt (by omega) (by omega), nI_toInt (by omega)]
    omega
  | succ n ih =>
    intro i m h1 h2 hJ
    rw [e_L_18]
    by_cases hc : nI L - 7 < nI (7 * i)
    · exact ⟨m, by rw [if_pos hc]⟩
    · have h7 : 7 * i + 7 ≤ L := by
        rw [Int32.lt_iff_toInt_lt, show (7 : Int32) = nI 7 from rfl, pk_sub_toInt (by omega) (by omega), nI_toInt (by omega)] at hc
        omega
      have hk : i < 512 := by omega
      have hx : ∀ j : Nat, 1 ≤ j → j < 7 → ix_ (nI (7 * i) + nI j) L = true := fun j _ hj => lc_ix hL h7 j hj
      have hx0 : ix_ (nI (7 * i)) L = true := ix_i (vp_in_nI (by omega) (by omega))
      have cont : ∀ m2, J (i + 1) m2 → ∃ m', f_L_18 L xs (nI (7 * i) + 7) m2 = some (1, m') := fun m2 h => by
        have e : nI (7 * i) + 7 = nI (7 * (i + 1)) := by rw [show (7 : Int32) = nI 7 from rfl, nI_add]; rfl
        rw [e]
        exact ih (i + 1) m2 (by omega) (by omega) h
      rw [if_neg hc, gd_t hx0]
      by_cases c0 : (xs (Int32.toNatClampNeg (nI (7 * i))) &&& 63) = 0
      · rw [if_pos c0]; exact lc_180 H0 hx hk hJ cont
      rw [if_neg c0]
      by_cases c1 : (xs (Int32.toNatClampNeg (nI (7 * i))) &&& 63) = 1
      · rw [if_pos c1]; exact lc_243 H1 hx hk hJ cont
      rw [if_neg c1]
      by_cases c2 : (xs (Int32.toNatClampNeg (nI (7 * i))) &&& 63) = 2
      · rw [if_pos c2]; exact lc_266 H2 hx hk hJ cont
      rw [if_neg c2]
      by_cases c3 : (xs (Int32.toNatClampNeg (nI (7 * i))) &&& 63) = 3
      · rw [if_pos c3]; exact lc_279 H3 hx hk hJ cont
      rw [if_neg c3]
      by_cases c4 : (xs (Int32.toNatClampNeg (nI (7 * i))) &&& 63) = 4
      · rw [if_pos c4]; exact lc_302 H4 hx hk hJ cont
      rw [if_neg c4]
      by_cases c5 : (xs (Int32.toNatClampNeg (nI (7 * i))) &&& 63) = 5
      · rw [if_pos c5]; exact lc_325 H5 hx hk hJ cont
      rw [if_neg c5]
      by_cases c6 : (xs (Int32.toNatClampNeg (nI (7 * i))) &&& 63) = 6
      · rw [if_pos c6]; exact lc_358 H6 hx hk hJ cont
      rw [if_neg c6]
      by_cases c7 : (xs (Int32.toNatClampNeg (nI (7 * i))) &&& 63) = 7
      · rw [if_pos c7]; exact lc_421 H7 hx hk hJ cont
      rw [if_neg c7]
      by_cases c8 : (xs (Int32.toNatClampNeg (nI (7 * i))) &&& 63) = 8
      · rw [if_pos c8]; exact lc_496 H8 hx hk hJ cont
      rw [if_neg c8]
      by_cases c9 : (xs (Int32.toNatClampNeg (nI (7 * i))) &&& 63) = 9
      · rw [if_pos c9]; exact lc_579 H9 hx hk hJ cont
      rw [if_neg c9]
      by_cases c10 : (xs (Int32.toNatClampNeg (nI (7 * i))) &&& 63) = 10
      · rw [if_pos c10]; exact lc_612 H10 hx hk hJ cont
      rw [if_neg c10]
      by_cases c11 : (xs (Int32.toNatClampNeg (nI (7 * i))) &&& 63) = 11
      · rw [if_pos c11]; exact lc_635 H11 hx hk hJ cont
      rw [if_neg c11]
      by_cases c12 : (xs (Int32.toNatClampNeg (nI (7 * i))) &&& 63) = 12
      · rw [if_pos c12]; exact lc_658 H12 hx hk hJ cont
      rw [if_neg c12]
      by_cases c13 : (xs (Int32.toNatClampNeg (nI (7 * i))) &&& 63) = 13
      · rw [if_pos c13]; exact lc_691 H13 hx hk hJ cont
      rw [if_neg c13]
      by_cases c14 : (xs (Int32.toNatClampNeg (nI (7 * i))) &&& 63) = 14
      · rw [if_pos c14]; exact lc_724 H14 hx hk hJ cont
      rw [if_neg c14]
      by_cases c15 : (xs (Int32.toNatClampNeg (nI (7 * i))) &&& 63) = 15
      · rw [if_pos c15]; exact lc_757 H15 hx hk hJ cont
      rw [if_neg c15]
      by_cases c16 : (xs (Int32.toNatClampNeg (nI (7 * i))) &&& 63) = 16
      · rw [if_pos c16]; exact lc_800 H16 hx hk hJ cont
      rw [if_neg c16]
      by_cases c17 : (xs (Int32.toNatClampNeg (nI (7 * i))) &&& 63) = 17
      · rw [if_pos c17]; exact lc_869 H17 hx hk hJ cont
      rw [if_neg c17]
      by_cases c18 : (xs (Int32.toNatClampNeg (nI (7 * i))) &&& 63) = 18
      · rw [if_pos c18]; exact lc_912 H18 hx hk hJ cont
      rw [if_neg c18]
      by_cases c19 : (xs (Int32.toNatClampNeg (nI (7 * i))) &&& 63) = 19
      · rw [if_pos c19]; exact lc_955 H19 hx hk hJ cont
      rw [if_neg c19]
      by_cases c20 : (xs (Int32.toNatClampNeg (nI (7 * i))) &&& 63) = 20
      · rw [if_pos c20]; exact lc_998 H20 hx hk hJ cont
      rw [if_neg c20]
      by_cases c21 : (xs (Int32.toNatClampNeg (nI (7 * i))) &&& 63) = 21
      · rw [if_pos c21]; exact lc_1051 H21 hx hk hJ cont
      rw [if_neg c21]
      by_cases c22 : (xs (Int32.toNatClampNeg (nI (7 * i))) &&& 63) = 22
      · rw [if_pos c22]; exact lc_1114 H22 hx hk hJ cont
      rw [if_neg c22]
      by_cases c23 : (xs (Int32.toNatClampNeg (nI (7 * i))) &&& 63) = 23
      · rw [if_pos c23]; exact lc_1167 H23 hx hk hJ cont
      rw [if_neg c23]
      by_cases c24 : (xs (Int32.toNatClampNeg (nI (7 * i))) &&& 63) = 24
      · rw [if_pos c24]; exact lc_1190 H24 hx hk hJ cont
      rw [if_neg c24]
      by_cases c25 : (xs (Int32.toNatClampNeg (nI (7 * i))) &&& 63) = 25
      · rw [if_pos c25]; exact lc_1223 H25 hx hk hJ cont
      rw [if_neg c25]
      by_cases c26 : (xs (Int32.toNatClampNeg (nI (7 * i))) &&& 63) = 26
      · rw [if_pos c26]; exact lc_1286 H26 hx hk hJ cont
      rw [if_neg c26]
      by_cases c27 : (xs (Int32.toNatClampNeg (nI (7 * i))) &&& 63) = 27
      · rw [if_pos c27]; exact lc_1345 H27 hx hk hJ cont
      rw [if_neg c27]
      by_cases c28 : (xs (Int32.toNatClampNeg (nI (7 * i))) &&& 63) = 28
      · rw [if_pos c28]; exact lc_1414 H28 hx hk hJ cont
      rw [if_neg c28]
      by_cases c29 : (xs (Int32.toNatClampNeg (nI (7 * i))) &&& 63) = 29
      · rw [if_pos c29]; exact lc_1473 H29 hx hk hJ cont
      rw [if_neg c29]
      by_cases c30 : (xs (Int32.toNatClampNeg (nI (7 * i))) &&& 63) = 30
      · rw [if_pos c30]; exact lc_1496 H30 hx hk hJ cont
      rw [if_neg c30]
      by_cases c31 : (xs (Int32.toNatClampNeg (nI (7 * i))) &&& 63) = 31
      · rw [if_pos c31]; exact lc_1529 H31 hx hk hJ cont
      rw [if_neg c31]
      by_cases c32 : (xs (Int32.toNatClampNeg (nI (7 * i))) &&& 63) = 32
      · rw [if_pos c32]; exact lc_1562 H32 hx hk hJ cont
      rw [if_neg c32]
      exact cont m (hup i m hJ)
