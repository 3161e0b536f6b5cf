/-! ===== words packed into a long ===== -/
def pkw_ : List Nat → Nat → Nat
  | [], a => a
  | b :: l, a => pkw_ l (a * 256 + b)
theorem pkw_app : ∀ (l : List Nat) (b a : Nat), pkw_ (l ++ [b]) a = pkw_ l a * 256 + b
  | [], _, _ => rfl
  | c :: l, b, a => by
    show pkw_ (l ++ [b]) (a * 256 + c) = pkw_ l (a * 256 + c) * 256 + b
    exact pkw_app l b _
theorem pkw_0 {l : List Nat} (h : ∀ b ∈ l, 0 < b) (e : pkw_ l 0 = 0) : l = [] := by
  rcases List.eq_nil_or_concat l with q | ⟨r, b, q⟩
  · exact q
  · rw [List.concat_eq_append] at q
    subst q
    rw [pkw_app] at e
    have := h b (by simp)
    omega
theorem pkw_inj : ∀ (n : Nat) (l r : List Nat), l.length = n → (∀ b ∈ l, 0 < b ∧ b < 256) → (∀ b ∈ r, 0 < b ∧ b < 256) → pkw_ l 0 = pkw_ r 0 → l = r
  | 0, l, r, hn, hl, hr, e => by
    have : l = [] := List.eq_nil_of_length_eq_zero hn
    subst this
    exact (pkw_0 (fun b hb => (hr b hb).1) e.symm).symm
  | n + 1, l, r, hn, hl, hr, e => by
    rcases List.eq_nil_or_concat l with q | ⟨l1, b, q⟩
    · rw [q] at hn; cases hn
    · rw [List.concat_eq_append] at q
      subst q
      rcases List.eq_nil_or_concat r with q | ⟨r1, c, q⟩
      · subst q
        exact pkw_0 (fun b hb => (hl b hb).1) e
      · rw [List.concat_eq_append] at q
        subst q
        rw [pkw_app, pkw_app] at e
        have h1 := hl b (by simp)
        have h2 := hr c (by simp)
        have e1 : pkw_ l1 0 = pkw_ r1 0 := by omega
        have e2 : b = c := by omega
        rw [List.length_append, List.length_singleton] at hn
        rw [pkw_inj n l1 r1 (by omega) (fun x hx => hl x (by simp [hx])) (fun x hx => hr x (by simp [hx])) e1, e2]
theorem pkw_b : ∀ (l : List Nat) (a n : Nat), a < 256 ^ n → (∀ b ∈ l, b < 256) → pkw_ l a < 256 ^ (n + l.length)
  | [], a, n, h, _ => h
  | b :: l, a, n, h, hl => by
    have hb := hl b (List.mem_cons_self ..)
    have := pkw_b l (a * 256 + b) (n + 1) (by rw [Nat.pow_succ]; omega) fun x hx => hl x (List.mem_cons_of_mem _ hx)
    rw [List.length_cons, show n + (l.length + 1) = n + 1 + l.length by omega]
    exact this
theorem pk_w8 {a b : Nat} (ha : a < 2 ^ 56) (hb : b < 256) : (Int64.ofNat a <<< (Int32.toInt64 8 &&& 63)) ||| Int32.toInt64 (nI b) = Int64.ofNat (a * 256 + b) := by
  have hs : Int32.toInt64 (nI b) = Int64.ofNat b := by
    have : ∀ b, b < 256 → Int32.toInt64 (nI b) = Int64.ofNat b := by decide +kernel
    exact this b hb
  rw [hs]
  apply Int64.toBitVec_inj.mp
  rw [Int64.toBitVec_or, Int64.toBitVec_shiftLeft, show (Int32.toInt64 8 &&& 63).toBitVec.smod 64 = 8#64 by decide, Int64.toBitVec_ofNat', Int64.toBitVec_ofNat', Int64.toBitVec_ofNat']
  apply BitVec.eq_of_toNat_eq
  rw [BitVec.toNat_or, BitVec.shiftLeft_eq', BitVec.toNat_shiftLeft, BitVec.toNat_ofNat, BitVec.toNat_ofNat, BitVec.toNat_ofNat, BitVec.toNat_ofNat, show 8 % 2 ^ 64 = 8 from rfl]
  rw [Nat.mod_eq_of_lt (show a < 2 ^ 64 by omega), Nat.mod_eq_of_lt (show b < 2 ^ 64 by omega), Nat.mod_eq_of_lt (show a * 256 + b < 2 ^ 64 by omega), Nat.mod_eq_of_lt (show a <<< 8 < 2 ^ 64 by rw [Nat.shiftLeft_eq]; omega), ← Nat.shiftLeft_add_eq_or_of_lt (show b < 2 ^ 8 by omega), Nat.shiftLeft_eq]
theorem pk_li {a b : Nat} (ha : a < 2 ^ 64) (hb : b < 2 ^ 64) (e : Int64.ofNat a = Int64.ofNat b) : a = b := by
  have e := congrArg (fun x => (Int64.toBitVec x).toNat) e
  have e : (Int64.toBitVec (Int64.ofNat a)).toNat = (Int64.toBitVec (Int64.ofNat b)).toNat := e
  rw [Int64.toBitVec_ofNat', Int64.toBitVec_ofNat', BitVec.toNat_ofNat, BitVec.toNat_ofNat, Nat.mod_eq_of_lt ha, Nat.mod_eq_of_lt hb] at e
  exact e
theorem wdn_p : ∀ k, k < 23 → pkw_ (wdn_ k) 0 < 2 ^ 64 ∧ ∀ b ∈ wdn_ k, 0 < b ∧ b < 256 := by decide
/-- a packed word is a word's constant exactly if it is that word -/
theorem pk_wk {w : List Nat} (h8 : w.length ≤ 8) (hw : ∀ b ∈ w, isl_ b = true) {k : Nat} (hk : k < 23) : Int64.ofNat (pkw_ w 0) = Int64.ofNat (pkw_ (wdn_ k) 0) ↔ wkd_ w = kd_ k := by
  have hb : ∀ b ∈ w, 0 < b ∧ b < 256 := fun b hb => by
    have := of_decide_eq_true (hw b hb)
    omega
  rw [wkd_k hk]
  constructor
  · intro e
    have h1 := pkw_b w 0 0 (Nat.pow_pos (by omega)) fun b h => (hb b h).2
    have h2 : 256 ^ (0 + w.length) ≤ 256 ^ 8 := Nat.pow_le_pow_right (by omega) (by omega)
    have h3 : 256 ^ 8 = 2 ^ 64 := by decide
    have := wdn_p k hk
    exact pkw_inj _ w _ rfl hb this.2 (pk_li (by omega) this.1 e)
  · intro e
    rw [e]
/-! ===== the reference's bytes ===== -/
def hdd_ (l : List Nat) : Bool := match l with
  | [] => false
  | b :: _ => isd_ b
theorem dgt_m {L : List Nat} {m : fm_} (h : bm9_ L m) (j : Nat) : f_X12_isDigit (byt_ L j) m = some (b01_ (hdd_ (L.drop j)), m) := by
  unfold byt_ hdd_
  cases e : L.drop j with
  | nil =>
    have : L.length ≤ j := by
      have := congrArg List.length e
      rw [List.length_drop, List.length_nil] at this
      omega
    rw [List.getElem?_eq_none this]
    rfl
  | cons b r =>
    obtain ⟨k1, k2, k3⟩ := drop_p e
    rw [k1]
    exact isd_c (h.2.2 j b k1).1 m
theorem ltr_m {L : List Nat} {m : fm_} (h : bm9_ L m) (j : Nat) : f_X12_isLetter (byt_ L j) m = some (b01_ (hdl_ (L.drop j)), m) := by
  unfold byt_ hdl_
  cases e : L.drop j with
  | nil =>
    have : L.length ≤ j := by
      have := congrArg List.length e
      rw [List.length_drop, List.length_nil] at this
      omega
    rw [List.getElem?_eq_none this]
    rfl
  | cons b r =>
    obtain ⟨k1, k2, k3⟩ := drop_p e
    rw [k1]
    exact isl_c (h.2.2 j b k1).1 m
theorem sgn_m {b : Nat} (hb : b < 256) (m : fm_) : f_X12_isSign (nI b) m = some (b01_ (mrk_ b), m) := mrk_c hb m
theorem run_0 {l : List Nat} : hdd_ l = false ↔ run_ isd_ l = 0 := by
  cases l with
  | nil => exact ⟨fun _ => rfl, fun _ => rfl⟩
  | cons b l =>
    unfold hdd_ run_
    by_cases c : isd_ b = true
    · rw [if_pos c]
      exact ⟨fun e => absurd (show isd_ b = false from e) (by rw [c]; decide), fun e => by omega⟩
    · rw [if_neg c]
      exact ⟨fun _ => rfl, fun _ => Bool.eq_false_iff.mpr c⟩
def psz_ (l : List Nat) : Nat := match l with
  | [] => 0
  | b :: r => if b = 112 ∧ ptk_ r = true then run_ isd_ r + 1 else 0
