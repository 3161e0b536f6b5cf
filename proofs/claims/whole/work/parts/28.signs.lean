/-! ===== signs ===== -/
/-- the sign at place i, from the lowest byte on -/
def sg_ (x : Int64) (i : Nat) : Int32 := (Int64.toInt32 (x >>> (Int32.toInt64 (8 * nI i) &&& 63))) &&& 255
def let_ (c : Int32) : Bool := !(decide (c < 97)) && !(decide (122 < c))
def dig_ (c : Int32) : Bool := !(decide (c < 48)) && !(decide (57 < c))
/-- a sign of a plate; of a reading too where u is not 0 -/
def isg_ (u c : Int32) : Bool := let_ c || (dig_ c || (!(decide (u = 0)) && decide (c = 63)))
def b01_ (b : Bool) : Int32 := if b = true then 1 else 0
theorem b01_0 {b : Bool} : b01_ b = 0 ↔ b = false := by cases b <;> decide
theorem let_c (c : Int32) (m : fm_) : f_X8_isLetter c m = some (b01_ (let_ c), m) := by
  unfold f_X8_isLetter let_
  by_cases h1 : c < 97
  · rw [if_pos h1, decide_eq_true h1]; rfl
  · rw [if_neg h1, decide_eq_false h1]
    by_cases h2 : 122 < c
    · rw [if_pos h2, decide_eq_true h2]; rfl
    · rw [if_neg h2, decide_eq_false h2]; rfl
theorem let_m (c : Int32) (m : fm_) : f_X12_isLetter c m = some (b01_ (let_ c), m) := let_c c m
theorem dig_c (c : Int32) (m : fm_) : f_X8_isDigit c m = some (b01_ (dig_ c), m) := by
  unfold f_X8_isDigit dig_
  by_cases h1 : c < 48
  · rw [if_pos h1, decide_eq_true h1]; rfl
  · rw [if_neg h1, decide_eq_false h1]
    by_cases h2 : 57 < c
    · rw [if_pos h2, decide_eq_true h2]; rfl
    · rw [if_neg h2, decide_eq_false h2]; rfl
theorem dig_m (c : Int32) (m : fm_) : f_X12_isDigit c m = some (b01_ (dig_ c), m) := dig_c c m
/-- all of k places from i on -/
def al_ (p : Nat → Bool) : Nat → Nat → Bool
  | 0, _ => true
  | k + 1, i => p i && al_ p k (i + 1)
theorem al_s (p : Nat → Bool) (k i : Nat) : al_ p (k + 1) i = (p i && al_ p k (i + 1)) := rfl
theorem as_c (x : Int64) (u : Int32) (m : fm_) : ∀ k i : Nat, i + k = 6 → f_X7_areSigns_2 x u (nI i) m = some (b01_ (al_ (fun j => isg_ u (sg_ x j)) k i), m) := by
  intro k
  induction k with
  | zero =>
    intro i e
    rw [e_X7_areSigns_2, if_pos (show (6 : Int32) ≤ nI i from nI_le (a := 6) (by omega) (by omega))]
    rfl
  | succ k ih =>
    intro i e
    rw [e_X7_areSigns_2, if_neg (show ¬ (6 : Int32) ≤ nI i from nI_ge (b := 6) (by omega) (by omega)), al_s]
    have hs : f_X7_signAt x (nI i) m = some (sg_ x i, m) := rfl
    rw [hs]
    simp only [Option.bind]
    rw [let_c]
    simp only
    have ih := ih (i + 1) (by omega)
    rw [nI_1, ih]
    generalize al_ (fun j => isg_ u (sg_ x j)) k (i + 1) = z at ih ⊢
    generalize sg_ x i = c
    unfold isg_
    cases hl : let_ c with
    | true => rw [if_neg (by decide)]; first | rfl | (rw [ih]; rfl)
    | false =>
      rw [if_pos (by decide), dig_c]
      simp only
      cases hd : dig_ c with
      | true => rw [if_neg (by decide)]; first | rfl | (rw [ih]; rfl)
      | false =>
        rw [if_pos (by decide)]
        by_cases hu : u = 0
        · rw [if_pos hu, decide_eq_true hu]; first | rfl | (rw [ih]; rfl)
        · rw [if_neg hu, decide_eq_false hu]
          by_cases h63 : c = 63
          · rw [if_pos h63, decide_eq_true h63]; first | rfl | (rw [ih]; rfl)
          · rw [if_neg h63, decide_eq_false h63]; first | rfl | (rw [ih]; rfl)
theorem as_all (x : Int64) (u : Int32) (m : fm_) : f_X7_areSigns x u m = some (b01_ (al_ (fun j => isg_ u (sg_ x j)) 6 0), m) := as_c x u m 6 0 rfl
theorem sg_and (y : Int64) : Int64.toInt32 (y &&& 255) = Int64.toInt32 y &&& 255 := by
  apply Int32.toBitVec_inj.mp
  rw [Int64.toBitVec_toInt32, Int32.toBitVec_and, Int64.toBitVec_and, Int64.toBitVec_toInt32]
  apply BitVec.eq_of_getLsbD_eq
  intro i hi
  have h64 : i < 64 := by omega
  rw [BitVec.getLsbD_signExtend, BitVec.getLsbD_and, BitVec.getLsbD_and, BitVec.getLsbD_signExtend, if_pos h64, if_pos h64, decide_eq_true hi, Bool.true_and, Bool.true_and]
  congr 1
theorem sg_m (x : Int64) {k : Nat} (hk : k < 6) (m : fm_) : f_X12_signAt x (nI k) m = some (sg_ x (5 - k), m) := by
  unfold f_X12_signAt sg_
  rw [sg_and]
  have : (8 * (5 - nI k) : Int32) = 8 * nI (5 - k) := by
    have : ∀ k, k < 6 → (8 * (5 - nI k) : Int32) = 8 * nI (5 - k) := by decide
    exact this k hk
  rw [this]
theorem as_m (x : Int64) (u : Int32) (m : fm_) : ∀ (k i : Nat) (b : Bool), i + k = 6 → f_X12_areSigns_5 x u (b01_ b) (nI i) m = some (b01_ (b && al_ (fun j => isg_ u (sg_ x (5 - j))) k i), m) := by
  intro k
  induction k with
  | zero =>
    intro i b e
    rw [e_X12_areSigns_5, if_pos (show (6 : Int32) ≤ nI i from nI_le (a := 6) (by omega) (by omega)), gd_t (by cases b <;> decide)]
    cases b <;> rfl
  | succ k ih =>
    intro i b e
    rw [e_X12_areSigns_5, if_neg (show ¬ (6 : Int32) ≤ nI i from nI_ge (b := 6) (by omega) (by omega)), al_s, sg_m x (by omega)]
    simp only [Option.bind]
    have t0 := ih (i + 1) false (by omega)
    have t1 := ih (i + 1) true (by omega)
    rw [let_m, nI_1]
    simp only
    rw [show (0 : Int32) = b01_ false from rfl, show (1 : Int32) = b01_ true from rfl] at *
    generalize al_ (fun j => isg_ u (sg_ x (5 - j))) k (i + 1) = z at *
    generalize sg_ x (5 - i) = c
    rw [t0, t1, dig_m]
    simp only
    unfold isg_
    cases b with
    | false => rw [if_pos rfl]; first | rfl | (rw [t0]; rfl) | (rw [t1]; rfl)
    | true =>
      rw [if_neg (by decide)]
      cases hl : let_ c with
      | true => rw [if_neg (by decide)]; first | rfl | (rw [t0]; rfl) | (rw [t1]; rfl)
      | false =>
        rw [if_pos rfl]
        cases hd : dig_ c with
        | true => rw [if_neg (by decide)]; first | rfl | (rw [t0]; rfl) | (rw [t1]; rfl)
        | false =>
          rw [if_pos rfl]
          by_cases hu : u = 0
          · rw [if_pos (show u = b01_ false from hu), decide_eq_true hu]; first | rfl | (rw [t0]; rfl) | (rw [t1]; rfl)
          · rw [if_neg (show ¬ u = b01_ false from hu), decide_eq_false hu]
            by_cases h63 : c = 63
            · rw [if_pos h63, decide_eq_true h63]; first | rfl | (rw [t0]; rfl) | (rw [t1]; rfl)
            · rw [if_neg h63, decide_eq_false h63]; first | rfl | (rw [t0]; rfl) | (rw [t1]; rfl)
theorem al_rev (p : Nat → Bool) : al_ (fun j => p (5 - j)) 6 0 = al_ p 6 0 := by
  show (p 5 && (p 4 && (p 3 && (p 2 && (p 1 && (p 0 && true)))))) = (p 0 && (p 1 && (p 2 && (p 3 && (p 4 && (p 5 && true))))))
  cases p 0 <;> cases p 1 <;> cases p 2 <;> cases p 3 <;> cases p 4 <;> cases p 5 <;> rfl
theorem as_mall (x : Int64) (u : Int32) (m : fm_) : f_X12_areSigns x u m = some (b01_ (al_ (fun j => isg_ u (sg_ x j)) 6 0), m) := by
  have := as_m x u m 6 0 true rfl
  rw [Bool.true_and, al_rev (fun j => isg_ u (sg_ x j))] at this
  exact this
theorem sg_mask (x : Int64) {i : Nat} (hi : i < 6) : sg_ (x &&& 281474976710655) i = sg_ x i := by
  unfold sg_
  apply Int32.toBitVec_inj.mp
  rw [Int32.toBitVec_and, Int32.toBitVec_and, Int64.toBitVec_toInt32, Int64.toBitVec_toInt32]
  apply BitVec.eq_of_getLsbD_eq
  intro j hj
  rw [BitVec.getLsbD_and, BitVec.getLsbD_and]
  by_cases h8 : j < 8
  · congr 1
    have hs : ((Int32.toInt64 (8 * nI i) &&& 63).toBitVec.smod 64).toNat = 8 * i := by
      have : ∀ i, i < 6 → ((Int32.toInt64 (8 * nI i) &&& 63).toBitVec.smod 64).toNat = 8 * i := by decide
      exact this i hi
    rw [BitVec.getLsbD_signExtend, BitVec.getLsbD_signExtend, if_pos (by omega), if_pos (by omega), Int64.toBitVec_shiftRight, Int64.toBitVec_shiftRight, BitVec.sshiftRight_eq', BitVec.sshiftRight_eq', hs, BitVec.getLsbD_sshiftRight, BitVec.getLsbD_sshiftRight, if_pos (by omega), if_pos (by omega), Int64.toBitVec_and, BitVec.getLsbD_and]
    have hM : (Int64.toBitVec 281474976710655).getLsbD (8 * i + j) = true := by
      have : ∀ k, k < 48 → (Int64.toBitVec 281474976710655).getLsbD k = true := by decide
      exact this _ (by omega)
    rw [hM, Bool.and_true]
  · have : (Int32.toBitVec 255).getLsbD j = false := by
      have : ∀ j, j < 32 → ¬ j < 8 → (Int32.toBitVec 255).getLsbD j = false := by decide
      exact this j hj h8
    rw [this, Bool.and_false, Bool.and_false]
