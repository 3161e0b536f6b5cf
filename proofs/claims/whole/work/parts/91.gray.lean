/-! ===== ways counted one flip at a time ===== -/
def gry_ (w : Nat) : Nat := w ^^^ (w / 2)
theorem gry_all : ∀ u, u < 64 → ∀ v, v < 64 → ¬ 64 * u + v = 0 → gry_ (64 * u + v) = gry_ (64 * u + v - 1) ^^^ 2 ^ tz_ (64 * u + v) ∧ tz_ (64 * u + v) < 12 ∧ gry_ (64 * u + v - 1) < 4096 := by decide +kernel
theorem gry_s {w : Nat} (h0 : ¬ w = 0) (h : w < 4096) : gry_ w = gry_ (w - 1) ^^^ 2 ^ tz_ w ∧ tz_ w < 12 ∧ gry_ (w - 1) < 4096 := by
  have e : 64 * (w / 64) + w % 64 = w := Nat.div_add_mod w 64
  have := gry_all (w / 64) (by omega) (w % 64) (by omega) (by omega)
  rw [e] at this
  exact this
theorem xor_top {n t : Nat} (h : t < 2 ^ n) : t ^^^ 2 ^ n = 2 ^ n + t := by
  have e := Nat.two_pow_add_eq_or_of_lt h 1
  rw [Nat.mul_one] at e
  rw [e]
  apply Nat.eq_of_testBit_eq
  intro i
  rw [Nat.testBit_xor, Nat.testBit_or, Nat.testBit_two_pow]
  by_cases c : n = i
  · subst c
    rw [Nat.testBit_lt_two_pow h, decide_eq_true rfl]; rfl
  · rw [decide_eq_false c]
    cases t.testBit i <;> rfl
theorem xor_bk {n t : Nat} (h : t < 2 ^ n) : (2 ^ n + t) ^^^ 2 ^ n = t := by
  rw [← xor_top h, Nat.xor_assoc, Nat.xor_self, Nat.xor_zero]
theorem gry_lt {n j : Nat} (h : j < 2 ^ n) : gry_ j < 2 ^ n := Nat.xor_lt_two_pow h (by omega)
theorem gry_top {k j : Nat} (h : j < 2 ^ (k + 1)) : gry_ (2 ^ (k + 1) + j) = 2 ^ (k + 1) + (gry_ j ^^^ 2 ^ k) := by
  have hk : 2 ^ k < 2 ^ (k + 1) := by rw [Nat.pow_succ]; have := Nat.two_pow_pos k; omega
  have hb : gry_ j ^^^ 2 ^ k < 2 ^ (k + 1) := Nat.xor_lt_two_pow (gry_lt h) hk
  rw [← xor_top hb]
  have e2 : 2 ^ (k + 1) / 2 = 2 ^ k := by rw [Nat.pow_succ]; omega
  unfold gry_
  rw [← xor_top h, Nat.xor_div_two, e2]
  apply Nat.eq_of_testBit_eq
  intro i
  simp only [Nat.testBit_xor]
  generalize j.testBit i = b1
  generalize (j / 2).testBit i = b2
  generalize (2 ^ k).testBit i = b3
  generalize (2 ^ (k + 1)).testBit i = b4
  cases b1 <;> cases b2 <;> cases b3 <;> cases b4 <;> rfl
theorem cntf_add {f : Nat → Bool} {a : Nat} : ∀ b, cntf_ f (a + b) = cntf_ f a + cntf_ (fun j => f (a + j)) b
  | 0 => rfl
  | b + 1 => by
    show cntf_ f (a + b) + (if f (a + b) = true then 1 else 0) = cntf_ f a + (cntf_ (fun j => f (a + j)) b + (if f (a + b) = true then 1 else 0))
    rw [cntf_add b, Nat.add_assoc]
theorem cntf_cg {f g : Nat → Bool} : ∀ n, (∀ j, j < n → f j = g j) → cntf_ f n = cntf_ g n
  | 0, _ => rfl
  | n + 1, h => by
    unfold cntf_
    rw [cntf_cg n fun j hj => h j (by omega), h n (by omega)]
theorem pow_d (k : Nat) : 2 ^ (k + 1) = 2 ^ k + 2 ^ k := by rw [Nat.pow_succ]; omega
theorem cnt_swap {h : Nat → Bool} (k : Nat) : cntf_ (fun t => h (t ^^^ 2 ^ k)) (2 ^ (k + 1)) = cntf_ h (2 ^ (k + 1)) := by
  rw [pow_d, cntf_add, cntf_add]
  have e1 : cntf_ (fun t => h (t ^^^ 2 ^ k)) (2 ^ k) = cntf_ (fun j => h (2 ^ k + j)) (2 ^ k) := cntf_cg _ fun j hj => by rw [xor_top hj]
  have e2 : cntf_ (fun j => h ((2 ^ k + j) ^^^ 2 ^ k)) (2 ^ k) = cntf_ h (2 ^ k) := cntf_cg _ fun j hj => by rw [xor_bk hj]
  rw [e1]
  show _ + cntf_ (fun j => h ((2 ^ k + j) ^^^ 2 ^ k)) (2 ^ k) = _
  rw [e2, Nat.add_comm]
/-- in whatever order they are met, the ways that are as good are as many -/
theorem cnt_gray : ∀ (n : Nat) (f : Nat → Bool), cntf_ (fun j => f (gry_ j)) (2 ^ n) = cntf_ f (2 ^ n)
  | 0, _ => rfl
  | 1, _ => rfl
  | k + 2, f => by
    rw [pow_d (k + 1), cntf_add, cntf_add, cnt_gray (k + 1) f]
    have e1 : cntf_ (fun j => f (gry_ (2 ^ (k + 1) + j))) (2 ^ (k + 1)) = cntf_ (fun j => (fun t => f (2 ^ (k + 1) + (t ^^^ 2 ^ k))) (gry_ j)) (2 ^ (k + 1)) := cntf_cg _ fun j hj => by rw [gry_top hj]
    show _ + cntf_ (fun j => f (gry_ (2 ^ (k + 1) + j))) (2 ^ (k + 1)) = _
    rw [e1, cnt_gray (k + 1) (fun t => f (2 ^ (k + 1) + (t ^^^ 2 ^ k))), cnt_swap (h := fun u => f (2 ^ (k + 1) + u)) k]
