/-! ===== methods, classes, by number ===== -/
def am_q0 : am_mi := (⟨"", "", ""⟩, ⟨#[]⟩, 0, none)
def am_lawm : am_mi := (⟨"AirZoneLaw", "law", "([I)Z"⟩, code, 4, some .boolean)
def am_me (i : Nat) : am_mi := match Nat.beq i 301 with
  | true => am_lawm
  | false => am_mt.getD i am_q0
theorem am_me_lt {i : Nat} (h : ¬ i = 301) : am_me i = am_mt.getD i am_q0 := by
  unfold am_me
  cases hb : Nat.beq i 301 with
  | true => exact absurd (Nat.eq_of_beq_eq_true hb) h
  | false => rfl
def am_y (i : Nat) : MethodName := (am_me i).1
def am_cc (i : Nat) : ByteArray := (am_me i).2.1
def am_nL (i : Nat) : Nat := (am_me i).2.2.1
def am_rt (i : Nat) : Option FieldType := (am_me i).2.2.2
def am_ow (o : Nat) : String := am_on.getD o ""
def am_fld (c k : Nat) : String × String × String × Bool := match am_cl[c]? with
  | some q => q.2.1 k
  | none => ("", "", "", false)
def am_vc (a : Nat) : Nat := am_vcl.getD a 0
