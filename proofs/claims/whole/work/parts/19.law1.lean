/-! ===== the law, as a function of the script ===== -/
def GW900_ (L : Nat) (xs : Nat → Int32) (_ : Nat) (_ : Nat → Nat → Option Nat) (as : List Value) (m : fm_) : Option (Option Value × fm_) := match as with
  | [.ref x, .int j] => gd_ (Nat.beq x 1000) (gd_ (ix_ j L) (some (some (.int (xs j.toNatClampNeg)), m)))
  | _ => none
def GW901_ (L : Nat) (_ : Nat) (_ : Nat → Nat → Option Nat) (as : List Value) (m : fm_) : Option (Option Value × fm_) := match as with
  | [.ref x] => gd_ (Nat.beq x 1000) (some (some (.int (nI L)), m))
  | _ => none
set_option maxRecDepth 100000 in
theorem gw_900 {L : Nat} {xs : Nat → Int32} {n : Nat} {r : Nat → Nat → Option Nat} {j : Int32} {m : fm_} (h : ix_ j L = true) : GW900_ L xs n r [.ref 1000, .int j] m = some (some (.int (xs j.toNatClampNeg)), m) := by
  show gd_ (Nat.beq 1000 1000) (gd_ (ix_ j L) (some (some (Value.int (xs j.toNatClampNeg)), m))) = _
  rw [gd_t (b := Nat.beq 1000 1000) (by decide +kernel), gd_t h]
set_option maxRecDepth 100000 in
theorem gw_901 {L : Nat} {n : Nat} {r : Nat → Nat → Option Nat} {m : fm_} : GW901_ L n r [.ref 1000] m = some (some (.int (nI L)), m) := by
  show gd_ (Nat.beq 1000 1000) (some (some (Value.int (nI L)), m)) = _
  rw [gd_t (b := Nat.beq 1000 1000) (by decide +kernel)]
theorem lw_ext {l : Launch} {g : am_G} {L : Nat} {xs : Nat → Int32} (hX : va_X (am_ad g 1000) L xs g.1 g.1.heap) (hb : am_ad g 1000 < am_B g) : am_ext l (fn_sp [(900, fn_0, GW900_ L xs), (901, fn_0, GW901_ L)]) g 20 := by
  refine ⟨fun x j w K k => ?_, fun x w K k => ?_, fun ix w K hi k => (show False from k).elim, fun ix w K hi k => (show False from k).elim, fun kk as w K hk k => ?_⟩
  · have k : fn_s fn_0 (GW900_ L xs) [.ref x, .int j] w K := k
    obtain ⟨-, y, m1, hG, hK⟩ := k
    obtain ⟨hx, hG1⟩ := gd_u (show gd_ (Nat.beq x 1000) _ = some (y, m1) from hG)
    obtain ⟨hj, hG2⟩ := gd_u hG1
    obtain rfl := Nat.eq_of_beq_eq_true hx
    clear hG hG1
    cases hG2
    exact ⟨L, xs, Or.inl ⟨hX, hb⟩, ix_t hj, hK⟩
  · have k : fn_s fn_0 (GW901_ L) [.ref x] w K := k
    obtain ⟨-, y, m1, hG, hK⟩ := k
    obtain ⟨hx, hG1⟩ := gd_u (show gd_ (Nat.beq x 1000) _ = some (y, m1) from hG)
    obtain rfl := Nat.eq_of_beq_eq_true hx
    clear hG
    cases hG1
    exact ⟨L, xs, hX, hb, hK⟩
  · rcases hk with rfl | rfl
    · exact (show False from k).elim
    · exact (show False from k).elim
theorem lw_rt {S : Type} {K : S → Option (Int32 × fm_)} {v : Int32} {m : fm_} {q : Int32 × fm_} (h : am_k K (some (Sum.inr (v, m))) = some q) (hq : q.1 = 1) : (some (.int v) : Option Value) = some (.int 1) := by
  cases h
  rw [← hq]
def sp_L (L : Nat) (xs : Nat → Int32) : am_S := sp_c 145 (cs_l cl_X11_init) (sp_c 183 (cs_l cl_X12_init) (sp_c 146 (fn_s fn_F G_X11_feed) (sp_c 184 (fn_s fn_F G_X12_feed) (sp_c 147 (fn_s fn_F G_X11_end) (sp_c 186 (fn_s fn_F G_X12_end) (sp_c 148 (fn_s fn_F G_X11_map) (sp_c 201 (fn_s fn_F G_X12_map) (sp_c 149 (fn_s2 fn_F G_X11_orders) (sp_c 220 (fn_s fn_F G_X12_orders) (sp_c 150 (fn_s fn_F G_X11_fault) (sp_c 221 (fn_s fn_F G_X12_fault) (sp_c 151 (fn_s fn_F G_X11_between) (sp_c 205 (fn_s fn_F G_X12_between) (sp_c 152 (fn_s fn_F G_X11_plate) (sp_c 226 (fn_s fn_F G_X12_plate) (sp_c 153 (fn_s fn_F G_X11_papers) (sp_c 230 (fn_s fn_F G_X12_papers) (sp_c 154 (fn_s fn_F G_X11_read) (sp_c 231 (fn_s fn_F G_X12_read) (sp_c 155 (fn_s fn_F G_X11_appeal) (sp_c 232 (fn_s fn_F G_X12_appeal) (sp_c 156 (fn_s fn_F G_X11_untell) (sp_c 233 (fn_s fn_F G_X12_untell) (sp_c 157 (fn_s fn_F G_X11_later) (sp_c 234 (fn_s fn_F G_X12_later) (sp_c 158 (fn_s fn_F G_X11_like) (sp_c 239 (fn_s fn_F G_X12_like) (sp_c 159 (fn_s fn_F G_X11_whose) (sp_c 244 (fn_s fn_F G_X12_whose) (sp_c 160 (fn_s fn_F G_X11_doubt) (sp_c 245 (fn_s fn_F G_X12_doubt) (sp_c 161 (fn_s fn_F G_X11_isDouble) (sp_c 246 (fn_s fn_F G_X12_isDouble) (sp_c 162 (fn_s fn_F G_X11_inside) (sp_c 250 (fn_s fn_F G_X12_inside) (sp_c 163 (fn_s fn_F G_X11_classOf) (sp_c 253 (fn_s fn_F G_X12_classOf) (sp_c 164 (fn_s fn_F G_X11_entries) (sp_c 256 (fn_s fn_F G_X12_entries) (sp_c 165 (fn_s fn_F G_X11_charge) (sp_c 259 (fn_s fn_F G_X12_charge) (sp_c 166 (fn_s fn_F G_X11_account) (sp_c 260 (fn_s fn_F G_X12_account) (sp_c 167 (fn_s fn_F G_X11_back) (sp_c 261 (fn_s fn_F G_X12_back) (sp_c 168 (fn_s fn_F G_X11_air) (sp_c 262 (fn_s fn_F G_X12_air) (sp_c 169 (fn_s fn_F G_X11_effect) (sp_c 267 (fn_s fn_F G_X12_effect) (sp_c 170 (fn_s fn_F G_X11_doubtOf) (sp_c 268 (fn_s fn_F G_X12_doubtOf) (sp_c 171 (fn_s fn_F G_X11_trip) (sp_c 269 (fn_s fn_F G_X12_trip) (sp_c 172 (fn_s fn_F G_X11_minutes) (sp_c 273 (fn_s fn_F G_X12_minutes) (sp_c 173 (fn_s fn_F G_X11_via) (sp_c 274 (fn_s fn_F G_X12_via) (sp_c 174 (fn_s fn_F G_X11_load) (sp_c 276 (fn_s fn_F G_X12_load) (sp_c 175 (fn_s fn_F G_X11_around) (sp_c 278 (fn_s fn_F G_X12_around) (sp_c 176 (fn_s fn_F G_X11_view) (sp_c 281 (fn_s fn_F G_X12_view) (sp_c 177 (fn_s fn_F G_X11_seen) (sp_c 282 (fn_s fn_F G_X12_seen) (sp_c 178 (fn_s fn_F G_X11_about) (sp_c 283 (fn_s fn_F G_X12_about) (fn_sp [(900, fn_0, GW900_ L xs), (901, fn_0, GW901_ L)]))))))))))))))))))))))))))))))))))))))))))))))))))))))))))))))))))))
theorem sm_L (L : Nat) (xs : Nat → Int32) : am_Smono (sp_L L xs) := sp_c_mono (cs_mono) (sp_c_mono (cs_mono) (sp_c_mono (fn_s_m) (sp_c_mono (fn_s_m) (sp_c_mono (fn_s_m) (sp_c_mono (fn_s_m) (sp_c_mono (fn_s_m) (sp_c_mono (fn_s_m) (sp_c_mono (fn_s2_m) (sp_c_mono (fn_s_m) (sp_c_mono (fn_s_m) (sp_c_mono (fn_s_m) (sp_c_mono (fn_s_m) (sp_c_mono (fn_s_m) (sp_c_mono (fn_s_m) (sp_c_mono (fn_s_m) (sp_c_mono (fn_s_m) (sp_c_mono (fn_s_m) (sp_c_mono (fn_s_m) (sp_c_mono (fn_s_m) (sp_c_mono (fn_s_m) (sp_c_mono (fn_s_m) (sp_c_mono (fn_s_m) (sp_c_mono (fn_s_m) (sp_c_mono (fn_s_m) (sp_c_mono (fn_s_m) (sp_c_mono (fn_s_m) (sp_c_mono (fn_s_m) (sp_c_mono (fn_s_m) (sp_c_mono (fn_s_m) (sp_c_mono (fn_s_m) (sp_c_mono (fn_s_m) (sp_c_mono (fn_s_m) (sp_c_mono (fn_s_m) (sp_c_mono (fn_s_m) (sp_c_mono (fn_s_m) (sp_c_mono (fn_s_m) (sp_c_mono (fn_s_m) (sp_c_mono (fn_s_m) (sp_c_mono (fn_s_m) (sp_c_mono (fn_s_m) (sp_c_mono (fn_s_m) (sp_c_mono (fn_s_m) (sp_c_mono (fn_s_m) (sp_c_mono (fn_s_m) (sp_c_mono (fn_s_m) (sp_c_mono (fn_s_m) (sp_c_mono (fn_s_m) (sp_c_mono (fn_s_m) (sp_c_mono (fn_s_m) (sp_c_mono (fn_s_m) (sp_c_mono (fn_s_m) (sp_c_mono (fn_s_m) (sp_c_mono (fn_s_m) (sp_c_mono (fn_s_m) (sp_c_mono (fn_s_m) (sp_c_mono (fn_s_m) (sp_c_mono (fn_s_m) (sp_c_mono (fn_s_m) (sp_c_mono (fn_s_m) (sp_c_mono (fn_s_m) (sp_c_mono (fn_s_m) (sp_c_mono (fn_s_m) (sp_c_mono (fn_s_m) (sp_c_mono (fn_s_m) (sp_c_mono (fn_s_m) (sp_c_mono (fn_s_m) (sp_c_mono (fn_s_m) (fn_sp_mono _))))))))))))))))))))))))))))))))))))))))))))))))))))))))))))))))))))
theorem ex_L {l : Launch} {g : am_G} {L : Nat} {xs : Nat → Int32} (hX : va_X (am_ad g 1000) L xs g.1 g.1.heap) (hb : am_ad g 1000 < am_B g) : am_ext l (sp_L L xs) g 20 := sp_c_ext (Nat.le_of_ble_eq_true rfl) (sp_c_ext (Nat.le_of_ble_eq_true rfl) (sp_c_ext (Nat.le_of_ble_eq_true rfl) (sp_c_ext (Nat.le_of_ble_eq_true rfl) (sp_c_ext (Nat.le_of_ble_eq_true rfl) (sp_c_ext (Nat.le_of_ble_eq_true rfl) (sp_c_ext (Nat.le_of_ble_eq_true rfl) (sp_c_ext (Nat.le_of_ble_eq_true rfl) (sp_c_ext (Nat.le_of_ble_eq_true rfl) (sp_c_ext (Nat.le_of_ble_eq_true rfl) (sp_c_ext (Nat.le_of_ble_eq_true rfl) (sp_c_ext (Nat.le_of_ble_eq_true rfl) (sp_c_ext (Nat.le_of_ble_eq_true rfl) (sp_c_ext (Nat.le_of_ble_eq_true rfl) (sp_c_ext (Nat.le_of_ble_eq_true rfl) (sp_c_ext (Nat.le_of_ble_eq_true rfl) (sp_c_ext (Nat.le_of_ble_eq_true rfl) (sp_c_ext (Nat.le_of_ble_eq_true rfl) (sp_c_ext (Nat.le_of_ble_eq_true rfl) (sp_c_ext (Nat.le_of_ble_eq_true rfl) (sp_c_ext (Nat.le_of_ble_eq_true rfl) (sp_c_ext (Nat.le_of_ble_eq_true rfl) (sp_c_ext (Nat.le_of_ble_eq_true rfl) (sp_c_ext (Nat.le_of_ble_eq_true rfl) (sp_c_ext (Nat.le_of_ble_eq_true rfl) (sp_c_ext (Nat.le_of_ble_eq_true rfl) (sp_c_ext (Nat.le_of_ble_eq_true rfl) (sp_c_ext (Nat.le_of_ble_eq_true rfl) (sp_c_ext (Nat.le_of_ble_eq_true rfl) (sp_c_ext (Nat.le_of_ble_eq_true rfl) (sp_c_ext (Nat.le_of_ble_eq_true rfl) (sp_c_ext (Nat.le_of_ble_eq_true rfl) (sp_c_ext (Nat.le_of_ble_eq_true rfl) (sp_c_ext (Nat.le_of_ble_eq_true rfl) (sp_c_ext (Nat.le_of_ble_eq_true rfl) (sp_c_ext (Nat.le_of_ble_eq_true rfl) (sp_c_ext (Nat.le_of_ble_eq_true rfl) (sp_c_ext (Nat.le_of_ble_eq_true rfl) (sp_c_ext (Nat.le_of_ble_eq_true rfl) (sp_c_ext (Nat.le_of_ble_eq_true rfl) (sp_c_ext (Nat.le_of_ble_eq_true rfl) (sp_c_ext (Nat.le_of_ble_eq_true rfl) (sp_c_ext (Nat.le_of_ble_eq_true rfl) (sp_c_ext (Nat.le_of_ble_eq_true rfl) (sp_c_ext (Nat.le_of_ble_eq_true rfl) (sp_c_ext (Nat.le_of_ble_eq_true rfl) (sp_c_ext (Nat.le_of_ble_eq_true rfl) (sp_c_ext (Nat.le_of_ble_eq_true rfl) (sp_c_ext (Nat.le_of_ble_eq_true rfl) (sp_c_ext (Nat.le_of_ble_eq_true rfl) (sp_c_ext (Nat.le_of_ble_eq_true rfl) (sp_c_ext (Nat.le_of_ble_eq_true rfl) (sp_c_ext (Nat.le_of_ble_eq_true rfl) (sp_c_ext (Nat.le_of_ble_eq_true rfl) (sp_c_ext (Nat.le_of_ble_eq_true rfl) (sp_c_ext (Nat.le_of_ble_eq_true rfl) (sp_c_ext (Nat.le_of_ble_eq_true rfl) (sp_c_ext (Nat.le_of_ble_eq_true rfl) (sp_c_ext (Nat.le_of_ble_eq_true rfl) (sp_c_ext (Nat.le_of_ble_eq_true rfl) (sp_c_ext (Nat.le_of_ble_eq_true rfl) (sp_c_ext (Nat.le_of_ble_eq_true rfl) (sp_c_ext (Nat.le_of_ble_eq_true rfl) (sp_c_ext (Nat.le_of_ble_eq_true rfl) (sp_c_ext (Nat.le_of_ble_eq_true rfl) (sp_c_ext (Nat.le_of_ble_eq_true rfl) (sp_c_ext (Nat.le_of_ble_eq_true rfl) (sp_c_ext (Nat.le_of_ble_eq_true rfl) (lw_ext hX hb))))))))))))))))))))))))))))))))))))))))))))))))))))))))))))))))))))
abbrev S_L : Type := Nat × Int32 × fm_
set_option maxRecDepth 100000 in
noncomputable def s_L_18 (L : Nat) (xs : Nat → Int32) (x3 : Int32) (m : fm_) : Option (S_L ⊕ (Int32 × fm_)) :=
  (if ((nI L) - 7) < x3 then
((some (Sum.inr (1, m))))
else
(gd_ (ix_ x3 L)
(if ((xs (Int32.toNatClampNeg x3)) &&& 63) = 0 then
((some (Sum.inl (1, x3, m))))
else
(if ((xs (Int32.toNatClampNeg x3)) &&& 63) = 1 then
((some (Sum.inl (2, x3, m))))
else
(if ((xs (Int32.toNatClampNeg x3)) &&& 63) = 2 then
((some (Sum.inl (3, x3, m))))
else
(if ((xs (Int32.toNatClampNeg x3)) &&& 63) = 3 then
((some (Sum.inl (4, x3, m))))
else
(if ((xs (Int32.toNatClampNeg x3)) &&& 63) = 4 then
((some (Sum.inl (5, x3, m))))
else
(if ((xs (Int32.toNatClampNeg x3)) &&& 63) = 5 then
((some (Sum.inl (6, x3, m))))
else
(if ((xs (Int32.toNatClampNeg x3)) &&& 63) = 6 then
((some (Sum.inl (7, x3, m))))
else
(if ((xs (Int32.toNatClampNeg x3)) &&& 63) = 7 then
((some (Sum.inl (8, x3, m))))
else
(if ((xs (Int32.toNatClampNeg x3)) &&& 63) = 8 then
((some (Sum.inl (9, x3, m))))
else
(if ((xs (Int32.toNatClampNeg x3)) &&& 63) = 9 then
((some (Sum.inl (10, x3, m))))
else
(if ((xs (Int32.toNatClampNeg x3)) &&& 63) = 10 then
((some (Sum.inl (11, x3, m))))
else
(if ((xs (Int32.toNatClampNeg x3)) &&& 63) = 11 then
((some (Sum.inl (12, x3, m))))
else
(if ((xs (Int32.toNatClampNeg x3)) &&& 63) = 12 then
((some (Sum.inl (13, x3, m))))
else
(if ((xs (Int32.toNatClampNeg x3)) &&& 63) = 13 then
((some (Sum.inl (14, x3, m))))
else
(if ((xs (Int32.toNatClampNeg x3)) &&& 63) = 14 then
((some (Sum.inl (15, x3, m))))
else
(if ((xs (Int32.toNatClampNeg x3)) &&& 63) = 15 then
((some (Sum.inl (16, x3, m))))
else
(if ((xs (Int32.toNatClampNeg x3)) &&& 63) = 16 then
((some (Sum.inl (17, x3, m))))
else
(if ((xs (Int32.toNatClampNeg x3)) &&& 63) = 17 then
((some (Sum.inl (18, x3, m))))
else
(if ((xs (Int32.toNatClampNeg x3)) &&& 63) = 18 then
((some (Sum.inl (19, x3, m))))
else
(if ((xs (Int32.toNatClampNeg x3)) &&& 63) = 19 then
((some (Sum.inl (20, x3, m))))
else
(if ((xs (Int32.toNatClampNeg x3)) &&& 63) = 20 then
((some (Sum.inl (21, x3, m))))
else
(if ((xs (Int32.toNatClampNeg x3)) &&& 63) = 21 then
((some (Sum.inl (22, x3, m))))
else
(if ((xs (Int32.toNatClampNeg x3)) &&& 63) = 22 then
((some (Sum.inl (23, x3, m))))
else
(if ((xs (Int32.toNatClampNeg x3)) &&& 63) = 23 then
((some (Sum.inl (24, x3, m))))
else
(if ((xs (Int32.toNatClampNeg x3)) &&& 63) = 24 then
((some (Sum.inl (25, x3, m))))
else
(if ((xs (Int32.toNatClampNeg x3)) &&& 63) = 25 then
((some (Sum.inl (26, x3, m))))
else
(if ((xs (Int32.toNatClampNeg x3)) &&& 63) = 26 then
((some (Sum.inl (27, x3, m))))
else
(if ((xs (Int32.toNatClampNeg x3)) &&& 63) = 27 then
((some (Sum.inl (28, x3, m))))
else
(if ((xs (Int32.toNatClampNeg x3)) &&& 63) = 28 then
((some (Sum.inl (29, x3, m))))
else
(if ((xs (Int32.toNatClampNeg x3)) &&& 63) = 29 then
((some (Sum.inl (30, x3, m))))
else
(if ((xs (Int32.toNatClampNeg x3)) &&& 63) = 30 then
((some (Sum.inl (31, x3, m))))
else
(if ((xs (Int32.toNatClampNeg x3)) &&& 63) = 31 then
((some (Sum.inl (32, x3, m))))
else
(if ((xs (Int32.toNatClampNeg x3)) &&& 63) = 32 then
((some (Sum.inl (33, x3, m))))
else
((some (Sum.inl (0, (x3 + 7), m)))))))))))))))))))))))))))))))))))))))
set_option maxRecDepth 100000 in
noncomputable def s_L_180 (L : Nat) (xs : Nat → Int32) (x3 : Int32) (m : fm_) : Option (S_L ⊕ (Int32 × fm_)) :=
  (gd_ (ix_ (x3 + 1) L)
(gd_ (ix_ (x3 + 2) L)
(gd_ (ix_ (x3 + 3) L)
(gd_ (ix_ (x3 + 4) L)
(gd_ (ix_ (x3 + 5) L)
(Option.bind (f_X11_feed (xs (Int32.toNatClampNeg (x3 + 1))) (xs (Int32.toNatClampNeg (x3 + 2))) (xs (Int32.toNatClampNeg (x3 + 3))) (xs (Int32.toNatClampNeg (x3 + 4))) (xs (Int32.toNatClampNeg (x3 + 5))) m) fun q11 =>
(gd_ (ix_ (x3 + 1) L)
(gd_ (ix_ (x3 + 2) L)
(gd_ (ix_ (x3 + 3) L)
(gd_ (ix_ (x3 + 4) L)
(gd_ (ix_ (x3 + 5) L)
(Option.bind (f_X12_feed (xs (Int32.toNatClampNeg (x3 + 1))) (xs (Int32.toNatClampNeg (x3 + 2))) (xs (Int32.toNatClampNeg (x3 + 3))) (xs (Int32.toNatClampNeg (x3 + 4))) (xs (Int32.toNatClampNeg (x3 + 5))) q11.2) fun q24 =>
(if q11.1 = q24.1 then
((some (Sum.inl (0, (x3 + 7), q24.2))))
else
((some (Sum.inr (0, q24.2)))))))))))))))))
set_option maxRecDepth 100000 in
noncomputable def s_L_243 (L : Nat) (xs : Nat → Int32) (x3 : Int32) (m : fm_) : Option (S_L ⊕ (Int32 × fm_)) :=
  (gd_ (ix_ (x3 + 1) L)
(Option.bind (f_X11_end (xs (Int32.toNatClampNeg (x3 + 1))) m) fun q3 =>
(gd_ (ix_ (x3 + 1) L)
(Option.bind (f_X12_end (xs (Int32.toNatClampNeg (x3 + 1))) q3.2) fun q8 =>
(if q3.1 = q8.1 then
((some (Sum.inl (0, (x3 + 7), q8.2))))
else
((some (Sum.inr (0, q8.2)))))))))
set_option maxRecDepth 100000 in
noncomputable def s_L_266 (L : Nat) (xs : Nat → Int32) (x3 : Int32) (m : fm_) : Option (S_L ⊕ (Int32 × fm_)) :=
  (Option.bind (f_X11_map m) fun q1 =>
(Option.bind (f_X12_map q1.2) fun q4 =>
(if q1.1 = q4.1 then
((some (Sum.inl (0, (x3 + 7), q4.2))))
else
((some (Sum.inr (0, q4.2)))))))
set_option maxRecDepth 100000 in
noncomputable def s_L_279 (L : Nat) (xs : Nat → Int32) (x3 : Int32) (m : fm_) : Option (S_L ⊕ (Int32 × fm_)) :=
  (gd_ (ix_ (x3 + 1) L)
(Option.bind (f_X11_orders (xs (Int32.toNatClampNeg (x3 + 1))) m) fun q3 =>
(gd_ (ix_ (x3 + 1) L)
(Option.bind (f_X12_orders (xs (Int32.toNatClampNeg (x3 + 1))) q3.2) fun q8 =>
(if q3.1 = q8.1 then
((some (Sum.inl (0, (x3 + 7), q8.2))))
else
((some (Sum.inr (0, q8.2)))))))))
set_option maxRecDepth 100000 in
noncomputable def s_L_302 (L : Nat) (xs : Nat → Int32) (x3 : Int32) (m : fm_) : Option (S_L ⊕ (Int32 × fm_)) :=
  (gd_ (ix_ (x3 + 1) L)
(Option.bind (f_X11_fault (xs (Int32.toNatClampNeg (x3 + 1))) m) fun q3 =>
(gd_ (ix_ (x3 + 1) L)
(Option.bind (f_X12_fault (xs (Int32.toNatClampNeg (x3 + 1))) q3.2) fun q8 =>
(if q3.1 = q8.1 then
((some (Sum.inl (0, (x3 + 7), q8.2))))
else
((some (Sum.inr (0, q8.2)))))))))
set_option maxRecDepth 100000 in
noncomputable def s_L_325 (L : Nat) (xs : Nat → Int32) (x3 : Int32) (m : fm_) : Option (S_L ⊕ (Int32 × fm_)) :=
  (gd_ (ix_ (x3 + 1) L)
(gd_ (ix_ (x3 + 2) L)
(Option.bind (f_X11_between (xs (Int32.toNatClampNeg (x3 + 1))) (xs (Int32.toNatClampNeg (x3 + 2))) m) fun q5 =>
(gd_ (ix_ (x3 + 1) L)
(gd_ (ix_ (x3 + 2) L)
(Option.bind (f_X12_between (xs (Int32.toNatClampNeg (x3 + 1))) (xs (Int32.toNatClampNeg (x3 + 2))) q5.2) fun q12 =>
(if q5.1 = q12.1 then
((some (Sum.inl (0, (x3 + 7), q12.2))))
else
((some (Sum.inr (0, q12.2)))))))))))
set_option maxRecDepth 100000 in
noncomputable def s_L_358 (L : Nat) (xs : Nat → Int32) (x3 : Int32) (m : fm_) : Option (S_L ⊕ (Int32 × fm_)) :=
  (gd_ (ix_ (x3 + 1) L)
(gd_ (ix_ (x3 + 2) L)
(gd_ (ix_ (x3 + 3) L)
(Option.bind (f_X11_plate (((Int32.toInt64 (xs (Int32.toNatClampNeg (x3 + 1)))) <<< (Int32.toInt64 32 &&& 63)) ||| ((Int32.toInt64 (xs (Int32.toNatClampNeg (x3 + 2)))) &&& 4294967295)) (xs (Int32.toNatClampNeg (x3 + 3))) m) fun q7 =>
(gd_ (ix_ (x3 + 1) L)
(gd_ (ix_ (x3 + 2) L)
(gd_ (ix_ (x3 + 3) L)
(Option.bind (f_X12_plate (((Int32.toInt64 (xs (Int32.toNatClampNeg (x3 + 1)))) <<< (Int32.toInt64 32 &&& 63)) ||| ((Int32.toInt64 (xs (Int32.toNatClampNeg (x3 + 2)))) &&& 4294967295)) (xs (Int32.toNatClampNeg (x3 + 3))) q7.2) fun q16 =>
(if q7.1 = q16.1 then
((some (Sum.inl (0, (x3 + 7), q16.2))))
else
((some (Sum.inr (0, q16.2)))))))))))))
set_option maxRecDepth 100000 in
noncomputable def s_L_421 (L : Nat) (xs : Nat → Int32) (x3 : Int32) (m : fm_) : Option (S_L ⊕ (Int32 × fm_)) :=
  (gd_ (ix_ (x3 + 1) L)
(gd_ (ix_ (x3 + 2) L)
(gd_ (ix_ (x3 + 3) L)
(gd_ (ix_ (x3 + 4) L)
(gd_ (ix_ (x3 + 5) L)
(gd_ (ix_ (x3 + 6) L)
(Option.bind (f_X11_papers (xs (Int32.toNatClampNeg (x3 + 1))) (xs (Int32.toNatClampNeg (x3 + 2))) (xs (Int32.toNatClampNeg (x3 + 3))) (xs (Int32.toNatClampNeg (x3 + 4))) (xs (Int32.toNatClampNeg (x3 + 5))) (xs (Int32.toNatClampNeg (x3 + 6))) m) fun q13 =>
(gd_ (ix_ (x3 + 1) L)
(gd_ (ix_ (x3 + 2) L)
(gd_ (ix_ (x3 + 3) L)
(gd_ (ix_ (x3 + 4) L)
(gd_ (ix_ (x3 + 5) L)
(gd_ (ix_ (x3 + 6) L)
(Option.bind (f_X12_papers (xs (Int32.toNatClampNeg (x3 + 1))) (xs (Int32.toNatClampNeg (x3 + 2))) (xs (Int32.toNatClampNeg (x3 + 3))) (xs (Int32.toNatClampNeg (x3 + 4))) (xs (Int32.toNatClampNeg (x3 + 5))) (xs (Int32.toNatClampNeg (x3 + 6))) q13.2) fun q28 =>
(if q13.1 = q28.1 then
((some (Sum.inl (0, (x3 + 7), q28.2))))
else
((some (Sum.inr (0, q28.2)))))))))))))))))))
set_option maxRecDepth 100000 in
noncomputable def s_L_496 (L : Nat) (xs : Nat → Int32) (x3 : Int32) (m : fm_) : Option (S_L ⊕ (Int32 × fm_)) :=
  (gd_ (ix_ (x3 + 1) L)
(gd_ (ix_ (x3 + 2) L)
(gd_ (ix_ (x3 + 3) L)
(gd_ (ix_ (x3 + 4) L)
(gd_ (ix_ (x3 + 5) L)
(Option.bind (f_X11_read (xs (Int32.toNatClampNeg (x3 + 1))) (xs (Int32.toNatClampNeg (x3 + 2))) (xs (Int32.toNatClampNeg (x3 + 3))) (((Int32.toInt64 (xs (Int32.toNatClampNeg (x3 + 4)))) <<< (Int32.toInt64 32 &&& 63)) ||| ((Int32.toInt64 (xs (Int32.toNatClampNeg (x3 + 5)))) &&& 4294967295)) m) fun q11 =>
(gd_ (ix_ (x3 + 1) L)
(gd_ (ix_ (x3 + 2) L)
(gd_ (ix_ (x3 + 3) L)
(gd_ (ix_ (x3 + 4) L)
(gd_ (ix_ (x3 + 5) L)
(Option.bind (f_X12_read (xs (Int32.toNatClampNeg (x3 + 1))) (xs (Int32.toNatClampNeg (x3 + 2))) (xs (Int32.toNatClampNeg (x3 + 3))) (((Int32.toInt64 (xs (Int32.toNatClampNeg (x3 + 4)))) <<< (Int32.toInt64 32 &&& 63)) ||| ((Int32.toInt64 (xs (Int32.toNatClampNeg (x3 + 5)))) &&& 4294967295)) q11.2) fun q24 =>
(if q11.1 = q24.1 then
((some (Sum.inl (0, (x3 + 7), q24.2))))
else
((some (Sum.inr (0, q24.2)))))))))))))))))
set_option maxRecDepth 100000 in
noncomputable def s_L_579 (L : Nat) (xs : Nat → Int32) (x3 : Int32) (m : fm_) : Option (S_L ⊕ (Int32 × fm_)) :=
  (gd_ (ix_ (x3 + 1) L)
(gd_ (ix_ (x3 + 2) L)
(Option.bind (f_X11_appeal (xs (Int32.toNatClampNeg (x3 + 1))) (xs (Int32.toNatClampNeg (x3 + 2))) m) fun q5 =>
(gd_ (ix_ (x3 + 1) L)
(gd_ (ix_ (x3 + 2) L)
(Option.bind (f_X12_appeal (xs (Int32.toNatClampNeg (x3 + 1))) (xs (Int32.toNatClampNeg (x3 + 2))) q5.2) fun q12 =>
(if q5.1 = q12.1 then
((some (Sum.inl (0, (x3 + 7), q12.2))))
else
((some (Sum.inr (0, q12.2)))))))))))
set_option maxRecDepth 100000 in
noncomputable def s_L_612 (L : Nat) (xs : Nat → Int32) (x3 : Int32) (m : fm_) : Option (S_L ⊕ (Int32 × fm_)) :=
  (gd_ (ix_ (x3 + 1) L)
(Option.bind (f_X11_untell (xs (Int32.toNatClampNeg (x3 + 1))) m) fun q3 =>
(gd_ (ix_ (x3 + 1) L)
(Option.bind (f_X12_untell (xs (Int32.toNatClampNeg (x3 + 1))) q3.2) fun q8 =>
(if q3.1 = q8.1 then
((some (Sum.inl (0, (x3 + 7), q8.2))))
else
((some (Sum.inr (0, q8.2)))))))))
set_option maxRecDepth 100000 in
noncomputable def s_L_635 (L : Nat) (xs : Nat → Int32) (x3 : Int32) (m : fm_) : Option (S_L ⊕ (Int32 × fm_)) :=
  (gd_ (ix_ (x3 + 1) L)
(Option.bind (f_X11_later (xs (Int32.toNatClampNeg (x3 + 1))) m) fun q3 =>
(gd_ (ix_ (x3 + 1) L)
(Option.bind (f_X12_later (xs (Int32.toNatClampNeg (x3 + 1))) q3.2) fun q8 =>
(if q3.1 = q8.1 then
((some (Sum.inl (0, (x3 + 7), q8.2))))
else
((some (Sum.inr (0, q8.2)))))))))
set_option maxRecDepth 100000 in
noncomputable def s_L_658 (L : Nat) (xs : Nat → Int32) (x3 : Int32) (m : fm_) : Option (S_L ⊕ (Int32 × fm_)) :=
  (gd_ (ix_ (x3 + 1) L)
(gd_ (ix_ (x3 + 2) L)
(Option.bind (f_X11_like (xs (Int32.toNatClampNeg (x3 + 1))) (xs (Int32.toNatClampNeg (x3 + 2))) m) fun q5 =>
(gd_ (ix_ (x3 + 1) L)
(gd_ (ix_ (x3 + 2) L)
(Option.bind (f_X12_like (xs (Int32.toNatClampNeg (x3 + 1))) (xs (Int32.toNatClampNeg (x3 + 2))) q5.2) fun q12 =>
(if q5.1 = q12.1 then
((some (Sum.inl (0, (x3 + 7), q12.2))))
else
((some (Sum.inr (0, q12.2)))))))))))
set_option maxRecDepth 100000 in
noncomputable def s_L_691 (L : Nat) (xs : Nat → Int32) (x3 : Int32) (m : fm_) : Option (S_L ⊕ (Int32 × fm_)) :=
  (gd_ (ix_ (x3 + 1) L)
(gd_ (ix_ (x3 + 2) L)
(Option.bind (f_X11_whose (xs (Int32.toNatClampNeg (x3 + 1))) (xs (Int32.toNatClampNeg (x3 + 2))) m) fun q5 =>
(gd_ (ix_ (x3 + 1) L)
(gd_ (ix_ (x3 + 2) L)
(Option.bind (f_X12_whose (xs (Int32.toNatClampNeg (x3 + 1))) (xs (Int32.toNatClampNeg (x3 + 2))) q5.2) fun q12 =>
(if q5.1 = q12.1 then
((some (Sum.inl (0, (x3 + 7), q12.2))))
else
((some (Sum.inr (0, q12.2)))))))))))
set_option maxRecDepth 100000 in
noncomputable def s_L_724 (L : Nat) (xs : Nat → Int32) (x3 : Int32) (m : fm_) : Option (S_L ⊕ (Int32 × fm_)) :=
  (gd_ (ix_ (x3 + 1) L)
(gd_ (ix_ (x3 + 2) L)
(Option.bind (f_X11_doubt (xs (Int32.toNatClampNeg (x3 + 1))) (xs (Int32.toNatClampNeg (x3 + 2))) m) fun q5 =>
(gd_ (ix_ (x3 + 1) L)
(gd_ (ix_ (x3 + 2) L)
(Option.bind (f_X12_doubt (xs (Int32.toNatClampNeg (x3 + 1))) (xs (Int32.toNatClampNeg (x3 + 2))) q5.2) fun q12 =>
(if q5.1 = q12.1 then
((some (Sum.inl (0, (x3 + 7), q12.2))))
else
((some (Sum.inr (0, q12.2)))))))))))
set_option maxRecDepth 100000 in
noncomputable def s_L_757 (L : Nat) (xs : Nat → Int32) (x3 : Int32) (m : fm_) : Option (S_L ⊕ (Int32 × fm_)) :=
  (gd_ (ix_ (x3 + 1) L)
(gd_ (ix_ (x3 + 2) L)
(gd_ (ix_ (x3 + 3) L)
(Option.bind (f_X11_isDouble (xs (Int32.toNatClampNeg (x3 + 1))) (xs (Int32.toNatClampNeg (x3 + 2))) (xs (Int32.toNatClampNeg (x3 + 3))) m) fun q7 =>
(gd_ (ix_ (x3 + 1) L)
(gd_ (ix_ (x3 + 2) L)
(gd_ (ix_ (x3 + 3) L)
(Option.bind (f_X12_isDouble (xs (Int32.toNatClampNeg (x3 + 1))) (xs (Int32.toNatClampNeg (x3 + 2))) (xs (Int32.toNatClampNeg (x3 + 3))) q7.2) fun q16 =>
(if q7.1 = q16.1 then
((some (Sum.inl (0, (x3 + 7), q16.2))))
else
((some (Sum.inr (0, q16.2)))))))))))))
set_option maxRecDepth 100000 in
noncomputable def s_L_800 (L : Nat) (xs : Nat → Int32) (x3 : Int32) (m : fm_) : Option (S_L ⊕ (Int32 × fm_)) :=
  (gd_ (ix_ (x3 + 1) L)
(gd_ (ix_ (x3 + 2) L)
(gd_ (ix_ (x3 + 3) L)
(if (xs (Int32.toNatClampNeg (x3 + 3))) = 0 then
(gd_ (ix_ (x3 + 4) L)
(Option.bind (f_X11_inside (xs (Int32.toNatClampNeg (x3 + 1))) (xs (Int32.toNatClampNeg (x3 + 2))) 0 (xs (Int32.toNatClampNeg (x3 + 4))) m) fun q11 =>
(gd_ (ix_ (x3 + 1) L)
(gd_ (ix_ (x3 + 2) L)
(gd_ (ix_ (x3 + 3) L)
(if (xs (Int32.toNatClampNeg (x3 + 3))) = 0 then
(gd_ (ix_ (x3 + 4) L)
(Option.bind (f_X12_inside (xs (Int32.toNatClampNeg (x3 + 1))) (xs (Int32.toNatClampNeg (x3 + 2))) 0 (xs (Int32.toNatClampNeg (x3 + 4))) q11.2) fun q24 =>
(if q11.1 = q24.1 then
((some (Sum.inl (0, (x3 + 7), q24.2))))
else
((some (Sum.inr (0, q24.2)))))))
else
(gd_ (ix_ (x3 + 4) L)
(Option.bind (f_X12_inside (xs (Int32.toNatClampNeg (x3 + 1))) (xs (Int32.toNatClampNeg (x3 + 2))) 1 (xs (Int32.toNatClampNeg (x3 + 4))) q11.2) fun q31 =>
(if q11.1 = q31.1 then
((some (Sum.inl (0, (x3 + 7), q31.2))))
else
((some (Sum.inr (0, q31.2)))))))))))))
else
(gd_ (ix_ (x3 + 4) L)
(Option.bind (f_X11_inside (xs (Int32.toNatClampNeg (x3 + 1))) (xs (Int32.toNatClampNeg (x3 + 2))) 1 (xs (Int32.toNatClampNeg (x3 + 4))) m) fun q38 =>
(gd_ (ix_ (x3 + 1) L)
(gd_ (ix_ (x3 + 2) L)
(gd_ (ix_ (x3 + 3) L)
(if (xs (Int32.toNatClampNeg (x3 + 3))) = 0 then
(gd_ (ix_ (x3 + 4) L)
(Option.bind (f_X12_inside (xs (Int32.toNatClampNeg (x3 + 1))) (xs (Int32.toNatClampNeg (x3 + 2))) 0 (xs (Int32.toNatClampNeg (x3 + 4))) q38.2) fun q51 =>
(if q38.1 = q51.1 then
((some (Sum.inl (0, (x3 + 7), q51.2))))
else
((some (Sum.inr (0, q51.2)))))))
else
(gd_ (ix_ (x3 + 4) L)
(Option.bind (f_X12_inside (xs (Int32.toNatClampNeg (x3 + 1))) (xs (Int32.toNatClampNeg (x3 + 2))) 1 (xs (Int32.toNatClampNeg (x3 + 4))) q38.2) fun q58 =>
(if q38.1 = q58.1 then
((some (Sum.inl (0, (x3 + 7), q58.2))))
else
((some (Sum.inr (0, q58.2)))))))))))))))))
set_option maxRecDepth 100000 in
noncomputable def s_L_869 (L : Nat) (xs : Nat → Int32) (x3 : Int32) (m : fm_) : Option (S_L ⊕ (Int32 × fm_)) :=
  (gd_ (ix_ (x3 + 1) L)
(gd_ (ix_ (x3 + 2) L)
(gd_ (ix_ (x3 + 3) L)
(Option.bind (f_X11_classOf (xs (Int32.toNatClampNeg (x3 + 1))) (xs (Int32.toNatClampNeg (x3 + 2))) (xs (Int32.toNatClampNeg (x3 + 3))) m) fun q7 =>
(gd_ (ix_ (x3 + 1) L)
(gd_ (ix_ (x3 + 2) L)
(gd_ (ix_ (x3 + 3) L)
(Option.bind (f_X12_classOf (xs (Int32.toNatClampNeg (x3 + 1))) (xs (Int32.toNatClampNeg (x3 + 2))) (xs (Int32.toNatClampNeg (x3 + 3))) q7.2) fun q16 =>
(if q7.1 = q16.1 then
((some (Sum.inl (0, (x3 + 7), q16.2))))
else
((some (Sum.inr (0, q16.2)))))))))))))
set_option maxRecDepth 100000 in
noncomputable def s_L_912 (L : Nat) (xs : Nat → Int32) (x3 : Int32) (m : fm_) : Option (S_L ⊕ (Int32 × fm_)) :=
  (gd_ (ix_ (x3 + 1) L)
(gd_ (ix_ (x3 + 2) L)
(gd_ (ix_ (x3 + 3) L)
(Option.bind (f_X11_entries (xs (Int32.toNatClampNeg (x3 + 1))) (xs (Int32.toNatClampNeg (x3 + 2))) (xs (Int32.toNatClampNeg (x3 + 3))) m) fun q7 =>
(gd_ (ix_ (x3 + 1) L)
(gd_ (ix_ (x3 + 2) L)
(gd_ (ix_ (x3 + 3) L)
(Option.bind (f_X12_entries (xs (Int32.toNatClampNeg (x3 + 1))) (xs (Int32.toNatClampNeg (x3 + 2))) (xs (Int32.toNatClampNeg (x3 + 3))) q7.2) fun q16 =>
(if q7.1 = q16.1 then
((some (Sum.inl (0, (x3 + 7), q16.2))))
else
((some (Sum.inr (0, q16.2)))))))))))))
set_option maxRecDepth 100000 in
noncomputable def s_L_955 (L : Nat) (xs : Nat → Int32) (x3 : Int32) (m : fm_) : Option (S_L ⊕ (Int32 × fm_)) :=
  (gd_ (ix_ (x3 + 1) L)
(gd_ (ix_ (x3 + 2) L)
(gd_ (ix_ (x3 + 3) L)
(Option.bind (f_X11_charge (xs (Int32.toNatClampNeg (x3 + 1))) (xs (Int32.toNatClampNeg (x3 + 2))) (xs (Int32.toNatClampNeg (x3 + 3))) m) fun q7 =>
(gd_ (ix_ (x3 + 1) L)
(gd_ (ix_ (x3 + 2) L)
(gd_ (ix_ (x3 + 3) L)
(Option.bind (f_X12_charge (xs (Int32.toNatClampNeg (x3 + 1))) (xs (Int32.toNatClampNeg (x3 + 2))) (xs (Int32.toNatClampNeg (x3 + 3))) q7.2) fun q16 =>
(if q7.1 = q16.1 then
((some (Sum.inl (0, (x3 + 7), q16.2))))
else
((some (Sum.inr (0, q16.2)))))))))))))
set_option maxRecDepth 100000 in
noncomputable def s_L_998 (L : Nat) (xs : Nat → Int32) (x3 : Int32) (m : fm_) : Option (S_L ⊕ (Int32 × fm_)) :=
  (gd_ (ix_ (x3 + 1) L)
(gd_ (ix_ (x3 + 2) L)
(gd_ (ix_ (x3 + 3) L)
(gd_ (ix_ (x3 + 4) L)
(Option.bind (f_X11_account (xs (Int32.toNatClampNeg (x3 + 1))) (xs (Int32.toNatClampNeg (x3 + 2))) (xs (Int32.toNatClampNeg (x3 + 3))) (xs (Int32.toNatClampNeg (x3 + 4))) m) fun q9 =>
(gd_ (ix_ (x3 + 1) L)
(gd_ (ix_ (x3 + 2) L)
(gd_ (ix_ (x3 + 3) L)
(gd_ (ix_ (x3 + 4) L)
(Option.bind (f_X12_account (xs (Int32.toNatClampNeg (x3 + 1))) (xs (Int32.toNatClampNeg (x3 + 2))) (xs (Int32.toNatClampNeg (x3 + 3))) (xs (Int32.toNatClampNeg (x3 + 4))) q9.2) fun q20 =>
(if q9.1 = q20.1 then
((some (Sum.inl (0, (x3 + 7), q20.2))))
else
((some (Sum.inr (0, q20.2)))))))))))))))
set_option maxRecDepth 100000 in
noncomputable def s_L_1051 (L : Nat) (xs : Nat → Int32) (x3 : Int32) (m : fm_) : Option (S_L ⊕ (Int32 × fm_)) :=
  (gd_ (ix_ (x3 + 1) L)
(gd_ (ix_ (x3 + 2) L)
(gd_ (ix_ (x3 + 3) L)
(gd_ (ix_ (x3 + 4) L)
(gd_ (ix_ (x3 + 5) L)
(Option.bind (f_X11_back (xs (Int32.toNatClampNeg (x3 + 1))) (xs (Int32.toNatClampNeg (x3 + 2))) (xs (Int32.toNatClampNeg (x3 + 3))) (xs (Int32.toNatClampNeg (x3 + 4))) (xs (Int32.toNatClampNeg (x3 + 5))) m) fun q11 =>
(gd_ (ix_ (x3 + 1) L)
(gd_ (ix_ (x3 + 2) L)
(gd_ (ix_ (x3 + 3) L)
(gd_ (ix_ (x3 + 4) L)
(gd_ (ix_ (x3 + 5) L)
(Option.bind (f_X12_back (xs (Int32.toNatClampNeg (x3 + 1))) (xs (Int32.toNatClampNeg (x3 + 2))) (xs (Int32.toNatClampNeg (x3 + 3))) (xs (Int32.toNatClampNeg (x3 + 4))) (xs (Int32.toNatClampNeg (x3 + 5))) q11.2) fun q24 =>
(if q11.1 = q24.1 then
((some (Sum.inl (0, (x3 + 7), q24.2))))
else
((some (Sum.inr (0, q24.2)))))))))))))))))
set_option maxRecDepth 100000 in
noncomputable def s_L_1114 (L : Nat) (xs : Nat → Int32) (x3 : Int32) (m : fm_) : Option (S_L ⊕ (Int32 × fm_)) :=
  (gd_ (ix_ (x3 + 1) L)
(gd_ (ix_ (x3 + 2) L)
(gd_ (ix_ (x3 + 3) L)
(gd_ (ix_ (x3 + 4) L)
(Option.bind (f_X11_air (xs (Int32.toNatClampNeg (x3 + 1))) (xs (Int32.toNatClampNeg (x3 + 2))) (xs (Int32.toNatClampNeg (x3 + 3))) (xs (Int32.toNatClampNeg (x3 + 4))) m) fun q9 =>
(gd_ (ix_ (x3 + 1) L)
(gd_ (ix_ (x3 + 2) L)
(gd_ (ix_ (x3 + 3) L)
(gd_ (ix_ (x3 + 4) L)
(Option.bind (f_X12_air (xs (Int32.toNatClampNeg (x3 + 1))) (xs (Int32.toNatClampNeg (x3 + 2))) (xs (Int32.toNatClampNeg (x3 + 3))) (xs (Int32.toNatClampNeg (x3 + 4))) q9.2) fun q20 =>
(if q9.1 = q20.1 then
((some (Sum.inl (0, (x3 + 7), q20.2))))
else
((some (Sum.inr (0, q20.2)))))))))))))))
set_option maxRecDepth 100000 in
noncomputable def s_L_1167 (L : Nat) (xs : Nat → Int32) (x3 : Int32) (m : fm_) : Option (S_L ⊕ (Int32 × fm_)) :=
  (gd_ (ix_ (x3 + 1) L)
(Option.bind (f_X11_effect (xs (Int32.toNatClampNeg (x3 + 1))) m) fun q3 =>
(gd_ (ix_ (x3 + 1) L)
(Option.bind (f_X12_effect (xs (Int32.toNatClampNeg (x3 + 1))) q3.2) fun q8 =>
(if q3.1 = q8.1 then
((some (Sum.inl (0, (x3 + 7), q8.2))))
else
((some (Sum.inr (0, q8.2)))))))))
set_option maxRecDepth 100000 in
noncomputable def s_L_1190 (L : Nat) (xs : Nat → Int32) (x3 : Int32) (m : fm_) : Option (S_L ⊕ (Int32 × fm_)) :=
  (gd_ (ix_ (x3 + 1) L)
(gd_ (ix_ (x3 + 2) L)
(Option.bind (f_X11_doubtOf (xs (Int32.toNatClampNeg (x3 + 1))) (xs (Int32.toNatClampNeg (x3 + 2))) m) fun q5 =>
(gd_ (ix_ (x3 + 1) L)
(gd_ (ix_ (x3 + 2) L)
(Option.bind (f_X12_doubtOf (xs (Int32.toNatClampNeg (x3 + 1))) (xs (Int32.toNatClampNeg (x3 + 2))) q5.2) fun q12 =>
(if q5.1 = q12.1 then
((some (Sum.inl (0, (x3 + 7), q12.2))))
else
((some (Sum.inr (0, q12.2)))))))))))
set_option maxRecDepth 100000 in
noncomputable def s_L_1223 (L : Nat) (xs : Nat → Int32) (x3 : Int32) (m : fm_) : Option (S_L ⊕ (Int32 × fm_)) :=
  (gd_ (ix_ (x3 + 1) L)
(gd_ (ix_ (x3 + 2) L)
(gd_ (ix_ (x3 + 3) L)
(gd_ (ix_ (x3 + 4) L)
(gd_ (ix_ (x3 + 5) L)
(Option.bind (f_X11_trip (xs (Int32.toNatClampNeg (x3 + 1))) (xs (Int32.toNatClampNeg (x3 + 2))) (xs (Int32.toNatClampNeg (x3 + 3))) (xs (Int32.toNatClampNeg (x3 + 4))) (xs (Int32.toNatClampNeg (x3 + 5))) m) fun q11 =>
(gd_ (ix_ (x3 + 1) L)
(gd_ (ix_ (x3 + 2) L)
(gd_ (ix_ (x3 + 3) L)
(gd_ (ix_ (x3 + 4) L)
(gd_ (ix_ (x3 + 5) L)
(Option.bind (f_X12_trip (xs (Int32.toNatClampNeg (x3 + 1))) (xs (Int32.toNatClampNeg (x3 + 2))) (xs (Int32.toNatClampNeg (x3 + 3))) (xs (Int32.toNatClampNeg (x3 + 4))) (xs (Int32.toNatClampNeg (x3 + 5))) q11.2) fun q24 =>
(if q11.1 = q24.1 then
((some (Sum.inl (0, (x3 + 7), q24.2))))
else
((some (Sum.inr (0, q24.2)))))))))))))))))
set_option maxRecDepth 100000 in
noncomputable def s_L_1286 (L : Nat) (xs : Nat → Int32) (x3 : Int32) (m : fm_) : Option (S_L ⊕ (Int32 × fm_)) :=
  (gd_ (ix_ (x3 + 1) L)
(gd_ (ix_ (x3 + 2) L)
(gd_ (ix_ (x3 + 3) L)
(if (xs (Int32.toNatClampNeg (x3 + 3))) = 0 then
(Option.bind (f_X11_minutes (xs (Int32.toNatClampNeg (x3 + 1))) (xs (Int32.toNatClampNeg (x3 + 2))) 0 m) fun q9 =>
(gd_ (ix_ (x3 + 1) L)
(gd_ (ix_ (x3 + 2) L)
(gd_ (ix_ (x3 + 3) L)
(if (xs (Int32.toNatClampNeg (x3 + 3))) = 0 then
(Option.bind (f_X12_minutes (xs (Int32.toNatClampNeg (x3 + 1))) (xs (Int32.toNatClampNeg (x3 + 2))) 0 q9.2) fun q20 =>
(if q9.1 = q20.1 then
((some (Sum.inl (0, (x3 + 7), q20.2))))
else
((some (Sum.inr (0, q20.2))))))
else
(Option.bind (f_X12_minutes (xs (Int32.toNatClampNeg (x3 + 1))) (xs (Int32.toNatClampNeg (x3 + 2))) 1 q9.2) fun q25 =>
(if q9.1 = q25.1 then
((some (Sum.inl (0, (x3 + 7), q25.2))))
else
((some (Sum.inr (0, q25.2)))))))))))
else
(Option.bind (f_X11_minutes (xs (Int32.toNatClampNeg (x3 + 1))) (xs (Int32.toNatClampNeg (x3 + 2))) 1 m) fun q30 =>
(gd_ (ix_ (x3 + 1) L)
(gd_ (ix_ (x3 + 2) L)
(gd_ (ix_ (x3 + 3) L)
(if (xs (Int32.toNatClampNeg (x3 + 3))) = 0 then
(Option.bind (f_X12_minutes (xs (Int32.toNatClampNeg (x3 + 1))) (xs (Int32.toNatClampNeg (x3 + 2))) 0 q30.2) fun q41 =>
(if q30.1 = q41.1 then
((some (Sum.inl (0, (x3 + 7), q41.2))))
else
((some (Sum.inr (0, q41.2))))))
else
(Option.bind (f_X12_minutes (xs (Int32.toNatClampNeg (x3 + 1))) (xs (Int32.toNatClampNeg (x3 + 2))) 1 q30.2) fun q46 =>
(if q30.1 = q46.1 then
((some (Sum.inl (0, (x3 + 7), q46.2))))
else
((some (Sum.inr (0, q46.2)))))))))))))))
set_option maxRecDepth 100000 in
noncomputable def s_L_1345 (L : Nat) (xs : Nat → Int32) (x3 : Int32) (m : fm_) : Option (S_L ⊕ (Int32 × fm_)) :=
  (gd_ (ix_ (x3 + 1) L)
(gd_ (ix_ (x3 + 2) L)
(gd_ (ix_ (x3 + 3) L)
(if (xs (Int32.toNatClampNeg (x3 + 3))) = 0 then
(gd_ (ix_ (x3 + 4) L)
(Option.bind (f_X11_via (xs (Int32.toNatClampNeg (x3 + 1))) (xs (Int32.toNatClampNeg (x3 + 2))) 0 (xs (Int32.toNatClampNeg (x3 + 4))) m) fun q11 =>
(gd_ (ix_ (x3 + 1) L)
(gd_ (ix_ (x3 + 2) L)
(gd_ (ix_ (x3 + 3) L)
(if (xs (Int32.toNatClampNeg (x3 + 3))) = 0 then
(gd_ (ix_ (x3 + 4) L)
(Option.bind (f_X12_via (xs (Int32.toNatClampNeg (x3 + 1))) (xs (Int32.toNatClampNeg (x3 + 2))) 0 (xs (Int32.toNatClampNeg (x3 + 4))) q11.2) fun q24 =>
(if q11.1 = q24.1 then
((some (Sum.inl (0, (x3 + 7), q24.2))))
else
((some (Sum.inr (0, q24.2)))))))
else
(gd_ (ix_ (x3 + 4) L)
(Option.bind (f_X12_via (xs (Int32.toNatClampNeg (x3 + 1))) (xs (Int32.toNatClampNeg (x3 + 2))) 1 (xs (Int32.toNatClampNeg (x3 + 4))) q11.2) fun q31 =>
(if q11.1 = q31.1 then
((some (Sum.inl (0, (x3 + 7), q31.2))))
else
((some (Sum.inr (0, q31.2)))))))))))))
else
(gd_ (ix_ (x3 + 4) L)
(Option.bind (f_X11_via (xs (Int32.toNatClampNeg (x3 + 1))) (xs (Int32.toNatClampNeg (x3 + 2))) 1 (xs (Int32.toNatClampNeg (x3 + 4))) m) fun q38 =>
(gd_ (ix_ (x3 + 1) L)
(gd_ (ix_ (x3 + 2) L)
(gd_ (ix_ (x3 + 3) L)
(if (xs (Int32.toNatClampNeg (x3 + 3))) = 0 then
(gd_ (ix_ (x3 + 4) L)
(Option.bind (f_X12_via (xs (Int32.toNatClampNeg (x3 + 1))) (xs (Int32.toNatClampNeg (x3 + 2))) 0 (xs (Int32.toNatClampNeg (x3 + 4))) q38.2) fun q51 =>
(if q38.1 = q51.1 then
((some (Sum.inl (0, (x3 + 7), q51.2))))
else
((some (Sum.inr (0, q51.2)))))))
else
(gd_ (ix_ (x3 + 4) L)
(Option.bind (f_X12_via (xs (Int32.toNatClampNeg (x3 + 1))) (xs (Int32.toNatClampNeg (x3 + 2))) 1 (xs (Int32.toNatClampNeg (x3 + 4))) q38.2) fun q58 =>
(if q38.1 = q58.1 then
((some (Sum.inl (0, (x3 + 7), q58.2))))
else
((some (Sum.inr (0, q58.2)))))))))))))))))
set_option maxRecDepth 100000 in
noncomputable def s_L_1414 (L : Nat) (xs : Nat → Int32) (x3 : Int32) (m : fm_) : Option (S_L ⊕ (Int32 × fm_)) :=
  (gd_ (ix_ (x3 + 1) L)
(gd_ (ix_ (x3 + 2) L)
(gd_ (ix_ (x3 + 3) L)
(if (xs (Int32.toNatClampNeg (x3 + 3))) = 0 then
(Option.bind (f_X11_load (xs (Int32.toNatClampNeg (x3 + 1))) (xs (Int32.toNatClampNeg (x3 + 2))) 0 m) fun q9 =>
(gd_ (ix_ (x3 + 1) L)
(gd_ (ix_ (x3 + 2) L)
(gd_ (ix_ (x3 + 3) L)
(if (xs (Int32.toNatClampNeg (x3 + 3))) = 0 then
(Option.bind (f_X12_load (xs (Int32.toNatClampNeg (x3 + 1))) (xs (Int32.toNatClampNeg (x3 + 2))) 0 q9.2) fun q20 =>
(if q9.1 = q20.1 then
((some (Sum.inl (0, (x3 + 7), q20.2))))
else
((some (Sum.inr (0, q20.2))))))
else
(Option.bind (f_X12_load (xs (Int32.toNatClampNeg (x3 + 1))) (xs (Int32.toNatClampNeg (x3 + 2))) 1 q9.2) fun q25 =>
(if q9.1 = q25.1 then
((some (Sum.inl (0, (x3 + 7), q25.2))))
else
((some (Sum.inr (0, q25.2)))))))))))
else
(Option.bind (f_X11_load (xs (Int32.toNatClampNeg (x3 + 1))) (xs (Int32.toNatClampNeg (x3 + 2))) 1 m) fun q30 =>
(gd_ (ix_ (x3 + 1) L)
(gd_ (ix_ (x3 + 2) L)
(gd_ (ix_ (x3 + 3) L)
(if (xs (Int32.toNatClampNeg (x3 + 3))) = 0 then
(Option.bind (f_X12_load (xs (Int32.toNatClampNeg (x3 + 1))) (xs (Int32.toNatClampNeg (x3 + 2))) 0 q30.2) fun q41 =>
(if q30.1 = q41.1 then
((some (Sum.inl (0, (x3 + 7), q41.2))))
else
((some (Sum.inr (0, q41.2))))))
else
(Option.bind (f_X12_load (xs (Int32.toNatClampNeg (x3 + 1))) (xs (Int32.toNatClampNeg (x3 + 2))) 1 q30.2) fun q46 =>
(if q30.1 = q46.1 then
((some (Sum.inl (0, (x3 + 7), q46.2))))
else
((some (Sum.inr (0, q46.2)))))))))))))))
set_option maxRecDepth 100000 in
noncomputable def s_L_1473 (L : Nat) (xs : Nat → Int32) (x3 : Int32) (m : fm_) : Option (S_L ⊕ (Int32 × fm_)) :=
  (gd_ (ix_ (x3 + 1) L)
(Option.bind (f_X11_around (xs (Int32.toNatClampNeg (x3 + 1))) m) fun q3 =>
(gd_ (ix_ (x3 + 1) L)
(Option.bind (f_X12_around (xs (Int32.toNatClampNeg (x3 + 1))) q3.2) fun q8 =>
(if q3.1 = q8.1 then
((some (Sum.inl (0, (x3 + 7), q8.2))))
else
((some (Sum.inr (0, q8.2)))))))))
set_option maxRecDepth 100000 in
noncomputable def s_L_1496 (L : Nat) (xs : Nat → Int32) (x3 : Int32) (m : fm_) : Option (S_L ⊕ (Int32 × fm_)) :=
  (gd_ (ix_ (x3 + 1) L)
(gd_ (ix_ (x3 + 2) L)
(Option.bind (f_X11_view (xs (Int32.toNatClampNeg (x3 + 1))) (xs (Int32.toNatClampNeg (x3 + 2))) m) fun q5 =>
(gd_ (ix_ (x3 + 1) L)
(gd_ (ix_ (x3 + 2) L)
(Option.bind (f_X12_view (xs (Int32.toNatClampNeg (x3 + 1))) (xs (Int32.toNatClampNeg (x3 + 2))) q5.2) fun q12 =>
(if q5.1 = q12.1 then
((some (Sum.inl (0, (x3 + 7), q12.2))))
else
((some (Sum.inr (0, q12.2)))))))))))
set_option maxRecDepth 100000 in
noncomputable def s_L_1529 (L : Nat) (xs : Nat → Int32) (x3 : Int32) (m : fm_) : Option (S_L ⊕ (Int32 × fm_)) :=
  (gd_ (ix_ (x3 + 1) L)
(gd_ (ix_ (x3 + 2) L)
(Option.bind (f_X11_seen (xs (Int32.toNatClampNeg (x3 + 1))) (xs (Int32.toNatClampNeg (x3 + 2))) m) fun q5 =>
(gd_ (ix_ (x3 + 1) L)
(gd_ (ix_ (x3 + 2) L)
(Option.bind (f_X12_seen (xs (Int32.toNatClampNeg (x3 + 1))) (xs (Int32.toNatClampNeg (x3 + 2))) q5.2) fun q12 =>
(if q5.1 = q12.1 then
((some (Sum.inl (0, (x3 + 7), q12.2))))
else
((some (Sum.inr (0, q12.2)))))))))))
set_option maxRecDepth 100000 in
noncomputable def s_L_1562 (L : Nat) (xs : Nat → Int32) (x3 : Int32) (m : fm_) : Option (S_L ⊕ (Int32 × fm_)) :=
  (gd_ (ix_ (x3 + 1) L)
(Option.bind (f_X11_about (xs (Int32.toNatClampNeg (x3 + 1))) m) fun q3 =>
(gd_ (ix_ (x3 + 1) L)
(Option.bind (f_X12_about (xs (Int32.toNatClampNeg (x3 + 1))) q3.2) fun q8 =>
(if q3.1 = q8.1 then
((some (Sum.inl (0, (x3 + 7), q8.2))))
else
((some (Sum.inr (0, q8.2)))))))))
noncomputable def st_L (L : Nat) (xs : Nat → Int32) (s : S_L) : Option (S_L ⊕ (Int32 × fm_)) := match s with
  | (0, x3, m) => s_L_18 L xs x3 m
  | (1, x3, m) => s_L_180 L xs x3 m
  | (2, x3, m) => s_L_243 L xs x3 m
  | (3, x3, m) => s_L_266 L xs x3 m
  | (4, x3, m) => s_L_279 L xs x3 m
  | (5, x3, m) => s_L_302 L xs x3 m
  | (6, x3, m) => s_L_325 L xs x3 m
  | (7, x3, m) => s_L_358 L xs x3 m
  | (8, x3, m) => s_L_421 L xs x3 m
  | (9, x3, m) => s_L_496 L xs x3 m
  | (10, x3, m) => s_L_579 L xs x3 m
  | (11, x3, m) => s_L_612 L xs x3 m
  | (12, x3, m) => s_L_635 L xs x3 m
  | (13, x3, m) => s_L_658 L xs x3 m
  | (14, x3, m) => s_L_691 L xs x3 m
  | (15, x3, m) => s_L_724 L xs x3 m
  | (16, x3, m) => s_L_757 L xs x3 m
  | (17, x3, m) => s_L_800 L xs x3 m
  | (18, x3, m) => s_L_869 L xs x3 m
  | (19, x3, m) => s_L_912 L xs x3 m
  | (20, x3, m) => s_L_955 L xs x3 m
  | (21, x3, m) => s_L_998 L xs x3 m
  | (22, x3, m) => s_L_1051 L xs x3 m
  | (23, x3, m) => s_L_1114 L xs x3 m
  | (24, x3, m) => s_L_1167 L xs x3 m
  | (25, x3, m) => s_L_1190 L xs x3 m
  | (26, x3, m) => s_L_1223 L xs x3 m
  | (27, x3, m) => s_L_1286 L xs x3 m
  | (28, x3, m) => s_L_1345 L xs x3 m
  | (29, x3, m) => s_L_1414 L xs x3 m
  | (30, x3, m) => s_L_1473 L xs x3 m
  | (31, x3, m) => s_L_1496 L xs x3 m
  | (32, x3, m) => s_L_1529 L xs x3 m
  | (33, x3, m) => s_L_1562 L xs x3 m
  | _ => none
noncomputable def f_L_18 (L : Nat) (xs : Nat → Int32) (x3 : Int32) (m : fm_) : Option (Int32 × fm_) := am_lp (st_L L xs) (0, x3, m)
noncomputable def f_L_180 (L : Nat) (xs : Nat → Int32) (x3 : Int32) (m : fm_) : Option (Int32 × fm_) := am_lp (st_L L xs) (1, x3, m)
noncomputable def f_L_243 (L : Nat) (xs : Nat → Int32) (x3 : Int32) (m : fm_) : Option (Int32 × fm_) := am_lp (st_L L xs) (2, x3, m)
noncomputable def f_L_266 (L : Nat) (xs : Nat → Int32) (x3 : Int32) (m : fm_) : Option (Int32 × fm_) := am_lp (st_L L xs) (3, x3, m)
noncomputable def f_L_279 (L : Nat) (xs : Nat → Int32) (x3 : Int32) (m : fm_) : Option (Int32 × fm_) := am_lp (st_L L xs) (4, x3, m)
noncomputable def f_L_302 (L : Nat) (xs : Nat → Int32) (x3 : Int32) (m : fm_) : Option (Int32 × fm_) := am_lp (st_L L xs) (5, x3, m)
noncomputable def f_L_325 (L : Nat) (xs : Nat → Int32) (x3 : Int32) (m : fm_) : Option (Int32 × fm_) := am_lp (st_L L xs) (6, x3, m)
noncomputable def f_L_358 (L : Nat) (xs : Nat → Int32) (x3 : Int32) (m : fm_) : Option (Int32 × fm_) := am_lp (st_L L xs) (7, x3, m)
noncomputable def f_L_421 (L : Nat) (xs : Nat → Int32) (x3 : Int32) (m : fm_) : Option (Int32 × fm_) := am_lp (st_L L xs) (8, x3, m)
noncomputable def f_L_496 (L : Nat) (xs : Nat → Int32) (x3 : Int32) (m : fm_) : Option (Int32 × fm_) := am_lp (st_L L xs) (9, x3, m)
noncomputable def f_L_579 (L : Nat) (xs : Nat → Int32) (x3 : Int32) (m : fm_) : Option (Int32 × fm_) := am_lp (st_L L xs) (10, x3, m)
noncomputable def f_L_612 (L : Nat) (xs : Nat → Int32) (x3 : Int32) (m : fm_) : Option (Int32 × fm_) := am_lp (st_L L xs) (11, x3, m)
noncomputable def f_L_635 (L : Nat) (xs : Nat → Int32) (x3 : Int32) (m : fm_) : Option (Int32 × fm_) := am_lp (st_L L xs) (12, x3, m)
noncomputable def f_L_658 (L : Nat) (xs : Nat → Int32) (x3 : Int32) (m : fm_) : Option (Int32 × fm_) := am_lp (st_L L xs) (13, x3, m)
noncomputable def f_L_691 (L : Nat) (xs : Nat → Int32) (x3 : Int32) (m : fm_) : Option (Int32 × fm_) := am_lp (st_L L xs) (14, x3, m)
noncomputable def f_L_724 (L : Nat) (xs : Nat → Int32) (x3 : Int32) (m : fm_) : Option (Int32 × fm_) := am_lp (st_L L xs) (15, x3, m)
noncomputable def f_L_757 (L : Nat) (xs : Nat → Int32) (x3 : Int32) (m : fm_) : Option (Int32 × fm_) := am_lp (st_L L xs) (16, x3, m)
noncomputable def f_L_800 (L : Nat) (xs : Nat → Int32) (x3 : Int32) (m : fm_) : Option (Int32 × fm_) := am_lp (st_L L xs) (17, x3, m)
noncomputable def f_L_869 (L : Nat) (xs : Nat → Int32) (x3 : Int32) (m : fm_) : Option (Int32 × fm_) := am_lp (st_L L xs) (18, x3, m)
noncomputable def f_L_912 (L : Nat) (xs : Nat → Int32) (x3 : Int32) (m : fm_) : Option (Int32 × fm_) := am_lp (st_L L xs) (19, x3, m)
noncomputable def f_L_955 (L : Nat) (xs : Nat → Int32) (x3 : Int32) (m : fm_) : Option (Int32 × fm_) := am_lp (st_L L xs) (20, x3, m)
noncomputable def f_L_998 (L : Nat) (xs : Nat → Int32) (x3 : Int32) (m : fm_) : Option (Int32 × fm_) := am_lp (st_L L xs) (21, x3, m)
noncomputable def f_L_1051 (L : Nat) (xs : Nat → Int32) (x3 : Int32) (m : fm_) : Option (Int32 × fm_) := am_lp (st_L L xs) (22, x3, m)
noncomputable def f_L_1114 (L : Nat) (xs : Nat → Int32) (x3 : Int32) (m : fm_) : Option (Int32 × fm_) := am_lp (st_L L xs) (23, x3, m)
noncomputable def f_L_1167 (L : Nat) (xs : Nat → Int32) (x3 : Int32) (m : fm_) : Option (Int32 × fm_) := am_lp (st_L L xs) (24, x3, m)
noncomputable def f_L_1190 (L : Nat) (xs : Nat → Int32) (x3 : Int32) (m : fm_) : Option (Int32 × fm_) := am_lp (st_L L xs) (25, x3, m)
noncomputable def f_L_1223 (L : Nat) (xs : Nat → Int32) (x3 : Int32) (m : fm_) : Option (Int32 × fm_) := am_lp (st_L L xs) (26, x3, m)
noncomputable def f_L_1286 (L : Nat) (xs : Nat → Int32) (x3 : Int32) (m : fm_) : Option (Int32 × fm_) := am_lp (st_L L xs) (27, x3, m)
noncomputable def f_L_1345 (L : Nat) (xs : Nat → Int32) (x3 : Int32) (m : fm_) : Option (Int32 × fm_) := am_lp (st_L L xs) (28, x3, m)
noncomputable def f_L_1414 (L : Nat) (xs : Nat → Int32) (x3 : Int32) (m : fm_) : Option (Int32 × fm_) := am_lp (st_L L xs) (29, x3, m)
noncomputable def f_L_1473 (L : Nat) (xs : Nat → Int32) (x3 : Int32) (m : fm_) : Option (Int32 × fm_) := am_lp (st_L L xs) (30, x3, m)
noncomputable def f_L_1496 (L : Nat) (xs : Nat → Int32) (x3 : Int32) (m : fm_) : Option (Int32 × fm_) := am_lp (st_L L xs) (31, x3, m)
noncomputable def f_L_1529 (L : Nat) (xs : Nat → Int32) (x3 : Int32) (m : fm_) : Option (Int32 × fm_) := am_lp (st_L L xs) (32, x3, m)
noncomputable def f_L_1562 (L : Nat) (xs : Nat → Int32) (x3 : Int32) (m : fm_) : Option (Int32 × fm_) := am_lp (st_L L xs) (33, x3, m)
set_option maxRecDepth 100000 in
theorem e_L_18 (L : Nat) (xs : Nat → Int32) (x3 : Int32) (m : fm_) : f_L_18 L xs x3 m =
(if ((nI L) - 7) < x3 then
((some (1, m)))
else
(gd_ (ix_ x3 L)
(if ((xs (Int32.toNatClampNeg x3)) &&& 63) = 0 then
((f_L_180 L xs x3 m))
else
(if ((xs (Int32.toNatClampNeg x3)) &&& 63) = 1 then
((f_L_243 L xs x3 m))
else
(if ((xs (Int32.toNatClampNeg x3)) &&& 63) = 2 then
((f_L_266 L xs x3 m))
else
(if ((xs (Int32.toNatClampNeg x3)) &&& 63) = 3 then
((f_L_279 L xs x3 m))
else
(if ((xs (Int32.toNatClampNeg x3)) &&& 63) = 4 then
((f_L_302 L xs x3 m))
else
(if ((xs (Int32.toNatClampNeg x3)) &&& 63) = 5 then
((f_L_325 L xs x3 m))
else
(if ((xs (Int32.toNatClampNeg x3)) &&& 63) = 6 then
((f_L_358 L xs x3 m))
else
(if ((xs (Int32.toNatClampNeg x3)) &&& 63) = 7 then
((f_L_421 L xs x3 m))
else
(if ((xs (Int32.toNatClampNeg x3)) &&& 63) = 8 then
((f_L_496 L xs x3 m))
else
(if ((xs (Int32.toNatClampNeg x3)) &&& 63) = 9 then
((f_L_579 L xs x3 m))
else
(if ((xs (Int32.toNatClampNeg x3)) &&& 63) = 10 then
((f_L_612 L xs x3 m))
else
(if ((xs (Int32.toNatClampNeg x3)) &&& 63) = 11 then
((f_L_635 L xs x3 m))
else
(if ((xs (Int32.toNatClampNeg x3)) &&& 63) = 12 then
((f_L_658 L xs x3 m))
else
(if ((xs (Int32.toNatClampNeg x3)) &&& 63) = 13 then
((f_L_691 L xs x3 m))
else
(if ((xs (Int32.toNatClampNeg x3)) &&& 63) = 14 then
((f_L_724 L xs x3 m))
else
(if ((xs (Int32.toNatClampNeg x3)) &&& 63) = 15 then
((f_L_757 L xs x3 m))
else
(if ((xs (Int32.toNatClampNeg x3)) &&& 63) = 16 then
((f_L_800 L xs x3 m))
else
(if ((xs (Int32.toNatClampNeg x3)) &&& 63) = 17 then
((f_L_869 L xs x3 m))
else
(if ((xs (Int32.toNatClampNeg x3)) &&& 63) = 18 then
((f_L_912 L xs x3 m))
else
(if ((xs (Int32.toNatClampNeg x3)) &&& 63) = 19 then
((f_L_955 L xs x3 m))
else
(if ((xs (Int32.toNatClampNeg x3)) &&& 63) = 20 then
((f_L_998 L xs x3 m))
else
(if ((xs (Int32.toNatClampNeg x3)) &&& 63) = 21 then
((f_L_1051 L xs x3 m))
else
(if ((xs (Int32.toNatClampNeg x3)) &&& 63) = 22 then
((f_L_1114 L xs x3 m))
else
(if ((xs (Int32.toNatClampNeg x3)) &&& 63) = 23 then
((f_L_1167 L xs x3 m))
else
(if ((xs (Int32.toNatClampNeg x3)) &&& 63) = 24 then
((f_L_1190 L xs x3 m))
else
(if ((xs (Int32.toNatClampNeg x3)) &&& 63) = 25 then
((f_L_1223 L xs x3 m))
else
(if ((xs (Int32.toNatClampNeg x3)) &&& 63) = 26 then
((f_L_1286 L xs x3 m))
else
(if ((xs (Int32.toNatClampNeg x3)) &&& 63) = 27 then
((f_L_1345 L xs x3 m))
else
(if ((xs (Int32.toNatClampNeg x3)) &&& 63) = 28 then
((f_L_1414 L xs x3 m))
else
(if ((xs (Int32.toNatClampNeg x3)) &&& 63) = 29 then
((f_L_1473 L xs x3 m))
else
(if ((xs (Int32.toNatClampNeg x3)) &&& 63) = 30 then
((f_L_1496 L xs x3 m))
else
(if ((xs (Int32.toNatClampNeg x3)) &&& 63) = 31 then
((f_L_1529 L xs x3 m))
else
(if ((xs (Int32.toNatClampNeg x3)) &&& 63) = 32 then
((f_L_1562 L xs x3 m))
else
((f_L_18 L xs (x3 + 7) m))))))))))))))))))))))))))))))))))))) :=
  (am_lp_eq _ _).trans (show am_k (am_lp (st_L L xs)) (s_L_18 L xs x3 m) = _ from (fe_if (rfl) (fe_gd (fe_if (rfl) (fe_if (rfl) (fe_if (rfl) (fe_if (rfl) (fe_if (rfl) (fe_if (rfl) (fe_if (rfl) (fe_if (rfl) (fe_if (rfl) (fe_if (rfl) (fe_if (rfl) (fe_if (rfl) (fe_if (rfl) (fe_if (rfl) (fe_if (rfl) (fe_if (rfl) (fe_if (rfl) (fe_if (rfl) (fe_if (rfl) (fe_if (rfl) (fe_if (rfl) (fe_if (rfl) (fe_if (rfl) (fe_if (rfl) (fe_if (rfl) (fe_if (rfl) (fe_if (rfl) (fe_if (rfl) (fe_if (rfl) (fe_if (rfl) (fe_if (rfl) (fe_if (rfl) (fe_if (rfl) (rfl)))))))))))))))))))))))))))))))))))))
set_option maxRecDepth 100000 in
theorem e_L_180 (L : Nat) (xs : Nat → Int32) (x3 : Int32) (m : fm_) : f_L_180 L xs x3 m =
(gd_ (ix_ (x3 + 1) L)
(gd_ (ix_ (x3 + 2) L)
(gd_ (ix_ (x3 + 3) L)
(gd_ (ix_ (x3 + 4) L)
(gd_ (ix_ (x3 + 5) L)
(Option.bind (f_X11_feed (xs (Int32.toNatClampNeg (x3 + 1))) (xs (Int32.toNatClampNeg (x3 + 2))) (xs (Int32.toNatClampNeg (x3 + 3))) (xs (Int32.toNatClampNeg (x3 + 4))) (xs (Int32.toNatClampNeg (x3 + 5))) m) fun q11 =>
(gd_ (ix_ (x3 + 1) L)
(gd_ (ix_ (x3 + 2) L)
(gd_ (ix_ (x3 + 3) L)
(gd_ (ix_ (x3 + 4) L)
(gd_ (ix_ (x3 + 5) L)
(Option.bind (f_X12_feed (xs (Int32.toNatClampNeg (x3 + 1))) (xs (Int32.toNatClampNeg (x3 + 2))) (xs (Int32.toNatClampNeg (x3 + 3))) (xs (Int32.toNatClampNeg (x3 + 4))) (xs (Int32.toNatClampNeg (x3 + 5))) q11.2) fun q24 =>
(if q11.1 = q24.1 then
((f_L_18 L xs (x3 + 7) q24.2))
else
((some (0, q24.2)))))))))))))))) :=
  (am_lp_eq _ _).trans (show am_k (am_lp (st_L L xs)) (s_L_180 L xs x3 m) = _ from (fe_gd (fe_gd (fe_gd (fe_gd (fe_gd (fe_bd fun q11 => (fe_gd (fe_gd (fe_gd (fe_gd (fe_gd (fe_bd fun q24 => (fe_if (rfl) (rfl)))))))))))))))
set_option maxRecDepth 100000 in
theorem e_L_243 (L : Nat) (xs : Nat → Int32) (x3 : Int32) (m : fm_) : f_L_243 L xs x3 m =
(gd_ (ix_ (x3 + 1) L)
(Option.bind (f_X11_end (xs (Int32.toNatClampNeg (x3 + 1))) m) fun q3 =>
(gd_ (ix_ (x3 + 1) L)
(Option.bind (f_X12_end (xs (Int32.toNatClampNeg (x3 + 1))) q3.2) fun q8 =>
(if q3.1 = q8.1 then
((f_L_18 L xs (x3 + 7) q8.2))
else
((some (0, q8.2)))))))) :=
  (am_lp_eq _ _).trans (show am_k (am_lp (st_L L xs)) (s_L_243 L xs x3 m) = _ from (fe_gd (fe_bd fun q3 => (fe_gd (fe_bd fun q8 => (fe_if (rfl) (rfl)))))))
set_option maxRecDepth 100000 in
theorem e_L_266 (L : Nat) (xs : Nat → Int32) (x3 : Int32) (m : fm_) : f_L_266 L xs x3 m =
(Option.bind (f_X11_map m) fun q1 =>
(Option.bind (f_X12_map q1.2) fun q4 =>
(if q1.1 = q4.1 then
((f_L_18 L xs (x3 + 7) q4.2))
else
((some (0, q4.2)))))) :=
  (am_lp_eq _ _).trans (show am_k (am_lp (st_L L xs)) (s_L_266 L xs x3 m) = _ from (fe_bd fun q1 => (fe_bd fun q4 => (fe_if (rfl) (rfl)))))
set_option maxRecDepth 100000 in
theorem e_L_279 (L : Nat) (xs : Nat → Int32) (x3 : Int32) (m : fm_) : f_L_279 L xs x3 m =
(gd_ (ix_ (x3 + 1) L)
(Option.bind (f_X11_orders (xs (Int32.toNatClampNeg (x3 + 1))) m) fun q3 =>
(gd_ (ix_ (x3 + 1) L)
(Option.bind (f_X12_orders (xs (Int32.toNatClampNeg (x3 + 1))) q3.2) fun q8 =>
(if q3.1 = q8.1 then
((f_L_18 L xs (x3 + 7) q8.2))
else
((some (0, q8.2)))))))) :=
  (am_lp_eq _ _).trans (show am_k (am_lp (st_L L xs)) (s_L_279 L xs x3 m) = _ from (fe_gd (fe_bd fun q3 => (fe_gd (fe_bd fun q8 => (fe_if (rfl) (rfl)))))))
set_option maxRecDepth 100000 in
theorem e_L_302 (L : Nat) (xs : Nat → Int32) (x3 : Int32) (m : fm_) : f_L_302 L xs x3 m =
(gd_ (ix_ (x3 + 1) L)
(Option.bind (f_X11_fault (xs (Int32.toNatClampNeg (x3 + 1))) m) fun q3 =>
(gd_ (ix_ (x3 + 1) L)
(Option.bind (f_X12_fault (xs (Int32.toNatClampNeg (x3 + 1))) q3.2) fun q8 =>
(if q3.1 = q8.1 then
((f_L_18 L xs (x3 + 7) q8.2))
else
((some (0, q8.2)))))))) :=
  (am_lp_eq _ _).trans (show am_k (am_lp (st_L L xs)) (s_L_302 L xs x3 m) = _ from (fe_gd (fe_bd fun q3 => (fe_gd (fe_bd fun q8 => (fe_if (rfl) (rfl)))))))
set_option maxRecDepth 100000 in
theorem e_L_325 (L : Nat) (xs : Nat → Int32) (x3 : Int32) (m : fm_) : f_L_325 L xs x3 m =
(gd_ (ix_ (x3 + 1) L)
(gd_ (ix_ (x3 + 2) L)
(Option.bind (f_X11_between (xs (Int32.toNatClampNeg (x3 + 1))) (xs (Int32.toNatClampNeg (x3 + 2))) m) fun q5 =>
(gd_ (ix_ (x3 + 1) L)
(gd_ (ix_ (x3 + 2) L)
(Option.bind (f_X12_between (xs (Int32.toNatClampNeg (x3 + 1))) (xs (Int32.toNatClampNeg (x3 + 2))) q5.2) fun q12 =>
(if q5.1 = q12.1 then
((f_L_18 L xs (x3 + 7) q12.2))
else
((some (0, q12.2)))))))))) :=
  (am_lp_eq _ _).trans (show am_k (am_lp (st_L L xs)) (s_L_325 L xs x3 m) = _ from (fe_gd (fe_gd (fe_bd fun q5 => (fe_gd (fe_gd (fe_bd fun q12 => (fe_if (rfl) (rfl)))))))))
set_option maxRecDepth 100000 in
theorem e_L_358 (L : Nat) (xs : Nat → Int32) (x3 : Int32) (m : fm_) : f_L_358 L xs x3 m =
(gd_ (ix_ (x3 + 1) L)
(gd_ (ix_ (x3 + 2) L)
(gd_ (ix_ (x3 + 3) L)
(Option.bind (f_X11_plate (((Int32.toInt64 (xs (Int32.toNatClampNeg (x3 + 1)))) <<< (Int32.toInt64 32 &&& 63)) ||| ((Int32.toInt64 (xs (Int32.toNatClampNeg (x3 + 2)))) &&& 4294967295)) (xs (Int32.toNatClampNeg (x3 + 3))) m) fun q7 =>
(gd_ (ix_ (x3 + 1) L)
(gd_ (ix_ (x3 + 2) L)
(gd_ (ix_ (x3 + 3) L)
(Option.bind (f_X12_plate (((Int32.toInt64 (xs (Int32.toNatClampNeg (x3 + 1)))) <<< (Int32.toInt64 32 &&& 63)) ||| ((Int32.toInt64 (xs (Int32.toNatClampNeg (x3 + 2)))) &&& 4294967295)) (xs (Int32.toNatClampNeg (x3 + 3))) q7.2) fun q16 =>
(if q7.1 = q16.1 then
((f_L_18 L xs (x3 + 7) q16.2))
else
((some (0, q16.2)))))))))))) :=
  (am_lp_eq _ _).trans (show am_k (am_lp (st_L L xs)) (s_L_358 L xs x3 m) = _ from (fe_gd (fe_gd (fe_gd (fe_bd fun q7 => (fe_gd (fe_gd (fe_gd (fe_bd fun q16 => (fe_if (rfl) (rfl)))))))))))
set_option maxRecDepth 100000 in
theorem e_L_421 (L : Nat) (xs : Nat → Int32) (x3 : Int32) (m : fm_) : f_L_421 L xs x3 m =
(gd_ (ix_ (x3 + 1) L)
(gd_ (ix_ (x3 + 2) L)
(gd_ (ix_ (x3 + 3) L)
(gd_ (ix_ (x3 + 4) L)
(gd_ (ix_ (x3 + 5) L)
(gd_ (ix_ (x3 + 6) L)
(Option.bind (f_X11_papers (xs (Int32.toNatClampNeg (x3 + 1))) (xs (Int32.toNatClampNeg (x3 + 2))) (xs (Int32.toNatClampNeg (x3 + 3))) (xs (Int32.toNatClampNeg (x3 + 4))) (xs (Int32.toNatClampNeg (x3 + 5))) (xs (Int32.toNatClampNeg (x3 + 6))) m) fun q13 =>
(gd_ (ix_ (x3 + 1) L)
(gd_ (ix_ (x3 + 2) L)
(gd_ (ix_ (x3 + 3) L)
(gd_ (ix_ (x3 + 4) L)
(gd_ (ix_ (x3 + 5) L)
(gd_ (ix_ (x3 + 6) L)
(Option.bind (f_X12_papers (xs (Int32.toNatClampNeg (x3 + 1))) (xs (Int32.toNatClampNeg (x3 + 2))) (xs (Int32.toNatClampNeg (x3 + 3))) (xs (Int32.toNatClampNeg (x3 + 4))) (xs (Int32.toNatClampNeg (x3 + 5))) (xs (Int32.toNatClampNeg (x3 + 6))) q13.2) fun q28 =>
(if q13.1 = q28.1 then
((f_L_18 L xs (x3 + 7) q28.2))
else
((some (0, q28.2)))))))))))))))))) :=
  (am_lp_eq _ _).trans (show am_k (am_lp (st_L L xs)) (s_L_421 L xs x3 m) = _ from (fe_gd (fe_gd (fe_gd (fe_gd (fe_gd (fe_gd (fe_bd fun q13 => (fe_gd (fe_gd (fe_gd (fe_gd (fe_gd (fe_gd (fe_bd fun q28 => (fe_if (rfl) (rfl)))))))))))))))))
set_option maxRecDepth 100000 in
theorem e_L_496 (L : Nat) (xs : Nat → Int32) (x3 : Int32) (m : fm_) : f_L_496 L xs x3 m =
(gd_ (ix_ (x3 + 1) L)
(gd_ (ix_ (x3 + 2) L)
(gd_ (ix_ (x3 + 3) L)
(gd_ (ix_ (x3 + 4) L)
(gd_ (ix_ (x3 + 5) L)
(Option.bind (f_X11_read (xs (Int32.toNatClampNeg (x3 + 1))) (xs (Int32.toNatClampNeg (x3 + 2))) (xs (Int32.toNatClampNeg (x3 + 3))) (((Int32.toInt64 (xs (Int32.toNatClampNeg (x3 + 4)))) <<< (Int32.toInt64 32 &&& 63)) ||| ((Int32.toInt64 (xs (Int32.toNatClampNeg (x3 + 5)))) &&& 4294967295)) m) fun q11 =>
(gd_ (ix_ (x3 + 1) L)
(gd_ (ix_ (x3 + 2) L)
(gd_ (ix_ (x3 + 3) L)
(gd_ (ix_ (x3 + 4) L)
(gd_ (ix_ (x3 + 5) L)
(Option.bind (f_X12_read (xs (Int32.toNatClampNeg (x3 + 1))) (xs (Int32.toNatClampNeg (x3 + 2))) (xs (Int32.toNatClampNeg (x3 + 3))) (((Int32.toInt64 (xs (Int32.toNatClampNeg (x3 + 4)))) <<< (Int32.toInt64 32 &&& 63)) ||| ((Int32.toInt64 (xs (Int32.toNatClampNeg (x3 + 5)))) &&& 4294967295)) q11.2) fun q24 =>
(if q11.1 = q24.1 then
((f_L_18 L xs (x3 + 7) q24.2))
else
((some (0, q24.2)))))))))))))))) :=
  (am_lp_eq _ _).trans (show am_k (am_lp (st_L L xs)) (s_L_496 L xs x3 m) = _ from (fe_gd (fe_gd (fe_gd (fe_gd (fe_gd (fe_bd fun q11 => (fe_gd (fe_gd (fe_gd (fe_gd (fe_gd (fe_bd fun q24 => (fe_if (rfl) (rfl)))))))))))))))
set_option maxRecDepth 100000 in
theorem e_L_579 (L : Nat) (xs : Nat → Int32) (x3 : Int32) (m : fm_) : f_L_579 L xs x3 m =
(gd_ (ix_ (x3 + 1) L)
(gd_ (ix_ (x3 + 2) L)
(Option.bind (f_X11_appeal (xs (Int32.toNatClampNeg (x3 + 1))) (xs (Int32.toNatClampNeg (x3 + 2))) m) fun q5 =>
(gd_ (ix_ (x3 + 1) L)
(gd_ (ix_ (x3 + 2) L)
(Option.bind (f_X12_appeal (xs (Int32.toNatClampNeg (x3 + 1))) (xs (Int32.toNatClampNeg (x3 + 2))) q5.2) fun q12 =>
(if q5.1 = q12.1 then
((f_L_18 L xs (x3 + 7) q12.2))
else
((some (0, q12.2)))))))))) :=
  (am_lp_eq _ _).trans (show am_k (am_lp (st_L L xs)) (s_L_579 L xs x3 m) = _ from (fe_gd (fe_gd (fe_bd fun q5 => (fe_gd (fe_gd (fe_bd fun q12 => (fe_if (rfl) (rfl)))))))))
set_option maxRecDepth 100000 in
theorem e_L_612 (L : Nat) (xs : Nat → Int32) (x3 : Int32) (m : fm_) : f_L_612 L xs x3 m =
(gd_ (ix_ (x3 + 1) L)
(Option.bind (f_X11_untell (xs (Int32.toNatClampNeg (x3 + 1))) m) fun q3 =>
(gd_ (ix_ (x3 + 1) L)
(Option.bind (f_X12_untell (xs (Int32.toNatClampNeg (x3 + 1))) q3.2) fun q8 =>
(if q3.1 = q8.1 then
((f_L_18 L xs (x3 + 7) q8.2))
else
((some (0, q8.2)))))))) :=
  (am_lp_eq _ _).trans (show am_k (am_lp (st_L L xs)) (s_L_612 L xs x3 m) = _ from (fe_gd (fe_bd fun q3 => (fe_gd (fe_bd fun q8 => (fe_if (rfl) (rfl)))))))
set_option maxRecDepth 100000 in
theorem e_L_635 (L : Nat) (xs : Nat → Int32) (x3 : Int32) (m : fm_) : f_L_635 L xs x3 m =
(gd_ (ix_ (x3 + 1) L)
(Option.bind (f_X11_later (xs (Int32.toNatClampNeg (x3 + 1))) m) fun q3 =>
(gd_ (ix_ (x3 + 1) L)
(Option.bind (f_X12_later (xs (Int32.toNatClampNeg (x3 + 1))) q3.2) fun q8 =>
(if q3.1 = q8.1 then
((f_L_18 L xs (x3 + 7) q8.2))
else
((some (0, q8.2)))))))) :=
  (am_lp_eq _ _).trans (show am_k (am_lp (st_L L xs)) (s_L_635 L xs x3 m) = _ from (fe_gd (fe_bd fun q3 => (fe_gd (fe_bd fun q8 => (fe_if (rfl) (rfl)))))))
set_option maxRecDepth 100000 in
theorem e_L_658 (L : Nat) (xs : Nat → Int32) (x3 : Int32) (m : fm_) : f_L_658 L xs x3 m =
(gd_ (ix_ (x3 + 1) L)
(gd_ (ix_ (x3 + 2) L)
(Option.bind (f_X11_like (xs (Int32.toNatClampNeg (x3 + 1))) (xs (Int32.toNatClampNeg (x3 + 2))) m) fun q5 =>
(gd_ (ix_ (x3 + 1) L)
(gd_ (ix_ (x3 + 2) L)
(Option.bind (f_X12_like (xs (Int32.toNatClampNeg (x3 + 1))) (xs (Int32.toNatClampNeg (x3 + 2))) q5.2) fun q12 =>
(if q5.1 = q12.1 then
((f_L_18 L xs (x3 + 7) q12.2))
else
((some (0, q12.2)))))))))) :=
  (am_lp_eq _ _).trans (show am_k (am_lp (st_L L xs)) (s_L_658 L xs x3 m) = _ from (fe_gd (fe_gd (fe_bd fun q5 => (fe_gd (fe_gd (fe_bd fun q12 => (fe_if (rfl) (rfl)))))))))
set_option maxRecDepth 100000 in
theorem e_L_691 (L : Nat) (xs : Nat → Int32) (x3 : Int32) (m : fm_) : f_L_691 L xs x3 m =
(gd_ (ix_ (x3 + 1) L)
(gd_ (ix_ (x3 + 2) L)
(Option.bind (f_X11_whose (xs (Int32.toNatClampNeg (x3 + 1))) (xs (Int32.toNatClampNeg (x3 + 2))) m) fun q5 =>
(gd_ (ix_ (x3 + 1) L)
(gd_ (ix_ (x3 + 2) L)
(Option.bind (f_X12_whose (xs (Int32.toNatClampNeg (x3 + 1))) (xs (Int32.toNatClampNeg (x3 + 2))) q5.2) fun q12 =>
(if q5.1 = q12.1 then
((f_L_18 L xs (x3 + 7) q12.2))
else
((some (0, q12.2)))))))))) :=
  (am_lp_eq _ _).trans (show am_k (am_lp (st_L L xs)) (s_L_691 L xs x3 m) = _ from (fe_gd (fe_gd (fe_bd fun q5 => (fe_gd (fe_gd (fe_bd fun q12 => (fe_if (rfl) (rfl)))))))))
set_option maxRecDepth 100000 in
theorem e_L_724 (L : Nat) (xs : Nat → Int32) (x3 : Int32) (m : fm_) : f_L_724 L xs x3 m =
(gd_ (ix_ (x3 + 1) L)
(gd_ (ix_ (x3 + 2) L)
(Option.bind (f_X11_doubt (xs (Int32.toNatClampNeg (x3 + 1))) (xs (Int32.toNatClampNeg (x3 + 2))) m) fun q5 =>
(gd_ (ix_ (x3 + 1) L)
(gd_ (ix_ (x3 + 2) L)
(Option.bind (f_X12_doubt (xs (Int32.toNatClampNeg (x3 + 1))) (xs (Int32.toNatClampNeg (x3 + 2))) q5.2) fun q12 =>
(if q5.1 = q12.1 then
((f_L_18 L xs (x3 + 7) q12.2))
else
((some (0, q12.2)))))))))) :=
  (am_lp_eq _ _).trans (show am_k (am_lp (st_L L xs)) (s_L_724 L xs x3 m) = _ from (fe_gd (fe_gd (fe_bd fun q5 => (fe_gd (fe_gd (fe_bd fun q12 => (fe_if (rfl) (rfl)))))))))
set_option maxRecDepth 100000 in
theorem e_L_757 (L : Nat) (xs : Nat → Int32) (x3 : Int32) (m : fm_) : f_L_757 L xs x3 m =
(gd_ (ix_ (x3 + 1) L)
(gd_ (ix_ (x3 + 2) L)
(gd_ (ix_ (x3 + 3) L)
(Option.bind (f_X11_isDouble (xs (Int32.toNatClampNeg (x3 + 1))) (xs (Int32.toNatClampNeg (x3 + 2))) (xs (Int32.toNatClampNeg (x3 + 3))) m) fun q7 =>
(gd_ (ix_ (x3 + 1) L)
(gd_ (ix_ (x3 + 2) L)
(gd_ (ix_ (x3 + 3) L)
(Option.bind (f_X12_isDouble (xs (Int32.toNatClampNeg (x3 + 1))) (xs (Int32.toNatClampNeg (x3 + 2))) (xs (Int32.toNatClampNeg (x3 + 3))) q7.2) fun q16 =>
(if q7.1 = q16.1 then
((f_L_18 L xs (x3 + 7) q16.2))
else
((some (0, q16.2)))))))))))) :=
  (am_lp_eq _ _).trans (show am_k (am_lp (st_L L xs)) (s_L_757 L xs x3 m) = _ from (fe_gd (fe_gd (fe_gd (fe_bd fun q7 => (fe_gd (fe_gd (fe_gd (fe_bd fun q16 => (fe_if (rfl) (rfl)))))))))))
set_option maxRecDepth 100000 in
theorem e_L_800 (L : Nat) (xs : Nat → Int32) (x3 : Int32) (m : fm_) : f_L_800 L xs x3 m =
(gd_ (ix_ (x3 + 1) L)
(gd_ (ix_ (x3 + 2) L)
(gd_ (ix_ (x3 + 3) L)
(if (xs (Int32.toNatClampNeg (x3 + 3))) = 0 then
(gd_ (ix_ (x3 + 4) L)
(Option.bind (f_X11_inside (xs (Int32.toNatClampNeg (x3 + 1))) (xs (Int32.toNatClampNeg (x3 + 2))) 0 (xs (Int32.toNatClampNeg (x3 + 4))) m) fun q11 =>
(gd_ (ix_ (x3 + 1) L)
(gd_ (ix_ (x3 + 2) L)
(gd_ (ix_ (x3 + 3) L)
(if (xs (Int32.toNatClampNeg (x3 + 3))) = 0 then
(gd_ (ix_ (x3 + 4) L)
(Option.bind (f_X12_inside (xs (Int32.toNatClampNeg (x3 + 1))) (xs (Int32.toNatClampNeg (x3 + 2))) 0 (xs (Int32.toNatClampNeg (x3 + 4))) q11.2) fun q24 =>
(if q11.1 = q24.1 then
((f_L_18 L xs (x3 + 7) q24.2))
else
((some (0, q24.2))))))
else
(gd_ (ix_ (x3 + 4) L)
(Option.bind (f_X12_inside (xs (Int32.toNatClampNeg (x3 + 1))) (xs (Int32.toNatClampNeg (x3 + 2))) 1 (xs (Int32.toNatClampNeg (x3 + 4))) q11.2) fun q31 =>
(if q11.1 = q31.1 then
((f_L_18 L xs (x3 + 7) q31.2))
else
((some (0, q31.2))))))))))))
else
(gd_ (ix_ (x3 + 4) L)
(Option.bind (f_X11_inside (xs (Int32.toNatClampNeg (x3 + 1))) (xs (Int32.toNatClampNeg (x3 + 2))) 1 (xs (Int32.toNatClampNeg (x3 + 4))) m) fun q38 =>
(gd_ (ix_ (x3 + 1) L)
(gd_ (ix_ (x3 + 2) L)
(gd_ (ix_ (x3 + 3) L)
(if (xs (Int32.toNatClampNeg (x3 + 3))) = 0 then
(gd_ (ix_ (x3 + 4) L)
(Option.bind (f_X12_inside (xs (Int32.toNatClampNeg (x3 + 1))) (xs (Int32.toNatClampNeg (x3 + 2))) 0 (xs (Int32.toNatClampNeg (x3 + 4))) q38.2) fun q51 =>
(if q38.1 = q51.1 then
((f_L_18 L xs (x3 + 7) q51.2))
else
((some (0, q51.2))))))
else
(gd_ (ix_ (x3 + 4) L)
(Option.bind (f_X12_inside (xs (Int32.toNatClampNeg (x3 + 1))) (xs (Int32.toNatClampNeg (x3 + 2))) 1 (xs (Int32.toNatClampNeg (x3 + 4))) q38.2) fun q58 =>
(if q38.1 = q58.1 then
((f_L_18 L xs (x3 + 7) q58.2))
else
((some (0, q58.2)))))))))))))))) :=
  (am_lp_eq _ _).trans (show am_k (am_lp (st_L L xs)) (s_L_800 L xs x3 m) = _ from (fe_gd (fe_gd (fe_gd (fe_if (fe_gd (fe_bd fun q11 => (fe_gd (fe_gd (fe_gd (fe_if (fe_gd (fe_bd fun q24 => (fe_if (rfl) (rfl)))) (fe_gd (fe_bd fun q31 => (fe_if (rfl) (rfl)))))))))) (fe_gd (fe_bd fun q38 => (fe_gd (fe_gd (fe_gd (fe_if (fe_gd (fe_bd fun q51 => (fe_if (rfl) (rfl)))) (fe_gd (fe_bd fun q58 => (fe_if (rfl) (rfl)))))))))))))))
set_option maxRecDepth 100000 in
theorem e_L_869 (L : Nat) (xs : Nat → Int32) (x3 : Int32) (m : fm_) : f_L_869 L xs x3 m =
(gd_ (ix_ (x3 + 1) L)
(gd_ (ix_ (x3 + 2) L)
(gd_ (ix_ (x3 + 3) L)
(Option.bind (f_X11_classOf (xs (Int32.toNatClampNeg (x3 + 1))) (xs (Int32.toNatClampNeg (x3 + 2))) (xs (Int32.toNatClampNeg (x3 + 3))) m) fun q7 =>
(gd_ (ix_ (x3 + 1) L)
(gd_ (ix_ (x3 + 2) L)
(gd_ (ix_ (x3 + 3) L)
(Option.bind (f_X12_classOf (xs (Int32.toNatClampNeg (x3 + 1))) (xs (Int32.toNatClampNeg (x3 + 2))) (xs (Int32.toNatClampNeg (x3 + 3))) q7.2) fun q16 =>
(if q7.1 = q16.1 then
((f_L_18 L xs (x3 + 7) q16.2))
else
((some (0, q16.2)))))))))))) :=
  (am_lp_eq _ _).trans (show am_k (am_lp (st_L L xs)) (s_L_869 L xs x3 m) = _ from (fe_gd (fe_gd (fe_gd (fe_bd fun q7 => (fe_gd (fe_gd (fe_gd (fe_bd fun q16 => (fe_if (rfl) (rfl)))))))))))
set_option maxRecDepth 100000 in
theorem e_L_912 (L : Nat) (xs : Nat → Int32) (x3 : Int32) (m : fm_) : f_L_912 L xs x3 m =
(gd_ (ix_ (x3 + 1) L)
(gd_ (ix_ (x3 + 2) L)
(gd_ (ix_ (x3 + 3) L)
(Option.bind (f_X11_entries (xs (Int32.toNatClampNeg (x3 + 1))) (xs (Int32.toNatClampNeg (x3 + 2))) (xs (Int32.toNatClampNeg (x3 + 3))) m) fun q7 =>
(gd_ (ix_ (x3 + 1) L)
(gd_ (ix_ (x3 + 2) L)
(gd_ (ix_ (x3 + 3) L)
(Option.bind (f_X12_entries (xs (Int32.toNatClampNeg (x3 + 1))) (xs (Int32.toNatClampNeg (x3 + 2))) (xs (Int32.toNatClampNeg (x3 + 3))) q7.2) fun q16 =>
(if q7.1 = q16.1 then
((f_L_18 L xs (x3 + 7) q16.2))
else
((some (0, q16.2)))))))))))) :=
  (am_lp_eq _ _).trans (show am_k (am_lp (st_L L xs)) (s_L_912 L xs x3 m) = _ from (fe_gd (fe_gd (fe_gd (fe_bd fun q7 => (fe_gd (fe_gd (fe_gd (fe_bd fun q16 => (fe_if (rfl) (rfl)))))))))))
set_option maxRecDepth 100000 in
theorem e_L_955 (L : Nat) (xs : Nat → Int32) (x3 : Int32) (m : fm_) : f_L_955 L xs x3 m =
(gd_ (ix_ (x3 + 1) L)
(gd_ (ix_ (x3 + 2) L)
(gd_ (ix_ (x3 + 3) L)
(Option.bind (f_X11_charge (xs (Int32.toNatClampNeg (x3 + 1))) (xs (Int32.toNatClampNeg (x3 + 2))) (xs (Int32.toNatClampNeg (x3 + 3))) m) fun q7 =>
(gd_ (ix_ (x3 + 1) L)
(gd_ (ix_ (x3 + 2) L)
(gd_ (ix_ (x3 + 3) L)
(Option.bind (f_X12_charge (xs (Int32.toNatClampNeg (x3 + 1))) (xs (Int32.toNatClampNeg (x3 + 2))) (xs (Int32.toNatClampNeg (x3 + 3))) q7.2) fun q16 =>
(if q7.1 = q16.1 then
((f_L_18 L xs (x3 + 7) q16.2))
else
((some (0, q16.2)))))))))))) :=
  (am_lp_eq _ _).trans (show am_k (am_lp (st_L L xs)) (s_L_955 L xs x3 m) = _ from (fe_gd (fe_gd (fe_gd (fe_bd fun q7 => (fe_gd (fe_gd (fe_gd (fe_bd fun q16 => (fe_if (rfl) (rfl)))))))))))
set_option maxRecDepth 100000 in
theorem e_L_998 (L : Nat) (xs : Nat → Int32) (x3 : Int32) (m : fm_) : f_L_998 L xs x3 m =
(gd_ (ix_ (x3 + 1) L)
(gd_ (ix_ (x3 + 2) L)
(gd_ (ix_ (x3 + 3) L)
(gd_ (ix_ (x3 + 4) L)
(Option.bind (f_X11_account (xs (Int32.toNatClampNeg (x3 + 1))) (xs (Int32.toNatClampNeg (x3 + 2))) (xs (Int32.toNatClampNeg (x3 + 3))) (xs (Int32.toNatClampNeg (x3 + 4))) m) fun q9 =>
(gd_ (ix_ (x3 + 1) L)
(gd_ (ix_ (x3 + 2) L)
(gd_ (ix_ (x3 + 3) L)
(gd_ (ix_ (x3 + 4) L)
(Option.bind (f_X12_account (xs (Int32.toNatClampNeg (x3 + 1))) (xs (Int32.toNatClampNeg (x3 + 2))) (xs (Int32.toNatClampNeg (x3 + 3))) (xs (Int32.toNatClampNeg (x3 + 4))) q9.2) fun q20 =>
(if q9.1 = q20.1 then
((f_L_18 L xs (x3 + 7) q20.2))
else
((some (0, q20.2)))))))))))))) :=
  (am_lp_eq _ _).trans (show am_k (am_lp (st_L L xs)) (s_L_998 L xs x3 m) = _ from (fe_gd (fe_gd (fe_gd (fe_gd (fe_bd fun q9 => (fe_gd (fe_gd (fe_gd (fe_gd (fe_bd fun q20 => (fe_if (rfl) (rfl)))))))))))))
set_option maxRecDepth 100000 in
theorem e_L_1051 (L : Nat) (xs : Nat → Int32) (x3 : Int32) (m : fm_) : f_L_1051 L xs x3 m =
(gd_ (ix_ (x3 + 1) L)
(gd_ (ix_ (x3 + 2) L)
(gd_ (ix_ (x3 + 3) L)
(gd_ (ix_ (x3 + 4) L)
(gd_ (ix_ (x3 + 5) L)
(Option.bind (f_X11_back (xs (Int32.toNatClampNeg (x3 + 1))) (xs (Int32.toNatClampNeg (x3 + 2))) (xs (Int32.toNatClampNeg (x3 + 3))) (xs (Int32.toNatClampNeg (x3 + 4))) (xs (Int32.toNatClampNeg (x3 + 5))) m) fun q11 =>
(gd_ (ix_ (x3 + 1) L)
(gd_ (ix_ (x3 + 2) L)
(gd_ (ix_ (x3 + 3) L)
(gd_ (ix_ (x3 + 4) L)
(gd_ (ix_ (x3 + 5) L)
(Option.bind (f_X12_back (xs (Int32.toNatClampNeg (x3 + 1))) (xs (Int32.toNatClampNeg (x3 + 2))) (xs (Int32.toNatClampNeg (x3 + 3))) (xs (Int32.toNatClampNeg (x3 + 4))) (xs (Int32.toNatClampNeg (x3 + 5))) q11.2) fun q24 =>
(if q11.1 = q24.1 then
((f_L_18 L xs (x3 + 7) q24.2))
else
((some (0, q24.2)))))))))))))))) :=
  (am_lp_eq _ _).trans (show am_k (am_lp (st_L L xs)) (s_L_1051 L xs x3 m) = _ from (fe_gd (fe_gd (fe_gd (fe_gd (fe_gd (fe_bd fun q11 => (fe_gd (fe_gd (fe_gd (fe_gd (fe_gd (fe_bd fun q24 => (fe_if (rfl) (rfl)))))))))))))))
set_option maxRecDepth 100000 in
theorem e_L_1114 (L : Nat) (xs : Nat → Int32) (x3 : Int32) (m : fm_) : f_L_1114 L xs x3 m =
(gd_ (ix_ (x3 + 1) L)
(gd_ (ix_ (x3 + 2) L)
(gd_ (ix_ (x3 + 3) L)
(gd_ (ix_ (x3 + 4) L)
(Option.bind (f_X11_air (xs (Int32.toNatClampNeg (x3 + 1))) (xs (Int32.toNatClampNeg (x3 + 2))) (xs (Int32.toNatClampNeg (x3 + 3))) (xs (Int32.toNatClampNeg (x3 + 4))) m) fun q9 =>
(gd_ (ix_ (x3 + 1) L)
(gd_ (ix_ (x3 + 2) L)
(gd_ (ix_ (x3 + 3) L)
(gd_ (ix_ (x3 + 4) L)
(Option.bind (f_X12_air (xs (Int32.toNatClampNeg (x3 + 1))) (xs (Int32.toNatClampNeg (x3 + 2))) (xs (Int32.toNatClampNeg (x3 + 3))) (xs (Int32.toNatClampNeg (x3 + 4))) q9.2) fun q20 =>
(if q9.1 = q20.1 then
((f_L_18 L xs (x3 + 7) q20.2))
else
((some (0, q20.2)))))))))))))) :=
  (am_lp_eq _ _).trans (show am_k (am_lp (st_L L xs)) (s_L_1114 L xs x3 m) = _ from (fe_gd (fe_gd (fe_gd (fe_gd (fe_bd fun q9 => (fe_gd (fe_gd (fe_gd (fe_gd (fe_bd fun q20 => (fe_if (rfl) (rfl)))))))))))))
set_option maxRecDepth 100000 in
theorem e_L_1167 (L : Nat) (xs : Nat → Int32) (x3 : Int32) (m : fm_) : f_L_1167 L xs x3 m =
(gd_ (ix_ (x3 + 1) L)
(Option.bind (f_X11_effect (xs (Int32.toNatClampNeg (x3 + 1))) m) fun q3 =>
(gd_ (ix_ (x3 + 1) L)
(Option.bind (f_X12_effect (xs (Int32.toNatClampNeg (x3 + 1))) q3.2) fun q8 =>
(if q3.1 = q8.1 then
((f_L_18 L xs (x3 + 7) q8.2))
else
((some (0, q8.2)))))))) :=
  (am_lp_eq _ _).trans (show am_k (am_lp (st_L L xs)) (s_L_1167 L xs x3 m) = _ from (fe_gd (fe_bd fun q3 => (fe_gd (fe_bd fun q8 => (fe_if (rfl) (rfl)))))))
set_option maxRecDepth 100000 in
theorem e_L_1190 (L : Nat) (xs : Nat → Int32) (x3 : Int32) (m : fm_) : f_L_1190 L xs x3 m =
(gd_ (ix_ (x3 + 1) L)
(gd_ (ix_ (x3 + 2) L)
(Option.bind (f_X11_doubtOf (xs (Int32.toNatClampNeg (x3 + 1))) (xs (Int32.toNatClampNeg (x3 + 2))) m) fun q5 =>
(gd_ (ix_ (x3 + 1) L)
(gd_ (ix_ (x3 + 2) L)
(Option.bind (f_X12_doubtOf (xs (Int32.toNatClampNeg (x3 + 1))) (xs (Int32.toNatClampNeg (x3 + 2))) q5.2) fun q12 =>
(if q5.1 = q12.1 then
((f_L_18 L xs (x3 + 7) q12.2))
else
((some (0, q12.2)))))))))) :=
  (am_lp_eq _ _).trans (show am_k (am_lp (st_L L xs)) (s_L_1190 L xs x3 m) = _ from (fe_gd (fe_gd (fe_bd fun q5 => (fe_gd (fe_gd (fe_bd fun q12 => (fe_if (rfl) (rfl)))))))))
set_option maxRecDepth 100000 in
theorem e_L_1223 (L : Nat) (xs : Nat → Int32) (x3 : Int32) (m : fm_) : f_L_1223 L xs x3 m =
(gd_ (ix_ (x3 + 1) L)
(gd_ (ix_ (x3 + 2) L)
(gd_ (ix_ (x3 + 3) L)
(gd_ (ix_ (x3 + 4) L)
(gd_ (ix_ (x3 + 5) L)
(Option.bind (f_X11_trip (xs (Int32.toNatClampNeg (x3 + 1))) (xs (Int32.toNatClampNeg (x3 + 2))) (xs (Int32.toNatClampNeg (x3 + 3))) (xs (Int32.toNatClampNeg (x3 + 4))) (xs (Int32.toNatClampNeg (x3 + 5))) m) fun q11 =>
(gd_ (ix_ (x3 + 1) L)
(gd_ (ix_ (x3 + 2) L)
(gd_ (ix_ (x3 + 3) L)
(gd_ (ix_ (x3 + 4) L)
(gd_ (ix_ (x3 + 5) L)
(Option.bind (f_X12_trip (xs (Int32.toNatClampNeg (x3 + 1))) (xs (Int32.toNatClampNeg (x3 + 2))) (xs (Int32.toNatClampNeg (x3 + 3))) (xs (Int32.toNatClampNeg (x3 + 4))) (xs (Int32.toNatClampNeg (x3 + 5))) q11.2) fun q24 =>
(if q11.1 = q24.1 then
((f_L_18 L xs (x3 + 7) q24.2))
else
((some (0, q24.2)))))))))))))))) :=
  (am_lp_eq _ _).trans (show am_k (am_lp (st_L L xs)) (s_L_1223 L xs x3 m) = _ from (fe_gd (fe_gd (fe_gd (fe_gd (fe_gd (fe_bd fun q11 => (fe_gd (fe_gd (fe_gd (fe_gd (fe_gd (fe_bd fun q24 => (fe_if (rfl) (rfl)))))))))))))))
set_option maxRecDepth 100000 in
theorem e_L_1286 (L : Nat) (xs : Nat → Int32) (x3 : Int32) (m : fm_) : f_L_1286 L xs x3 m =
(gd_ (ix_ (x3 + 1) L)
(gd_ (ix_ (x3 + 2) L)
(gd_ (ix_ (x3 + 3) L)
(if (xs (Int32.toNatClampNeg (x3 + 3))) = 0 then
(Option.bind (f_X11_minutes (xs (Int32.toNatClampNeg (x3 + 1))) (xs (Int32.toNatClampNeg (x3 + 2))) 0 m) fun q9 =>
(gd_ (ix_ (x3 + 1) L)
(gd_ (ix_ (x3 + 2) L)
(gd_ (ix_ (x3 + 3) L)
(if (xs (Int32.toNatClampNeg (x3 + 3))) = 0 then
(Option.bind (f_X12_minutes (xs (Int32.toNatClampNeg (x3 + 1))) (xs (Int32.toNatClampNeg (x3 + 2))) 0 q9.2) fun q20 =>
(if q9.1 = q20.1 then
((f_L_18 L xs (x3 + 7) q20.2))
else
((some (0, q20.2)))))
else
(Option.bind (f_X12_minutes (xs (Int32.toNatClampNeg (x3 + 1))) (xs (Int32.toNatClampNeg (x3 + 2))) 1 q9.2) fun q25 =>
(if q9.1 = q25.1 then
((f_L_18 L xs (x3 + 7) q25.2))
else
((some (0, q25.2))))))))))
else
(Option.bind (f_X11_minutes (xs (Int32.toNatClampNeg (x3 + 1))) (xs (Int32.toNatClampNeg (x3 + 2))) 1 m) fun q30 =>
(gd_ (ix_ (x3 + 1) L)
(gd_ (ix_ (x3 + 2) L)
(gd_ (ix_ (x3 + 3) L)
(if (xs (Int32.toNatClampNeg (x3 + 3))) = 0 then
(Option.bind (f_X12_minutes (xs (Int32.toNatClampNeg (x3 + 1))) (xs (Int32.toNatClampNeg (x3 + 2))) 0 q30.2) fun q41 =>
(if q30.1 = q41.1 then
((f_L_18 L xs (x3 + 7) q41.2))
else
((some (0, q41.2)))))
else
(Option.bind (f_X12_minutes (xs (Int32.toNatClampNeg (x3 + 1))) (xs (Int32.toNatClampNeg (x3 + 2))) 1 q30.2) fun q46 =>
(if q30.1 = q46.1 then
((f_L_18 L xs (x3 + 7) q46.2))
else
((some (0, q46.2)))))))))))))) :=
  (am_lp_eq _ _).trans (show am_k (am_lp (st_L L xs)) (s_L_1286 L xs x3 m) = _ from (fe_gd (fe_gd (fe_gd (fe_if (fe_bd fun q9 => (fe_gd (fe_gd (fe_gd (fe_if (fe_bd fun q20 => (fe_if (rfl) (rfl))) (fe_bd fun q25 => (fe_if (rfl) (rfl)))))))) (fe_bd fun q30 => (fe_gd (fe_gd (fe_gd (fe_if (fe_bd fun q41 => (fe_if (rfl) (rfl))) (fe_bd fun q46 => (fe_if (rfl) (rfl)))))))))))))
set_option maxRecDepth 100000 in
theorem e_L_1345 (L : Nat) (xs : Nat → Int32) (x3 : Int32) (m : fm_) : f_L_1345 L xs x3 m =
(gd_ (ix_ (x3 + 1) L)
(gd_ (ix_ (x3 + 2) L)
(gd_ (ix_ (x3 + 3) L)
(if (xs (Int32.toNatClampNeg (x3 + 3))) = 0 then
(gd_ (ix_ (x3 + 4) L)
(Option.bind (f_X11_via (xs (Int32.toNatClampNeg (x3 + 1))) (xs (Int32.toNatClampNeg (x3 + 2))) 0 (xs (Int32.toNatClampNeg (x3 + 4))) m) fun q11 =>
(gd_ (ix_ (x3 + 1) L)
(gd_ (ix_ (x3 + 2) L)
(gd_ (ix_ (x3 + 3) L)
(if (xs (Int32.toNatClampNeg (x3 + 3))) = 0 then
(gd_ (ix_ (x3 + 4) L)
(Option.bind (f_X12_via (xs (Int32.toNatClampNeg (x3 + 1))) (xs (Int32.toNatClampNeg (x3 + 2))) 0 (xs (Int32.toNatClampNeg (x3 + 4))) q11.2) fun q24 =>
(if q11.1 = q24.1 then
((f_L_18 L xs (x3 + 7) q24.2))
else
((some (0, q24.2))))))
else
(gd_ (ix_ (x3 + 4) L)
(Option.bind (f_X12_via (xs (Int32.toNatClampNeg (x3 + 1))) (xs (Int32.toNatClampNeg (x3 + 2))) 1 (xs (Int32.toNatClampNeg (x3 + 4))) q11.2) fun q31 =>
(if q11.1 = q31.1 then
((f_L_18 L xs (x3 + 7) q31.2))
else
((some (0, q31.2))))))))))))
else
(gd_ (ix_ (x3 + 4) L)
(Option.bind (f_X11_via (xs (Int32.toNatClampNeg (x3 + 1))) (xs (Int32.toNatClampNeg (x3 + 2))) 1 (xs (Int32.toNatClampNeg (x3 + 4))) m) fun q38 =>
(gd_ (ix_ (x3 + 1) L)
(gd_ (ix_ (x3 + 2) L)
(gd_ (ix_ (x3 + 3) L)
(if (xs (Int32.toNatClampNeg (x3 + 3))) = 0 then
(gd_ (ix_ (x3 + 4) L)
(Option.bind (f_X12_via (xs (Int32.toNatClampNeg (x3 + 1))) (xs (Int32.toNatClampNeg (x3 + 2))) 0 (xs (Int32.toNatClampNeg (x3 + 4))) q38.2) fun q51 =>
(if q38.1 = q51.1 then
((f_L_18 L xs (x3 + 7) q51.2))
else
((some (0, q51.2))))))
else
(gd_ (ix_ (x3 + 4) L)
(Option.bind (f_X12_via (xs (Int32.toNatClampNeg (x3 + 1))) (xs (Int32.toNatClampNeg (x3 + 2))) 1 (xs (Int32.toNatClampNeg (x3 + 4))) q38.2) fun q58 =>
(if q38.1 = q58.1 then
((f_L_18 L xs (x3 + 7) q58.2))
else
((some (0, q58.2)))))))))))))))) :=
  (am_lp_eq _ _).trans (show am_k (am_lp (st_L L xs)) (s_L_1345 L xs x3 m) = _ from (fe_gd (fe_gd (fe_gd (fe_if (fe_gd (fe_bd fun q11 => (fe_gd (fe_gd (fe_gd (fe_if (fe_gd (fe_bd fun q24 => (fe_if (rfl) (rfl)))) (fe_gd (fe_bd fun q31 => (fe_if (rfl) (rfl)))))))))) (fe_gd (fe_bd fun q38 => (fe_gd (fe_gd (fe_gd (fe_if (fe_gd (fe_bd fun q51 => (fe_if (rfl) (rfl)))) (fe_gd (fe_bd fun q58 => (fe_if (rfl) (rfl)))))))))))))))
set_option maxRecDepth 100000 in
theorem e_L_1414 (L : Nat) (xs : Nat → Int32) (x3 : Int32) (m : fm_) : f_L_1414 L xs x3 m =
(gd_ (ix_ (x3 + 1) L)
(gd_ (ix_ (x3 + 2) L)
(gd_ (ix_ (x3 + 3) L)
(if (xs (Int32.toNatClampNeg (x3 + 3))) = 0 then
(Option.bind (f_X11_load (xs (Int32.toNatClampNeg (x3 + 1))) (xs (Int32.toNatClampNeg (x3 + 2))) 0 m) fun q9 =>
(gd_ (ix_ (x3 + 1) L)
(gd_ (ix_ (x3 + 2) L)
(gd_ (ix_ (x3 + 3) L)
(if (xs (Int32.toNatClampNeg (x3 + 3))) = 0 then
(Option.bind (f_X12_load (xs (Int32.toNatClampNeg (x3 + 1))) (xs (Int32.toNatClampNeg (x3 + 2))) 0 q9.2) fun q20 =>
(if q9.1 = q20.1 then
((f_L_18 L xs (x3 + 7) q20.2))
else
((some (0, q20.2)))))
else
(Option.bind (f_X12_load (xs (Int32.toNatClampNeg (x3 + 1))) (xs (Int32.toNatClampNeg (x3 + 2))) 1 q9.2) fun q25 =>
(if q9.1 = q25.1 then
((f_L_18 L xs (x3 + 7) q25.2))
else
((some (0, q25.2))))))))))
else
(Option.bind (f_X11_load (xs (Int32.toNatClampNeg (x3 + 1))) (xs (Int32.toNatClampNeg (x3 + 2))) 1 m) fun q30 =>
(gd_ (ix_ (x3 + 1) L)
(gd_ (ix_ (x3 + 2) L)
(gd_ (ix_ (x3 + 3) L)
(if (xs (Int32.toNatClampNeg (x3 + 3))) = 0 then
(Option.bind (f_X12_load (xs (Int32.toNatClampNeg (x3 + 1))) (xs (Int32.toNatClampNeg (x3 + 2))) 0 q30.2) fun q41 =>
(if q30.1 = q41.1 then
((f_L_18 L xs (x3 + 7) q41.2))
else
((some (0, q41.2)))))
else
(Option.bind (f_X12_load (xs (Int32.toNatClampNeg (x3 + 1))) (xs (Int32.toNatClampNeg (x3 + 2))) 1 q30.2) fun q46 =>
(if q30.1 = q46.1 then
((f_L_18 L xs (x3 + 7) q46.2))
else
((some (0, q46.2)))))))))))))) :=
  (am_lp_eq _ _).trans (show am_k (am_lp (st_L L xs)) (s_L_1414 L xs x3 m) = _ from (fe_gd (fe_gd (fe_gd (fe_if (fe_bd fun q9 => (fe_gd (fe_gd (fe_gd (fe_if (fe_bd fun q20 => (fe_if (rfl) (rfl))) (fe_bd fun q25 => (fe_if (rfl) (rfl)))))))) (fe_bd fun q30 => (fe_gd (fe_gd (fe_gd (fe_if (fe_bd fun q41 => (fe_if (rfl) (rfl))) (fe_bd fun q46 => (fe_if (rfl) (rfl)))))))))))))
set_option maxRecDepth 100000 in
theorem e_L_1473 (L : Nat) (xs : Nat → Int32) (x3 : Int32) (m : fm_) : f_L_1473 L xs x3 m =
(gd_ (ix_ (x3 + 1) L)
(Option.bind (f_X11_around (xs (Int32.toNatClampNeg (x3 + 1))) m) fun q3 =>
(gd_ (ix_ (x3 + 1) L)
(Option.bind (f_X12_around (xs (Int32.toNatClampNeg (x3 + 1))) q3.2) fun q8 =>
(if q3.1 = q8.1 then
((f_L_18 L xs (x3 + 7) q8.2))
else
((some (0, q8.2)))))))) :=
  (am_lp_eq _ _).trans (show am_k (am_lp (st_L L xs)) (s_L_1473 L xs x3 m) = _ from (fe_gd (fe_bd fun q3 => (fe_gd (fe_bd fun q8 => (fe_if (rfl) (rfl)))))))
set_option maxRecDepth 100000 in
theorem e_L_1496 (L : Nat) (xs : Nat → Int32) (x3 : Int32) (m : fm_) : f_L_1496 L xs x3 m =
(gd_ (ix_ (x3 + 1) L)
(gd_ (ix_ (x3 + 2) L)
(Option.bind (f_X11_view (xs (Int32.toNatClampNeg (x3 + 1))) (xs (Int32.toNatClampNeg (x3 + 2))) m) fun q5 =>
(gd_ (ix_ (x3 + 1) L)
(gd_ (ix_ (x3 + 2) L)
(Option.bind (f_X12_view (xs (Int32.toNatClampNeg (x3 + 1))) (xs (Int32.toNatClampNeg (x3 + 2))) q5.2) fun q12 =>
(if q5.1 = q12.1 then
((f_L_18 L xs (x3 + 7) q12.2))
else
((some (0, q12.2)))))))))) :=
  (am_lp_eq _ _).trans (show am_k (am_lp (st_L L xs)) (s_L_1496 L xs x3 m) = _ from (fe_gd (fe_gd (fe_bd fun q5 => (fe_gd (fe_gd (fe_bd fun q12 => (fe_if (rfl) (rfl)))))))))
set_option maxRecDepth 100000 in
theorem e_L_1529 (L : Nat) (xs : Nat → Int32) (x3 : Int32) (m : fm_) : f_L_1529 L xs x3 m =
(gd_ (ix_ (x3 + 1) L)
(gd_ (ix_ (x3 + 2) L)
(Option.bind (f_X11_seen (xs (Int32.toNatClampNeg (x3 + 1))) (xs (Int32.toNatClampNeg (x3 + 2))) m) fun q5 =>
(gd_ (ix_ (x3 + 1) L)
(gd_ (ix_ (x3 + 2) L)
(Option.bind (f_X12_seen (xs (Int32.toNatClampNeg (x3 + 1))) (xs (Int32.toNatClampNeg (x3 + 2))) q5.2) fun q12 =>
(if q5.1 = q12.1 then
((f_L_18 L xs (x3 + 7) q12.2))
else
((some (0, q12.2)))))))))) :=
  (am_lp_eq _ _).trans (show am_k (am_lp (st_L L xs)) (s_L_1529 L xs x3 m) = _ from (fe_gd (fe_gd (fe_bd fun q5 => (fe_gd (fe_gd (fe_bd fun q12 => (fe_if (rfl) (rfl)))))))))
set_option maxRecDepth 100000 in
theorem e_L_1562 (L : Nat) (xs : Nat → Int32) (x3 : Int32) (m : fm_) : f_L_1562 L xs x3 m =
(gd_ (ix_ (x3 + 1) L)
(Option.bind (f_X11_about (xs (Int32.toNatClampNeg (x3 + 1))) m) fun q3 =>
(gd_ (ix_ (x3 + 1) L)
(Option.bind (f_X12_about (xs (Int32.toNatClampNeg (x3 + 1))) q3.2) fun q8 =>
(if q3.1 = q8.1 then
((f_L_18 L xs (x3 + 7) q8.2))
else
((some (0, q8.2)))))))) :=
  (am_lp_eq _ _).trans (show am_k (am_lp (st_L L xs)) (s_L_1562 L xs x3 m) = _ from (fe_gd (fe_bd fun q3 => (fe_gd (fe_bd fun q8 => (fe_if (rfl) (rfl)))))))
def P_L (L : Nat) (xs : Nat → Int32) (s : S_L) (q : Int32 × fm_) : Prop := q.1 = 1 → ∀ {r : Nat → Nat → Option Nat}, fn_F 168 r → match s with
  | (0, x3, m) => am_T m_L_law (sp_L L xs) 168 (fun y _ => y = some (.int 1)) 18 [some (.ref 1000), some (.ref 0), some (.ref 106), some (.int x3)] [] (mk_ 168 r m)
  | (1, x3, m) => am_T m_L_law (sp_L L xs) 168 (fun y _ => y = some (.int 1)) 180 [some (.ref 1000), some (.ref 0), some (.ref 106), some (.int x3)] [] (mk_ 168 r m)
  | (2, x3, m) => am_T m_L_law (sp_L L xs) 168 (fun y _ => y = some (.int 1)) 243 [some (.ref 1000), some (.ref 0), some (.ref 106), some (.int x3)] [] (mk_ 168 r m)
  | (3, x3, m) => am_T m_L_law (sp_L L xs) 168 (fun y _ => y = some (.int 1)) 266 [some (.ref 1000), some (.ref 0), some (.ref 106), some (.int x3)] [] (mk_ 168 r m)
  | (4, x3, m) => am_T m_L_law (sp_L L xs) 168 (fun y _ => y = some (.int 1)) 279 [some (.ref 1000), some (.ref 0), some (.ref 106), some (.int x3)] [] (mk_ 168 r m)
  | (5, x3, m) => am_T m_L_law (sp_L L xs) 168 (fun y _ => y = some (.int 1)) 302 [some (.ref 1000), some (.ref 0), some (.ref 106), some (.int x3)] [] (mk_ 168 r m)
  | (6, x3, m) => am_T m_L_law (sp_L L xs) 168 (fun y _ => y = some (.int 1)) 325 [some (.ref 1000), some (.ref 0), some (.ref 106), some (.int x3)] [] (mk_ 168 r m)
  | (7, x3, m) => am_T m_L_law (sp_L L xs) 168 (fun y _ => y = some (.int 1)) 358 [some (.ref 1000), some (.ref 0), some (.ref 106), some (.int x3)] [] (mk_ 168 r m)
  | (8, x3, m) => am_T m_L_law (sp_L L xs) 168 (fun y _ => y = some (.int 1)) 421 [some (.ref 1000), some (.ref 0), some (.ref 106), some (.int x3)] [] (mk_ 168 r m)
  | (9, x3, m) => am_T m_L_law (sp_L L xs) 168 (fun y _ => y = some (.int 1)) 496 [some (.ref 1000), some (.ref 0), some (.ref 106), some (.int x3)] [] (mk_ 168 r m)
  | (10, x3, m) => am_T m_L_law (sp_L L xs) 168 (fun y _ => y = some (.int 1)) 579 [some (.ref 1000), some (.ref 0), some (.ref 106), some (.int x3)] [] (mk_ 168 r m)
  | (11, x3, m) => am_T m_L_law (sp_L L xs) 168 (fun y _ => y = some (.int 1)) 612 [some (.ref 1000), some (.ref 0), some (.ref 106), some (.int x3)] [] (mk_ 168 r m)
  | (12, x3, m) => am_T m_L_law (sp_L L xs) 168 (fun y _ => y = some (.int 1)) 635 [some (.ref 1000), some (.ref 0), some (.ref 106), some (.int x3)] [] (mk_ 168 r m)
  | (13, x3, m) => am_T m_L_law (sp_L L xs) 168 (fun y _ => y = some (.int 1)) 658 [some (.ref 1000), some (.ref 0), some (.ref 106), some (.int x3)] [] (mk_ 168 r m)
  | (14, x3, m) => am_T m_L_law (sp_L L xs) 168 (fun y _ => y = some (.int 1)) 691 [some (.ref 1000), some (.ref 0), some (.ref 106), some (.int x3)] [] (mk_ 168 r m)
  | (15, x3, m) => am_T m_L_law (sp_L L xs) 168 (fun y _ => y = some (.int 1)) 724 [some (.ref 1000), some (.ref 0), some (.ref 106), some (.int x3)] [] (mk_ 168 r m)
  | (16, x3, m) => am_T m_L_law (sp_L L xs) 168 (fun y _ => y = some (.int 1)) 757 [some (.ref 1000), some (.ref 0), some (.ref 106), some (.int x3)] [] (mk_ 168 r m)
  | (17, x3, m) => am_T m_L_law (sp_L L xs) 168 (fun y _ => y = some (.int 1)) 800 [some (.ref 1000), some (.ref 0), some (.ref 106), some (.int x3)] [] (mk_ 168 r m)
  | (18, x3, m) => am_T m_L_law (sp_L L xs) 168 (fun y _ => y = some (.int 1)) 869 [some (.ref 1000), some (.ref 0), some (.ref 106), some (.int x3)] [] (mk_ 168 r m)
  | (19, x3, m) => am_T m_L_law (sp_L L xs) 168 (fun y _ => y = some (.int 1)) 912 [some (.ref 1000), some (.ref 0), some (.ref 106), some (.int x3)] [] (mk_ 168 r m)
  | (20, x3, m) => am_T m_L_law (sp_L L xs) 168 (fun y _ => y = some (.int 1)) 955 [some (.ref 1000), some (.ref 0), some (.ref 106), some (.int x3)] [] (mk_ 168 r m)
  | (21, x3, m) => am_T m_L_law (sp_L L xs) 168 (fun y _ => y = some (.int 1)) 998 [some (.ref 1000), some (.ref 0), some (.ref 106), some (.int x3)] [] (mk_ 168 r m)
  | (22, x3, m) => am_T m_L_law (sp_L L xs) 168 (fun y _ => y = some (.int 1)) 1051 [some (.ref 1000), some (.ref 0), some (.ref 106), some (.int x3)] [] (mk_ 168 r m)
  | (23, x3, m) => am_T m_L_law (sp_L L xs) 168 (fun y _ => y = some (.int 1)) 1114 [some (.ref 1000), some (.ref 0), some (.ref 106), some (.int x3)] [] (mk_ 168 r m)
  | (24, x3, m) => am_T m_L_law (sp_L L xs) 168 (fun y _ => y = some (.int 1)) 1167 [some (.ref 1000), some (.ref 0), some (.ref 106), some (.int x3)] [] (mk_ 168 r m)
  | (25, x3, m) => am_T m_L_law (sp_L L xs) 168 (fun y _ => y = some (.int 1)) 1190 [some (.ref 1000), some (.ref 0), some (.ref 106), some (.int x3)] [] (mk_ 168 r m)
  | (26, x3, m) => am_T m_L_law (sp_L L xs) 168 (fun y _ => y = some (.int 1)) 1223 [some (.ref 1000), some (.ref 0), some (.ref 106), some (.int x3)] [] (mk_ 168 r m)
  | (27, x3, m) => am_T m_L_law (sp_L L xs) 168 (fun y _ => y = some (.int 1)) 1286 [some (.ref 1000), some (.ref 0), some (.ref 106), some (.int x3)] [] (mk_ 168 r m)
  | (28, x3, m) => am_T m_L_law (sp_L L xs) 168 (fun y _ => y = some (.int 1)) 1345 [some (.ref 1000), some (.ref 0), some (.ref 106), some (.int x3)] [] (mk_ 168 r m)
  | (29, x3, m) => am_T m_L_law (sp_L L xs) 168 (fun y _ => y = some (.int 1)) 1414 [some (.ref 1000), some (.ref 0), some (.ref 106), some (.int x3)] [] (mk_ 168 r m)
  | (30, x3, m) => am_T m_L_law (sp_L L xs) 168 (fun y _ => y = some (.int 1)) 1473 [some (.ref 1000), some (.ref 0), some (.ref 106), some (.int x3)] [] (mk_ 168 r m)
  | (31, x3, m) => am_T m_L_law (sp_L L xs) 168 (fun y _ => y = some (.int 1)) 1496 [some (.ref 1000), some (.ref 0), some (.ref 106), some (.int x3)] [] (mk_ 168 r m)
  | (32, x3, m) => am_T m_L_law (sp_L L xs) 168 (fun y _ => y = some (.int 1)) 1529 [some (.ref 1000), some (.ref 0), some (.ref 106), some (.int x3)] [] (mk_ 168 r m)
  | (33, x3, m) => am_T m_L_law (sp_L L xs) 168 (fun y _ => y = some (.int 1)) 1562 [some (.ref 1000), some (.ref 0), some (.ref 106), some (.int x3)] [] (mk_ 168 r m)
  | _ => False
