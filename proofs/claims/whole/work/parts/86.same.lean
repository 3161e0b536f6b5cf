/-! ===== what is known depends on the readings alone ===== -/
theorem tgl_cg {tg tg' : Nat → Nat → Bool} {a : Nat → Nat} {p i : Nat} : ∀ n, (∀ j, j < n → tg j i = tg' j i) → tgl_ tg a p i n = tgl_ tg' a p i n
  | 0, _ => rfl
  | n + 1, h => by
    unfold tgl_
    rw [tgl_cg n fun j hj => h j (by omega), h n (by omega)]
theorem cst_cg {np : Nat} {pr pr' : Nat → Nat → Nat} {a : Nat → Nat} : ∀ n, (∀ j p, j < n → pr j p = pr' j p) → cst_ np pr a n = cst_ np pr' a n
  | 0, _ => rfl
  | n + 1, h => by
    unfold cst_ co2_
    rw [cst_cg n fun j p hj => h j p (by omega), h n _ (by omega)]
theorem ip_cg {B : Type} {f g : Nat → B → B} (h : ∀ p b, f p b = g p b) : ∀ c p b, ip_ f c p b = ip_ g c p b
  | 0, _, _ => rfl
  | c + 1, p, b => by
    unfold ip_
    rw [h, ip_cg h c]
theorem sr_cg {np N : Nat} {pr pr' : Nat → Nat → Nat} {tg tg' : Nat → Nat → Bool} (hp : ∀ j p, j < N → pr j p = pr' j p) (ht : ∀ i j, i < N → j < N → tg i j = tg' i j) : ∀ k i a b, i + k ≤ N → sr_ np pr tg k i a b = sr_ np pr' tg' k i a b
  | 0, _, _, _, _ => rfl
  | k + 1, i, a, b, h => by
    unfold sr_
    refine ip_cg (fun p b => ?_) _ _ _
    unfold stp_ cbf_ co2_
    rw [cst_cg i fun j p hj => hp j p (by omega), hp i p (by omega), tgl_cg i fun j hj => ht j i (by omega) (by omega), sr_cg hp ht k (i + 1) _ _ (by omega)]
theorem kn_cg {np N : Nat} {pr pr' : Nat → Nat → Nat} {tg tg' : Nat → Nat → Bool} (hp : ∀ j p, j < N → pr j p = pr' j p) (ht : ∀ i j, i < N → j < N → tg i j = tg' i j) : kn_ np pr tg N = kn_ np pr' tg' N := by
  unfold kn_
  rw [sr_cg hp ht N 0 _ _ (by omega)]
theorem rg_in {R : List Nat} {i : Nat} (h : i < R.length) : rg_ R i ∈ R := by
  rw [rg_s (List.getElem?_eq_getElem h)]
  exact List.getElem_mem h
/-- two rows of facts that hold the same readings at the places of R -/
theorem knd_cg {W : List (Nat × Nat × Nat)} {P : pl_} {F G : List fa_} {C : List (Nat × Nat × Nat)} {R : List Nat} (h : ∀ r ∈ R, (fq_ F r).2.2.2 = (fq_ G r).2.2.2) : knd_ W P F C R = knd_ W P G C R := by
  unfold knd_
  refine kn_cg (fun j p hj => ?_) (fun i j hi hj => ?_)
  · unfold prr_
    rw [h _ (rg_in hj)]
  · unfold tgg_ tgr_ pnt_ mnt_
    rw [h _ (rg_in hi), h _ (rg_in hj)]
theorem fq_app {F : List fa_} {q : fa_} {r : Nat} (h : r < F.length) : fq_ (F ++ [q]) r = fq_ F r := by
  unfold fq_
  rw [List.getElem?_append_left h]
theorem cnr_app {F : List fa_} {q : fa_} {k : Int32} {r : Nat} (h : r < F.length) : cnr_ (F ++ [q]) k r = cnr_ F k r := by
  unfold cnr_
  rw [List.getElem?_append_left h]
theorem rdn_lt {F : List fa_} {d r : Nat} (h : r ∈ rdn_ F d F.length) : r < F.length := (rdn_u _ _ h).1
/-- a fact told that is no reading -/
theorem rdn_nr {F : List fa_} {q : fa_} (hq : ¬ q.1 = 1) (d : Nat) : rdn_ (F ++ [q]) d (F ++ [q]).length = rdn_ F d F.length := by
  rw [rdn_new, if_neg (fun h => hq h.1)]
theorem rdk_nr {F : List fa_} {q : fa_} (hq : ¬ q.1 = 1) (d : Nat) (k : Int32) : rdk_ (F ++ [q]) d k (F ++ [q]).length = rdk_ F d k F.length := by
  unfold rdk_
  rw [rdn_nr hq]
  exact List.filter_congr fun r hr => cnr_app (rdn_lt hr)
theorem chs_nr {W : List (Nat × Nat × Nat)} {P : pl_} {F : List fa_} {C : List (Nat × Nat × Nat)} {q : fa_} (hq : ¬ q.1 = 1) {d : Nat} {k : Int32} {m : fm_} (h : chs_ W P F C d k m) : chs_ W P (F ++ [q]) C d k m := by
  unfold chs_ at h ⊢
  have e : knd_ W P (F ++ [q]) C (rdk_ F d k F.length) = knd_ W P F C (rdk_ F d k F.length) := knd_cg fun r hr => by rw [fq_app (rdn_lt (List.mem_filter.mp hr).1)]
  rw [rdk_nr hq, rdn_nr hq, e]
  exact h
theorem cch_nr {W : List (Nat × Nat × Nat)} {P : pl_} {F : List fa_} {C : List (Nat × Nat × Nat)} {q : fa_} (hq : ¬ q.1 = 1) {st : Nat} {m m1 : fm_} (h : cch_ W P F C st m) (hs : ∀ a k, 82 ≤ a → a ≤ 86 → gi_ m1 a k = gi_ m a k) : cch_ W P (F ++ [q]) C st m1 := by
  obtain ⟨h1, h2⟩ := cch_sa h hs
  refine ⟨h1, fun d hd => ?_⟩
  obtain ⟨sd, t1, t2, t3⟩ := h2 d hd
  exact ⟨sd, t1, t2, fun e => chs_nr hq (t3 e)⟩
theorem drc_nr {F : List fa_} {q : fa_} (hq : ¬ q.1 = 1) {m m1 : fm_} (h : drc_ F m) (hs : ∀ a k, 80 ≤ a → a ≤ 81 → gi_ m1 a k = gi_ m a k) : drc_ (F ++ [q]) m1 := fun d hd => by
  rw [rdn_nr hq]
  exact ⟨(hs _ _ (by omega) (by omega)).trans (h d hd).1, fun j r hj => (hs _ _ (by omega) (by omega)).trans ((h d hd).2 j r hj)⟩
theorem kok_nr {W : List (Nat × Nat × Nat)} {P : pl_} {F : List fa_} {T : Nat} {C : List (Nat × Nat × Nat)} (hk : kok_ W P F T C) (h2 : rok2_ F) {q : fa_} (hq : ¬ q.1 = 1) (hl : F.length < 200) (hw : wf_ q) : kok_ W P (F ++ [q]) T C ∧ rok2_ (F ++ [q]) := by
  obtain ⟨hW, hP, hF, hC, hR⟩ := hk
  refine ⟨⟨hW, hP, fw_add hF hl hw, hC, fun r hr h1 => ?_, fun e => ?_⟩, fun r hr h1 => ?_⟩
  · rcases List.mem_append.mp hr with hr | hr
    · exact hR.1 r hr h1
    · rw [List.mem_singleton.mp hr] at h1; exact absurd h1 hq
  · rw [rdn_nr hq]; exact hR.2 e
  · rcases List.mem_append.mp hr with hr | hr
    · exact h2 r hr h1
    · rw [List.mem_singleton.mp hr] at h1; exact absurd h1 hq
