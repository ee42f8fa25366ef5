/-! Paths by their digits; the entries of a class's index as a list of paths in order. -/
theorem hd3 {a b c : Int} (ha : 0 ≤ a ∧ a ≤ 30) (hb : 0 ≤ b ∧ b ≤ 30) (hc : 0 ≤ c ∧ c ≤ 30) : f_head (961 * a + 31 * b + c) 0 = (if a = 0 then -9 else a - 1) ∧ f_head (961 * a + 31 * b + c) 1 = (if b = 0 then -9 else b - 1) ∧ f_head (961 * a + 31 * b + c) 2 = (if c = 0 then -9 else c - 1) := by
  have e0 : (961 * a + 31 * b + c) / 961 % 31 = a := by omega
  have e1 : (961 * a + 31 * b + c) / 31 % 31 = b := by omega
  have e2 : (961 * a + 31 * b + c) / 1 % 31 = c := by omega
  refine ⟨?_, ?_, ?_⟩
  · show (if (961 * a + 31 * b + c) / 961 % 31 = 0 then -9 else (961 * a + 31 * b + c) / 961 % 31 - 1) = _
    rw [e0]
  · show (if (961 * a + 31 * b + c) / 31 % 31 = 0 then -9 else (961 * a + 31 * b + c) / 31 % 31 - 1) = _
    rw [e1]
  · show (if (961 * a + 31 * b + c) / 1 % 31 = 0 then -9 else (961 * a + 31 * b + c) / 1 % 31 - 1) = _
    rw [e2]
theorem hin3 {a b c : Int} (ha : 0 ≤ a ∧ a ≤ 30) (hb : 0 ≤ b ∧ b ≤ 30) (hc : 0 ≤ c ∧ c ≤ 30) : f_hin (961 * a + 31 * b + c) = if c ≠ 0 then 3 else if b ≠ 0 then 2 else 1 := by
  obtain ⟨_, h1, h2⟩ := hd3 ha hb hc
  unfold f_hin
  rw [h1, h2]
  by_cases q : c = 0
  · by_cases r : b = 0
    · simp [q, r]
    · have : b - 1 ≠ -9 := by omega
      simp [q, r, this]
  · have : c - 1 ≠ -9 := by omega
    simp [q, this]
theorem aro3 {a b c : Int} (ha : 0 ≤ a ∧ a ≤ 30) (hb : 0 ≤ b ∧ b ≤ 30) (hc : 0 ≤ c ∧ c ≤ 30) : f_aro (961 * a + 31 * b + c) = if c ≠ 0 then 961 * a + 31 * b + 0 else if b ≠ 0 then 961 * a + 31 * 0 + 0 else 0 := by
  unfold f_aro
  rw [hin3 ha hb hc]
  by_cases q : c = 0
  · by_cases r : b = 0
    · simp [q, r]
    · simp [q, r]; omega
  · simp [q]; omega
def dT (T : Int → Int) (x : Int) : Int := if x = 0 then 0 else T (x - 1) + 1
theorem tr3 {T : Int → Int} {a b c : Int} (ha : 0 ≤ a ∧ a ≤ 30) (hb : 0 ≤ b ∧ b ≤ 30) (hc : 0 ≤ c ∧ c ≤ 30) (ga : a = 0 ∨ 0 ≤ T (a - 1)) (gb : b = 0 ∨ 0 ≤ T (b - 1)) (gc : c = 0 ∨ 0 ≤ T (c - 1)) : f_tr T (961 * a + 31 * b + c) = 961 * dT T a + 31 * dT T b + dT T c := by
  obtain ⟨h0, h1, h2⟩ := hd3 ha hb hc
  have key : ∀ x : Int, 0 ≤ x → (x = 0 ∨ 0 ≤ T (x - 1)) → (if f_ti T (if x = 0 then -9 else x - 1) = -9 then 0 else f_ti T (if x = 0 then -9 else x - 1) + 1) = dT T x := fun x x0 gx => by
    unfold f_ti dT
    by_cases q : x = 0
    · simp [q]
    · rw [if_neg q, if_neg q, if_neg (by omega), if_neg (by rcases gx with g | g <;> omega)]
  unfold f_tr f_path f_lon
  rw [h0, h1, h2, key a ha.1 ga, key b hb.1 gb, key c hc.1 gc]
  omega
def okd (lv : Int → Prop) (a : Int) : Prop := (0 ≤ a ∧ a ≤ 30) ∧ (a = 0 ∨ lv (a - 1))
def okp (lv : Int → Prop) (p : Int) : Prop := ∃ a b c, okd lv a ∧ okd lv b ∧ okd lv c ∧ p = 961 * a + 31 * b + c
def hl_lt (lt : Int → Int → Prop) (x y : Int) : Prop := y ≠ -9 ∧ (x = -9 ∨ (x ≠ -9 ∧ lt x y))
def pt_lt (lt : Int → Int → Prop) (p q : Int) : Prop := hl_lt lt (f_head p 0) (f_head q 0) ∨ f_head p 0 = f_head q 0 ∧ (hl_lt lt (f_head p 1) (f_head q 1) ∨ f_head p 1 = f_head q 1 ∧ hl_lt lt (f_head p 2) (f_head q 2))
/-- p is the path q or one around it -/
def pre_p (q p : Int) : Prop := 0 < p ∧ (p = q ∨ p = f_aro q ∨ p = f_aro (f_aro q))
theorem okp_aro {lv : Int → Prop} {p : Int} (h : okp lv p) : okp lv (f_aro p) := by
  obtain ⟨a, b, c, ha, hb, hc, rfl⟩ := h
  have z : okd lv 0 := ⟨by omega, Or.inl rfl⟩
  rw [aro3 ha.1 hb.1 hc.1]
  split
  · exact ⟨a, b, 0, ha, hb, z, rfl⟩
  · split
    · exact ⟨a, 0, 0, ha, z, z, rfl⟩
    · exact ⟨0, 0, 0, z, z, z, by omega⟩
def rkA (lv : Int → Prop) (T U : Int → Int) : Prop := ∀ h, lv h → (0 ≤ T h ∧ T h ≤ 29) ∧ U (T h) = h
def rkB (lv : Int → Prop) (lt : Int → Int → Prop) (T : Int → Int) : Prop := ∀ h k, lv h → lv k → (T h < T k ↔ lt h k)
theorem dT_in {lv : Int → Prop} {T U : Int → Int} (hA : rkA lv T U) {x : Int} (hx : okd lv x) : (x = 0 ∨ 0 ≤ T (x - 1)) ∧ (0 ≤ dT T x ∧ dT T x ≤ 30) ∧ dT U (dT T x) = x ∧ (dT T x = 0 ∨ 0 ≤ U (dT T x - 1)) ∧ (dT T x = 0 ↔ x = 0) := by
  rcases hx.2 with h | h
  · subst h; exact ⟨Or.inl rfl, by unfold dT; simp, by unfold dT; simp, Or.inl rfl, by unfold dT; simp⟩
  · have h1 := hA _ h
    by_cases q : x = 0
    · subst q; exact ⟨Or.inl rfl, by unfold dT; simp, by unfold dT; simp, Or.inl rfl, by unfold dT; simp⟩
    · have e : dT T x = T (x - 1) + 1 := if_neg q
      rw [e]
      have e2 : T (x - 1) + 1 - 1 = T (x - 1) := by omega
      have hx0 := hx.1
      refine ⟨Or.inr h1.1.1, by omega, ?_, Or.inr (by rw [e2, h1.2]; omega), by omega⟩
      unfold dT
      rw [if_neg (by omega), e2, h1.2]; omega
theorem tr_okp {lv : Int → Prop} {T U : Int → Int} (hA : rkA lv T U) {a b c : Int} (ha : okd lv a) (hb : okd lv b) (hc : okd lv c) : f_tr T (961 * a + 31 * b + c) = 961 * dT T a + 31 * dT T b + dT T c := tr3 ha.1 hb.1 hc.1 (dT_in hA ha).1 (dT_in hA hb).1 (dT_in hA hc).1
theorem tr_back {lv : Int → Prop} {T U : Int → Int} (hA : rkA lv T U) {p : Int} (h : okp lv p) : f_tr U (f_tr T p) = p := by
  obtain ⟨a, b, c, ha, hb, hc, rfl⟩ := h
  have da := dT_in hA ha
  have db := dT_in hA hb
  have dc := dT_in hA hc
  rw [tr_okp hA ha hb hc, tr3 da.2.1 db.2.1 dc.2.1 da.2.2.2.1 db.2.2.2.1 dc.2.2.2.1, da.2.2.1, db.2.2.1, dc.2.2.1]
theorem tr_aro {lv : Int → Prop} {T U : Int → Int} (hA : rkA lv T U) {p : Int} (h : okp lv p) : f_aro (f_tr T p) = f_tr T (f_aro p) := by
  obtain ⟨a, b, c, ha, hb, hc, rfl⟩ := h
  have z : okd lv 0 := ⟨by omega, Or.inl rfl⟩
  have da := dT_in hA ha
  have db := dT_in hA hb
  have dc := dT_in hA hc
  have d0 : dT T 0 = 0 := rfl
  rw [tr_okp hA ha hb hc, aro3 da.2.1 db.2.1 dc.2.1, aro3 ha.1 hb.1 hc.1]
  by_cases q : c = 0
  · have q' := dc.2.2.2.2.mpr q
    by_cases r : b = 0
    · have r' := db.2.2.2.2.mpr r
      have := tr_okp hA z z z
      rw [d0] at this
      rw [if_neg (show ¬ (dT T c ≠ 0) from fun g => g q'), if_neg (show ¬ (dT T b ≠ 0) from fun g => g r'), if_neg (show ¬ (c ≠ 0) from fun g => g q), if_neg (show ¬ (b ≠ 0) from fun g => g r)]
      simpa using this.symm
    · have r' : dT T b ≠ 0 := fun g => r (db.2.2.2.2.mp g)
      rw [if_neg (show ¬ (dT T c ≠ 0) from fun g => g q'), if_pos r', if_neg (show ¬ (c ≠ 0) from fun g => g q), if_pos r, tr_okp hA ha z z, d0]
  · have q' : dT T c ≠ 0 := fun g => q (dc.2.2.2.2.mp g)
    rw [if_pos q', if_pos q, tr_okp hA ha hb z, d0]
theorem tr_pos {lv : Int → Prop} {T U : Int → Int} (hA : rkA lv T U) {p : Int} (h : okp lv p) : 0 < f_tr T p ↔ 0 < p := by
  obtain ⟨a, b, c, ha, hb, hc, rfl⟩ := h
  have da := dT_in hA ha
  have db := dT_in hA hb
  have dc := dT_in hA hc
  have := ha.1; have := hb.1; have := hc.1
  rw [tr_okp hA ha hb hc]
  constructor
  · intro h
    have : ¬ (a = 0 ∧ b = 0 ∧ c = 0) := fun g => by
      have := da.2.2.2.2.mpr g.1; have := db.2.2.2.2.mpr g.2.1; have := dc.2.2.2.2.mpr g.2.2; omega
    omega
  · intro h
    have : ¬ (dT T a = 0 ∧ dT T b = 0 ∧ dT T c = 0) := fun g => by
      have := da.2.2.2.2.mp g.1; have := db.2.2.2.2.mp g.2.1; have := dc.2.2.2.2.mp g.2.2; omega
    omega
theorem dT_lt {lv : Int → Prop} {lt : Int → Int → Prop} {T U : Int → Int} (hA : rkA lv T U) (hB : rkB lv lt T) {x y : Int} (hx : okd lv x) (hy : okd lv y) : dT T x < dT T y ↔ hl_lt lt (if x = 0 then -9 else x - 1) (if y = 0 then -9 else y - 1) := by
  have dx := dT_in hA hx
  have dy := dT_in hA hy
  have := hx.1; have := hy.1
  unfold hl_lt
  by_cases q : y = 0
  · have q' := dy.2.2.2.2.mpr q
    rw [if_pos q]
    exact ⟨fun h => absurd h (by omega), fun h => absurd rfl h.1⟩
  · rw [if_neg q]
    have hy' : lv (y - 1) := hy.2.resolve_left q
    have ey : dT T y = T (y - 1) + 1 := if_neg q
    by_cases r : x = 0
    · rw [if_pos r]
      have r' := dx.2.2.2.2.mpr r
      have := (hA _ hy').1
      exact ⟨fun _ => ⟨by omega, Or.inl rfl⟩, fun _ => by omega⟩
    · rw [if_neg r]
      have hx' : lv (x - 1) := hx.2.resolve_left r
      have ex : dT T x = T (x - 1) + 1 := if_neg r
      have hb := hB _ _ hx' hy'
      rw [ex, ey]
      exact ⟨fun h => ⟨by omega, Or.inr ⟨by omega, hb.mp (by omega)⟩⟩, fun h => by
        rcases h.2 with g | g
        · omega
        · have := hb.mpr g.2; omega⟩
theorem dT_eq {lv : Int → Prop} {T U : Int → Int} (hA : rkA lv T U) {x y : Int} (hx : okd lv x) (hy : okd lv y) : dT T x = dT T y ↔ (if x = 0 then (-9 : Int) else x - 1) = (if y = 0 then -9 else y - 1) := by
  have dx := dT_in hA hx
  have dy := dT_in hA hy
  have := hx.1; have := hy.1
  constructor
  · intro h
    have : x = y := by rw [← dx.2.2.1, ← dy.2.2.1, h]
    rw [this]
  · intro h
    have : x = y := by split at h <;> split at h <;> omega
    rw [this]
theorem tr_lt {lv : Int → Prop} {lt : Int → Int → Prop} {T U : Int → Int} (hA : rkA lv T U) (hB : rkB lv lt T) {p q : Int} (hp : okp lv p) (hq : okp lv q) : f_tr T p < f_tr T q ↔ pt_lt lt p q := by
  obtain ⟨a, b, c, ha, hb, hc, rfl⟩ := hp
  obtain ⟨a', b', c', ha', hb', hc', rfl⟩ := hq
  obtain ⟨x0, x1, x2⟩ := hd3 ha.1 hb.1 hc.1
  obtain ⟨y0, y1, y2⟩ := hd3 ha'.1 hb'.1 hc'.1
  unfold pt_lt
  rw [x0, x1, x2, y0, y1, y2, ← dT_lt hA hB ha ha', ← dT_lt hA hB hb hb', ← dT_lt hA hB hc hc', ← dT_eq hA ha ha', ← dT_eq hA hb hb', tr_okp hA ha hb hc, tr_okp hA ha' hb' hc']
  have da := dT_in hA ha
  have db := dT_in hA hb
  have dc := dT_in hA hc
  have da' := dT_in hA ha'
  have db' := dT_in hA hb'
  have dc' := dT_in hA hc'
  have := da.2.1; have := db.2.1; have := dc.2.1; have := da'.2.1; have := db'.2.1; have := dc'.2.1
  omega
theorem okp_pre {lv : Int → Prop} {q p : Int} (hq : okp lv q) (h : pre_p q p) : okp lv p := by
  rcases h.2 with h | h | h
  · rw [h]; exact hq
  · rw [h]; exact okp_aro hq
  · rw [h]; exact okp_aro (okp_aro hq)
theorem e_pre_iff {lv : Int → Prop} {T U : Int → Int} (hA : rkA lv T U) {P q : Int} (hP : okp lv P) : e_pre T P q ↔ ∃ p, pre_p P p ∧ q = f_tr T p := by
  unfold e_pre pre_p
  have h1 := okp_aro hP
  have h2 := okp_aro h1
  rw [tr_aro hA hP, tr_aro hA h1]
  constructor
  · rintro ⟨h0, h | h | h⟩
    · exact ⟨P, ⟨by rw [h, tr_pos hA hP] at h0; exact h0, Or.inl rfl⟩, h⟩
    · exact ⟨f_aro P, ⟨by rw [h, tr_pos hA h1] at h0; exact h0, Or.inr (Or.inl rfl)⟩, h⟩
    · exact ⟨f_aro (f_aro P), ⟨by rw [h, tr_pos hA h2] at h0; exact h0, Or.inr (Or.inr rfl)⟩, h⟩
  · rintro ⟨p, ⟨h0, h | h | h⟩, e⟩
    · subst h; exact ⟨by rw [e, tr_pos hA hP]; exact h0, Or.inl e⟩
    · subst h; exact ⟨by rw [e, tr_pos hA h1]; exact h0, Or.inr (Or.inl e)⟩
    · subst h; exact ⟨by rw [e, tr_pos hA h2]; exact h0, Or.inr (Or.inr e)⟩
/-- the entries' paths: in order, and those of the marks with those around -/
theorem E_spec {lv : Int → Prop} {lt : Int → Int → Prop} {T U ep : Int → Int} {l lm : List Int} (hA : rkA lv T U) (hB : rkB lv lt T) (hl : l.Pairwise (· < ·)) (hmem : ∀ q, q ∈ l ↔ ∃ m ∈ lm, e_pre T (ep m) q) (hok : ∀ m ∈ lm, okp lv (ep m)) : (l.map (f_tr U)).Pairwise (pt_lt lt) ∧ (∀ p, p ∈ l.map (f_tr U) ↔ ∃ m ∈ lm, pre_p (ep m) p) := by
  have hx : ∀ q ∈ l, okp lv (f_tr U q) ∧ f_tr T (f_tr U q) = q := fun q hq => by
    obtain ⟨m, m1, m2⟩ := (hmem q).mp hq
    obtain ⟨p, p1, p2⟩ := (e_pre_iff hA (hok m m1)).mp m2
    have hp := okp_pre (hok m m1) p1
    rw [p2, tr_back hA hp]; exact ⟨hp, rfl⟩
  refine ⟨?_, fun p => ?_⟩
  · rw [List.pairwise_map]
    refine List.Pairwise.imp_of_mem (fun {x y} h1 h2 h3 => ?_) hl
    refine (tr_lt hA hB (hx x h1).1 (hx y h2).1).mp ?_
    rw [(hx x h1).2, (hx y h2).2]; exact h3
  · rw [List.mem_map]
    constructor
    · rintro ⟨q, q1, rfl⟩
      obtain ⟨m, m1, m2⟩ := (hmem q).mp q1
      obtain ⟨p, p1, p2⟩ := (e_pre_iff hA (hok m m1)).mp m2
      rw [p2, tr_back hA (okp_pre (hok m m1) p1)]; exact ⟨m, m1, p1⟩
    · rintro ⟨m, m1, p1⟩
      exact ⟨f_tr T p, (hmem _).mpr ⟨m, m1, (e_pre_iff hA (hok m m1)).mpr ⟨p, p1, rfl⟩⟩, tr_back hA (okp_pre (hok m m1) p1)⟩
/-- of a list of heads in order -/
theorem rk_AB {lv : Int → Prop} {lt : Int → Int → Prop} {T U : Int → Int} {lr : List Int} (hs : v_seg U 0 lr) (hi : ∀ r : Int, 0 ≤ r → r < (lr.length : Int) → T (U r) = r) (hm : ∀ x, x ∈ lr ↔ lv x) (h30 : lr.length ≤ 30) (hp : lr.Pairwise lt) (hlt : ∀ x y, lt x y → ¬ lt y x) : rkA lv T U ∧ rkB lv lt T := by
  have key : ∀ h, lv h → ∃ k : Nat, ∃ hk : k < lr.length, lr[k] = h ∧ T h = k ∧ U (k : Int) = h := fun h hh => by
    obtain ⟨k, hk, e⟩ := List.getElem_of_mem ((hm h).mpr hh)
    have e2 := v_seg_get hk hs
    rw [show (0 : Int) + (k : Int) = k by omega, e] at e2
    refine ⟨k, hk, e, ?_, e2⟩
    rw [← e2]; exact hi k (by omega) (by omega)
  refine ⟨fun h hh => ?_, fun h k hh hk => ?_⟩
  · obtain ⟨i, i1, i2, i3, i4⟩ := key h hh
    rw [i3]; exact ⟨by omega, i4⟩
  · obtain ⟨i, i1, i2, i3, i4⟩ := key h hh
    obtain ⟨j, j1, j2, j3, j4⟩ := key k hk
    rw [i3, j3]
    have hg := List.pairwise_iff_getElem.mp hp
    constructor
    · intro q
      have := hg i j i1 j1 (by omega)
      rw [i2, j2] at this; exact this
    · intro q
      rcases Nat.lt_trichotomy i j with g | g | g
      · omega
      · subst g
        rw [i2] at j2; subst j2; exact absurd q (hlt _ _ q)
      · have := hg j i j1 i1 g
        rw [i2, j2] at this; exact absurd this (hlt _ _ q)
