theorem f_cb_r (s t : Int → Int) (l : Int) : ∀ (m : Nat) (i j : Int), -1 ≤ f_cb s t l m i j ∧ f_cb s t l m i j ≤ 1
  | 0, i, j => by simp [f_cb]
  | m + 1, i, j => by
    have ih := f_cb_r s t l m (f_be s (f_bat s l i)) (f_be t (f_bat t l j))
    have h1 := f_sgn_cases (f_bk s (f_bat s l i)) (f_bk t (f_bat t l j))
    have h2 := f_sgn_cases (f_bv s (f_bat s l i)) (f_bv t (f_bat t l j))
    unfold f_cb
    split
    · omega
    · split
      · omega
      · split <;> omega
theorem f_sgn_anti (x y : Int) : f_sgn y x = - f_sgn x y := by
  have h1 := f_sgn_cases x y
  have h2 := f_sgn_cases y x
  omega
theorem f_cb_anti (s t : Int → Int) (l : Int) : ∀ (m : Nat) (i j : Int), f_cb t s l m j i = - f_cb s t l m i j
  | 0, i, j => by simp [f_cb]
  | m + 1, i, j => by
    have ih := f_cb_anti s t l m (f_be s (f_bat s l i)) (f_be t (f_bat t l j))
    unfold f_cb
    by_cases h1 : f_bk s (f_bat s l i) = f_bk t (f_bat t l j)
    · rw [if_neg (not_not_intro h1), if_neg (not_not_intro h1.symm)]
      by_cases h2 : f_bv s (f_bat s l i) = f_bv t (f_bat t l j)
      · rw [if_neg (not_not_intro h2), if_neg (not_not_intro h2.symm), ← h1]
        by_cases h3 : f_bk s (f_bat s l i) = 0
        · rw [if_pos h3, if_pos h3]; rfl
        · rw [if_neg h3, if_neg h3]; exact ih
      · rw [if_pos h2, if_pos (Ne.symm h2)]; exact f_sgn_anti _ _
    · rw [if_pos h1, if_pos (Ne.symm h1)]; exact f_sgn_anti _ _
theorem f_cb_tr (s t u : Int → Int) (l : Int) : ∀ (m : Nat) (i j k : Int), f_cb s t l m i j ≤ 0 → f_cb t u l m j k ≤ 0 → f_cb s u l m i k = min (f_cb s t l m i j) (f_cb t u l m j k)
  | 0, i, j, k, _, _ => by simp [f_cb]
  | m + 1, i, j, k, h1, h2 => by
    have ih := f_cb_tr s t u l m (f_be s (f_bat s l i)) (f_be t (f_bat t l j)) (f_be u (f_bat u l k))
    have r1 := f_cb_r s t l m (f_be s (f_bat s l i)) (f_be t (f_bat t l j))
    have r2 := f_cb_r t u l m (f_be t (f_bat t l j)) (f_be u (f_bat u l k))
    unfold f_cb at h1 h2 ⊢
    have a1 := f_sgn_cases (f_bk s (f_bat s l i)) (f_bk t (f_bat t l j))
    have a2 := f_sgn_cases (f_bk t (f_bat t l j)) (f_bk u (f_bat u l k))
    have a3 := f_sgn_cases (f_bk s (f_bat s l i)) (f_bk u (f_bat u l k))
    have b1 := f_sgn_cases (f_bv s (f_bat s l i)) (f_bv t (f_bat t l j))
    have b2 := f_sgn_cases (f_bv t (f_bat t l j)) (f_bv u (f_bat u l k))
    have b3 := f_sgn_cases (f_bv s (f_bat s l i)) (f_bv u (f_bat u l k))
    generalize f_bk s (f_bat s l i) = k1 at *
    generalize f_bk t (f_bat t l j) = k2 at *
    generalize f_bk u (f_bat u l k) = k3 at *
    generalize f_bv s (f_bat s l i) = v1 at *
    generalize f_bv t (f_bat t l j) = v2 at *
    generalize f_bv u (f_bat u l k) = v3 at *
    generalize f_sgn k1 k2 = x1 at *
    generalize f_sgn k2 k3 = x2 at *
    generalize f_sgn k1 k3 = x3 at *
    generalize f_sgn v1 v2 = y1 at *
    generalize f_sgn v2 v3 = y2 at *
    generalize f_sgn v1 v3 = y3 at *
    by_cases e1 : k1 = k2
    · by_cases e2 : k2 = k3
      · have e3 : k1 = k3 := e1.trans e2
        rw [if_neg (not_not_intro e1)] at h1 ⊢
        rw [if_neg (not_not_intro e2)] at h2 ⊢
        rw [if_neg (not_not_intro e3)]
        by_cases d1 : v1 = v2
        · by_cases d2 : v2 = v3
          · have d3 : v1 = v3 := d1.trans d2
            rw [if_neg (not_not_intro d1)] at h1 ⊢
            rw [if_neg (not_not_intro d2)] at h2 ⊢
            rw [if_neg (not_not_intro d3)]
            by_cases z1 : k1 = 0
            · rw [if_pos z1, if_pos z1, if_pos (by omega)]; rfl
            · rw [if_neg z1] at h1 ⊢
              rw [if_neg (show ¬ k2 = 0 by omega)] at h2 ⊢
              rw [if_neg z1]
              exact ih h1 h2
          · rw [if_neg (not_not_intro d1)] at h1 ⊢
            rw [if_pos d2] at h2 ⊢
            rw [if_pos (show v1 ≠ v3 by omega)]
            split at h1
            · rw [if_pos (by assumption)]; omega
            · rw [if_neg (by assumption)]; omega
        · rw [if_pos d1] at h1 ⊢
          by_cases d2 : v2 = v3
          · rw [if_neg (not_not_intro d2)] at h2 ⊢
            rw [if_pos (show v1 ≠ v3 by omega)]
            split at h2
            · rw [if_pos (by assumption)]; omega
            · rw [if_neg (by assumption)]; omega
          · rw [if_pos d2] at h2 ⊢
            rw [if_pos (show v1 ≠ v3 by omega)]; omega
      · rw [if_neg (not_not_intro e1)] at h1 ⊢
        rw [if_pos e2] at h2 ⊢
        rw [if_pos (show k1 ≠ k3 by omega)]
        have : -1 ≤ (if v1 ≠ v2 then y1 else if k1 = 0 then 0 else f_cb s t l m (f_be s (f_bat s l i)) (f_be t (f_bat t l j))) := by
          split
          · omega
          · split <;> omega
        omega
    · rw [if_pos e1] at h1 ⊢
      by_cases e2 : k2 = k3
      · rw [if_neg (not_not_intro e2)] at h2 ⊢
        rw [if_pos (show k1 ≠ k3 by omega)]
        have : -1 ≤ (if v2 ≠ v3 then y2 else if k2 = 0 then 0 else f_cb t u l m (f_be t (f_bat t l j)) (f_be u (f_bat u l k))) := by
          split
          · omega
          · split <;> omega
        omega
      · rw [if_pos e2] at h2 ⊢
        rw [if_pos (show k1 ≠ k3 by omega)]; omega
theorem r_cmp_r {s t : Int → Int} {r : Int} (h : r_cmp s t r) : -1 ≤ r ∧ r ≤ 1 := by
  rcases h with ⟨h, _⟩ | ⟨i, _, _, _, _, h⟩
  · omega
  · have := f_sgn_cases (s i) (t i); omega
theorem r_cmp_anti {s t : Int → Int} {r : Int} (h : r_cmp s t r) : r_cmp t s (-r) := by
  rcases h with ⟨h, h2⟩ | ⟨i, h0, h1, h2, h3, h4⟩
  · exact Or.inl ⟨by omega, fun i a b => (h2 i a b).symm⟩
  · exact Or.inr ⟨i, h0, h1, fun j a b => (h2 j a b).symm, Ne.symm h3, by rw [h4, f_sgn_anti (s i)]⟩
theorem r_cmp_tr {s t u : Int → Int} (h : r_cmp s t (-1)) (h' : r_cmp t u (-1)) : r_cmp s u (-1) := by
  rcases h with ⟨h, h2⟩ | ⟨i, h0, h1, h2, h3, h4⟩
  · omega
  · rcases h' with ⟨h, h2⟩ | ⟨j, g0, g1, g2, g3, g4⟩
    · omega
    · have a1 := f_sgn_cases (s i) (t i)
      have a2 := f_sgn_cases (t j) (u j)
      rcases (show i < j ∨ i = j ∨ j < i by omega) with e | e | e
      · have e5 := g2 i h0 e
        exact Or.inr ⟨i, h0, h1, fun q a b => (h2 q a b).trans (g2 q a (by omega)), by omega, by have := f_sgn_cases (s i) (u i); omega⟩
      · subst e
        exact Or.inr ⟨i, h0, h1, fun q a b => (h2 q a b).trans (g2 q a (by omega)), by omega, by have := f_sgn_cases (s i) (u i); omega⟩
      · have e5 := h2 j g0 e
        exact Or.inr ⟨j, g0, g1, fun q a b => (h2 q a (by omega)).trans (g2 q a b), by omega, by have := f_sgn_cases (s j) (u j); omega⟩
theorem r_blank_u {σ : k_St} {a R : Nat} {row r q : Int} (h : r_blank σ a R row r) (h' : r_blank σ a R row q) : r = q := by
  rcases h with ⟨h1, h2⟩ | ⟨h1, h2, h3, h4⟩ <;> rcases h' with ⟨g1, g2⟩ | ⟨g1, g2, g3, g4⟩
  · omega
  · exact absurd g3 (h2 q g1 g2)
  · exact absurd h3 (g2 r h1 h2)
  · rcases (show r < q ∨ r = q ∨ q < r by omega) with e | e | e
    · exact absurd h3 (g4 r h1 e)
    · exact e
    · exact absurd g3 (h4 q g1 e)
theorem y_ks_u {σ : k_St} {a R : Nat} {row r q : Int} (h : y_ks σ a R row r) (h' : y_ks σ a R row q) : r = q := by
  obtain ⟨bl, h1, h2⟩ := h
  obtain ⟨cl, g1, g2⟩ := h'
  have e := r_blank_u h1 g1
  subst e
  rcases h2 with ⟨e3, p, p0, p1, p2⟩ | ⟨e3, e4⟩ <;> rcases g2 with ⟨f3, q, q0, q1, q2⟩ | ⟨f3, f4⟩
  · omega
  · exact absurd p2 (f4 p p0 p1)
  · exact absurd q2 (e4 q q0 q1)
  · omega
theorem o_rel_r {σ : k_St} {a b od r : Int} (h : o_rel σ a b od r) : -1 ≤ r ∧ r ≤ 1 := by
  obtain ⟨i, j, _, _, h⟩ := h
  rcases h with ⟨h, h2⟩ | ⟨h, h2⟩
  · rw [h2]; exact f_cb_r _ _ _ _ _ _
  · exact r_cmp_r h2
theorem o_rel_anti {σ : k_St} {a b od r : Int} (h : o_rel σ a b od r) : o_rel σ b a od (-r) := by
  obtain ⟨i, j, h1, h2, h⟩ := h
  refine ⟨j, i, h2, h1, ?_⟩
  unfold o_res at h ⊢
  rw [f_cb_anti]
  rcases h with ⟨h, h2⟩ | ⟨h, h2⟩
  · exact Or.inl ⟨by omega, by omega⟩
  · exact Or.inr ⟨by omega, r_cmp_anti h2⟩
theorem o_rel_tr {σ : k_St} {a b c od : Int} (h : o_rel σ a b od (-1)) (h' : o_rel σ b c od (-1)) : o_rel σ a c od (-1) := by
  obtain ⟨i, j, h1, h2, h⟩ := h
  obtain ⟨j', k, g1, g2, g⟩ := h'
  have e := y_ks_u h2 g1
  subst e
  refine ⟨i, k, h1, g2, ?_⟩
  unfold o_res at h g ⊢
  have T := f_cb_tr (r_sgn σ (h_rows σ a 1) 30 a) (r_sgn σ (h_rows σ b 1) 30 b) (r_sgn σ (h_rows σ c 1) 30 c) (if od = 0 then 1 else 0) 17 i j k
  rcases h with ⟨h, h3⟩ | ⟨h, h3⟩ <;> rcases g with ⟨g, g3⟩ | ⟨g, g3⟩
  · exact Or.inl (by rw [T (by omega) (by omega)]; omega)
  · exact Or.inl (by rw [T (by omega) (by omega)]; omega)
  · exact Or.inl (by rw [T (by omega) (by omega)]; omega)
  · exact Or.inr ⟨by rw [T (by omega) (by omega)]; omega, r_cmp_tr h3 g3⟩
theorem o_rel_u {σ : k_St} {a b od r q : Int} (h : o_rel σ a b od r) (h' : o_rel σ a b od q) : r = q := by
  obtain ⟨i, j, h1, h2, h⟩ := h
  obtain ⟨i', j', g1, g2, g⟩ := h'
  have e := y_ks_u h1 g1; subst e
  have e := y_ks_u h2 g2; subst e
  rcases h with ⟨h, h3⟩ | ⟨h, h3⟩ <;> rcases g with ⟨g, g3⟩ | ⟨g, g3⟩
  · omega
  · omega
  · omega
  · rcases h3 with ⟨h, h2⟩ | ⟨i, h0, h1, h2, h3, h4⟩ <;> rcases g3 with ⟨k, k2⟩ | ⟨j, k0, k1, k2, k3, k4⟩
    · omega
    · exact absurd (h2 j k0 k1) k3
    · exact absurd (k2 i h0 h1) h3
    · rcases (show i < j ∨ i = j ∨ j < i by omega) with e | e | e
      · exact absurd (k2 i h0 e) h3
      · subst e; omega
      · exact absurd (h2 j k0 e) k3
/-- heads that are there have names of their own -/
def h_dis (σ : k_St) : Prop := ∀ a b, h_is σ a → h_is σ b → a ≠ b → ∃ i, 0 ≤ i ∧ i < 16 ∧ r_sgn σ 9 30 a i ≠ r_sgn σ 9 30 b i
theorem o_rel_0 {σ : k_St} {a b od : Int} (hd : h_dis σ) (ha : h_is σ a) (hb : h_is σ b) (hab : a ≠ b) : ¬ o_rel σ a b od 0 := by
  rintro ⟨i, j, h1, h2, h⟩
  rcases h with ⟨h, h2⟩ | ⟨h, h2⟩
  · omega
  · obtain ⟨q, q0, q1, q2⟩ := hd a b ha hb hab
    rcases h2 with ⟨h, h2⟩ | ⟨i, h0, h1, h2, h3, h4⟩
    · exact q2 (h2 q q0 q1)
    · have := f_sgn_cases (r_sgn σ 9 30 a i) (r_sgn σ 9 30 b i); omega
theorem o_rel_congr {σ τ : k_St} {a b od r : Int} (h1 : ∀ c, c < 40 → τ.1 c = σ.1 c) (h2 : τ.2.1 33 1 = σ.2.1 33 1) : o_rel τ a b od r ↔ o_rel σ a b od r := by
  have e1 : ∀ h w, h_rows τ h w = h_rows σ h w := fun h w => by unfold h_rows r_cnt; rw [h1 (12 + 2) (by omega)]
  have e2 : ∀ c : Nat, c < 38 → ∀ row, r_sgn τ c 30 row = r_sgn σ c 30 row := fun c hc row => by funext i; exact r_sgn_congr (h1 _ (by omega)) (h1 _ (by omega)) row i
  have e3 : ∀ c : Nat, c < 38 → ∀ row i, y_ks τ c 30 row i ↔ y_ks σ c 30 row i := fun c hc row i => by
    unfold y_ks y_ksP r_blank r_alike r_cnt r_sgn; rw [h1 (c + 1) (by omega), h1 (c + 2) (by omega), h1 (34 + 1) (by omega), h1 (34 + 2) (by omega), h2]
  have ha := h_rows_c σ a 1
  have hb := h_rows_c σ b 1
  unfold o_rel
  rw [e1, e1, e2 _ (by omega), e2 _ (by omega), e2 9 (by omega), e2 9 (by omega)]
  refine exists_congr fun i => exists_congr fun j => ?_
  rw [e3 _ (by omega), e3 _ (by omega)]
def rk_fr (σ τ : k_St) : Prop := (∀ c, c ≠ 40 → c ≠ 41 → τ.1 c = σ.1 c) ∧ (∀ c j, c ≠ 37 → c ≠ 38 → ¬ (c = 39 ∧ j = 4) → τ.2.1 c j = σ.2.1 c j) ∧ τ.2.2 = σ.2.2
theorem rk_fr_r {σ : k_St} : rk_fr σ σ := ⟨fun _ _ _ => rfl, fun _ _ _ _ _ => rfl, rfl⟩
theorem rk_fr_A {σ τ : k_St} {a : Nat} {f : Int → Int} (h : rk_fr σ τ) (ha : a = 40 ∨ a = 41) : rk_fr σ (k_sA τ a f) := ⟨fun c h1 h2 => by rw [k_AN (by omega)]; exact h.1 c h1 h2, h.2.1, h.2.2⟩
theorem rk_fr_I {σ τ : k_St} {x : Int} (h : rk_fr σ τ) : rk_fr σ (k_sI τ 39 4 x) := ⟨h.1, fun c j g1 g2 h1 => by rw [k_IN h1]; exact h.2.1 c j g1 g2 h1, h.2.2⟩
theorem rk_fr_b {σ τ ρ : k_St} (h : rk_fr σ τ) (hb : k_bx τ ρ) : rk_fr σ ρ := ⟨fun c h1 h2 => by rw [hb.1]; exact h.1 c h1 h2, fun c j h1 h2 h3 => (hb.2.1 c j h1 h2).trans (h.2.1 c j h1 h2 h3), hb.2.2.trans h.2.2⟩
def rk_ins (σ : k_St) (od m : Int) (l z : List Int) : Prop := ∃ P S, l = P ++ S ∧ z = P ++ m :: S ∧ (∀ s ∈ S, o_rel σ m s od (-1)) ∧ (P = [] ∨ ∃ P' r, P = P' ++ [r] ∧ o_rel σ r m od (-1))
def rk_ok (σ : k_St) (od m : Int) (l : List Int) : Prop := (∀ x, x ∈ l ↔ h_is σ x ∧ x < m) ∧ l.Pairwise (fun x y => o_rel σ x y od (-1)) ∧ (l.length : Int) ≤ m
theorem rk_ok_ins {σ : k_St} {od m : Int} {l z : List Int} (hm : h_is σ m) (h : rk_ok σ od m l) (hi : rk_ins σ od m l z) : rk_ok σ od (m + 1) z := by
  obtain ⟨h1, h2, h3⟩ := h
  obtain ⟨P, S, e1, e2, e3, e4⟩ := hi
  have hl := h2
  rw [e1, List.pairwise_append] at hl
  obtain ⟨p1, p2, p3⟩ := hl
  refine ⟨fun x => ?_, ?_, ?_⟩
  · rw [e2, List.mem_append, List.mem_cons]
    have h1x := h1 x
    rw [e1, List.mem_append] at h1x
    constructor
    · rintro (h | h | h)
      · have := h1x.mp (Or.inl h); exact ⟨this.1, by omega⟩
      · rw [h]; exact ⟨hm, by omega⟩
      · have := h1x.mp (Or.inr h); exact ⟨this.1, by omega⟩
    · rintro ⟨h, h'⟩
      by_cases hx : x = m
      · exact Or.inr (Or.inl hx)
      · rcases h1x.mpr ⟨h, by omega⟩ with h | h
        · exact Or.inl h
        · exact Or.inr (Or.inr h)
  · rw [e2, List.pairwise_append]
    refine ⟨p1, List.pairwise_cons.mpr ⟨e3, p2⟩, fun a ha b hb => ?_⟩
    have ham : o_rel σ a m od (-1) := by
      rcases e4 with e4 | ⟨P', r, e4, e5⟩
      · rw [e4] at ha; cases ha
      · rw [e4] at ha p1
        rcases List.mem_append.mp ha with h | h
        · exact o_rel_tr ((List.pairwise_append.mp p1).2.2 a h r (by simp)) e5
        · rw [List.mem_singleton.mp h]; exact e5
    rcases List.mem_cons.mp hb with h | h
    · rw [h]; exact ham
    · exact p3 a ha b h
  · rw [e2, List.length_append, List.length_cons]; rw [e1, List.length_append] at h3; omega
theorem rk_ok_skip {σ : k_St} {od m : Int} {l : List Int} (hm : ¬ h_is σ m) (h : rk_ok σ od m l) : rk_ok σ od (m + 1) l := by
  refine ⟨fun x => (h.1 x).trans ⟨fun q => ⟨q.1, by omega⟩, fun q => ⟨q.1, ?_⟩⟩, h.2.1, by have := h.2.2; omega⟩
  rcases (show x = m ∨ x < m by omega) with e | e
  · rw [e] at q; exact absurd q.1 hm
  · exact e
