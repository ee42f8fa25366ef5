theorem okp_hd {lv : Int → Prop} {p : Int} (h : okp lv p) : (f_head p 0 = -9 ∨ lv (f_head p 0)) ∧ (f_head p 1 = -9 ∨ lv (f_head p 1)) ∧ (f_head p 2 = -9 ∨ lv (f_head p 2)) := by
  obtain ⟨a, b, c, ⟨a0, a1⟩, ⟨b0, b1⟩, ⟨c0, c1⟩, rfl⟩ := h
  have e0 : (961 * a + 31 * b + c) / 961 % 31 = a := by omega
  have e1 : (961 * a + 31 * b + c) / 31 % 31 = b := by omega
  have e2 : (961 * a + 31 * b + c) / 1 % 31 = c := by omega
  have one : ∀ x : Int, (x = 0 ∨ lv (x - 1)) → ((if x = 0 then (-9 : Int) else x - 1) = -9 ∨ lv (if x = 0 then (-9 : Int) else x - 1)) := fun x hx => by
    by_cases q : x = 0
    · rw [if_pos q]; exact Or.inl rfl
    · rw [if_neg q]; exact Or.inr (hx.resolve_left q)
  refine ⟨?_, ?_, ?_⟩
  · rw [show f_head (961 * a + 31 * b + c) 0 = if a = 0 then -9 else a - 1 by unfold f_head; rw [if_pos rfl, e0]]; exact one a a1
  · rw [show f_head (961 * a + 31 * b + c) 1 = if b = 0 then -9 else b - 1 by unfold f_head; rw [if_neg (show ¬ (1 : Int) = 0 by omega), if_pos rfl, e1]]; exact one b b1
  · rw [show f_head (961 * a + 31 * b + c) 2 = if c = 0 then -9 else c - 1 by unfold f_head; rw [if_neg (show ¬ (2 : Int) = 0 by omega), if_neg (show ¬ (2 : Int) = 1 by omega), e2]]; exact one c c1
theorem f_repl_h {a b p : Int} (hb : f_hd b) : f_head (f_repl a b p) 0 = f_re a b (f_head p 0) ∧ f_head (f_repl a b p) 1 = f_re a b (f_head p 1) ∧ f_head (f_repl a b p) 2 = f_re a b (f_head p 2) := by
  rw [f_repl_path]; exact f_path_heads (f_re_hd hb (f_head_hd _ _)) (f_re_hd hb (f_head_hd _ _)) (f_re_hd hb (f_head_hd _ _))
theorem three {i : Int} (h0 : 0 ≤ i) (h1 : i < 3) : i = 0 ∨ i = 1 ∨ i = 2 := by omega
theorem f_repl_i {a b p i : Int} (hb : f_hd b) (h0 : 0 ≤ i) (h1 : i < 3) : f_head (f_repl a b p) i = f_re a b (f_head p i) := by
  obtain ⟨x, y, z⟩ := f_repl_h (a := a) (p := p) hb
  rcases three h0 h1 with e | e | e
  · rw [e]; exact x
  · rw [e]; exact y
  · rw [e]; exact z
/-- a live head's place is taken by another -/
theorem KN_meld {σ τ : k_St} {a b : Int} (hK : RKept σ) (ha : h_is σ a) (hb : h_is σ b) (hab : a ≠ b) (hld : ¬ ml_lb σ a b) (h1 : ∀ c, 6 ≤ c → c ≤ 21 → c ≠ 15 → c ≠ 19 → τ.1 c = σ.1 c) (h15 : τ.1 15 = j_up (σ.1 15) a 1) (h19 : τ.1 19 = f_map (m_rF σ a b) (σ.1 19) (σ.2.1 16 5)) (h2 : ∀ c j, 6 ≤ c → c ≤ 21 → τ.2.1 c j = σ.2.1 c j) : KN τ (j_up (ml_N a b (σ.1 69) (1383 + 7 * σ.1 69 1382)) (302 + 36 * a) 0) := by
  obtain ⟨w1, w2, w3, w4⟩ := id hK
  obtain ⟨⟨v1, v2, v3⟩, v4, v5⟩ := KR_rg w1 w2
  obtain ⟨⟨a1, a2⟩, ⟨b1, b2⟩, c1, c2⟩ := w2
  have hM0 : σ.2.1 16 5 = σ.1 69 1382 := c1
  have hE0 : σ.2.1 8 3 = σ.1 69 301 := b1
  have ra : 0 ≤ a ∧ a < σ.1 69 301 := ⟨ha.1, by rw [← hE0]; exact ha.2.1⟩
  have rb : 0 ≤ b ∧ b < σ.1 69 301 := ⟨hb.1, by rw [← hE0]; exact hb.2.1⟩
  have fb : f_hd b := Or.inr (by omega)
  have gl : ∀ j, j < 1386 → j ≠ 302 + 36 * a → (j_up (ml_N a b (σ.1 69) (1383 + 7 * σ.1 69 1382)) (302 + 36 * a) 0) j = σ.1 69 j := fun j j0 j1 => by rw [j_upN j1, ml_N_o (by omega)]
  have gm : ∀ j, 1382 ≤ j → (j - 1383) % 7 < 3 ∨ 6 ≤ (j - 1383) % 7 → (j_up (ml_N a b (σ.1 69) (1383 + 7 * σ.1 69 1382)) (302 + 36 * a) 0) j = σ.1 69 j := fun j j0 j1 => by rw [j_upN (by omega), ml_N_o (by omega)]
  have pth : ∀ m, 0 ≤ m → m < σ.1 69 1382 → τ.1 19 m = if σ.1 21 m = 0 then f_repl a b (σ.1 19 m) else σ.1 19 m := fun m m0 m1 => by rw [h19, f_map_y m0 (by omega)]; rfl
  have lvs : ∀ x, h_isA τ 6 x → h_isA σ 6 x ∧ x ≠ a := fun x hx => by
    obtain ⟨x0, x1, x2⟩ := hx
    have x2' : τ.1 15 x = 0 := x2
    rw [h15] at x2'
    have xa : x ≠ a := fun e => by rw [e, j_upS] at x2'; exact absurd x2' (by omega)
    rw [j_upN xa] at x2'
    exact ⟨⟨x0, by rw [← h2 _ _ (by omega) (by omega)]; exact x1, x2'⟩, xa⟩
  have lvt : ∀ x, h_isA σ 6 x → x ≠ a → h_isA τ 6 x := fun x hx xa => by
    refine ⟨hx.1, by rw [h2 _ _ (by omega) (by omega)]; exact hx.2.1, ?_⟩
    show τ.1 15 x = 0
    rw [h15, j_upN xa]; exact hx.2.2
  have lre : ∀ x, x = -9 ∨ h_isA σ 6 x → f_re a b x = -9 ∨ h_isA τ 6 (f_re a b x) := fun x hx => by
    unfold f_re
    by_cases q : x = a
    · rw [if_pos q]; exact Or.inr (lvt b hb (fun e => hab e.symm))
    · rw [if_neg q]; exact hx.imp id (fun z => lvt x z q)
  refine ⟨⟨by rw [h2 _ _ (by omega) (by omega)]; exact w1.1, ?_, ?_⟩, ⟨⟨by rw [h2 _ _ (by omega) (by omega), gl 0 (by omega) (by omega)]; exact a1, fun k k0 k1 => ?_⟩, ⟨by rw [h2 _ _ (by omega) (by omega), gl 301 (by omega) (by omega)]; exact b1, fun q q0 q1 => ?_⟩, by rw [h2 _ _ (by omega) (by omega), gm 1382 (by omega) (by omega)]; exact c1, fun m m0 m1 => ?_⟩, ⟨?_, fun m hm => ?_, ?_, ?_⟩, j_up_rg (ml_N_rg (by omega) w4) (by omega)⟩
  · obtain ⟨k2, k3, k4, k5⟩ := w1.2.1
    refine ⟨by rw [h2 _ _ (by omega) (by omega)]; exact k2, r_wf_congr (h1 _ (by omega) (by omega) (by omega) (by omega)) (h1 _ (by omega) (by omega) (by omega) (by omega)) k3, r_wf_congr (h1 _ (by omega) (by omega) (by omega) (by omega)) (h1 _ (by omega) (by omega) (by omega) (by omega)) k4, fun i => ?_⟩
    show τ.1 15 i = 0 ∨ τ.1 15 i = 1
    rw [h15]; unfold j_up; split
    · exact Or.inr rfl
    · exact k5 i
  · have hw := w1.2.2
    refine ⟨by rw [h2 _ _ (by omega) (by omega)]; exact hw.1, by rw [h1 _ (by omega) (by omega) (by omega) (by omega)]; exact hw.2.1, fun x x0 x1 => ?_⟩
    rw [h2 _ _ (by omega) (by omega)] at x1
    have x1' : x < σ.2.1 16 5 := x1
    obtain ⟨y1, y2, y3, y4⟩ := hw.2.2 x x0 x1
    rw [h1 (16 + 1) (by omega) (by omega) (by omega) (by omega), h1 (16 + 2) (by omega) (by omega) (by omega) (by omega), h1 (16 + 4) (by omega) (by omega) (by omega) (by omega)]
    refine ⟨y1, y2, ?_, y4⟩
    show 0 ≤ τ.1 19 x ∧ τ.1 19 x ≤ 29790
    rw [pth x x0 (by omega)]; split
    · exact f_repl_in fb
    · exact y3
  · rw [gl 0 (by omega) (by omega)] at k1
    rw [h1 _ (by omega) (by omega) (by omega) (by omega), gl _ (by omega) (by omega)]; exact a2 k k0 k1
  · rw [gl 301 (by omega) (by omega)] at q1
    obtain ⟨e1, e2, e3, e4, e5⟩ := b2 q q0 q1
    have := v4 q q0 q1
    refine ⟨?_, by rw [h1 _ (by omega) (by omega) (by omega) (by omega), gl _ (by omega) (by omega)]; exact e2, by rw [h1 _ (by omega) (by omega) (by omega) (by omega), gl _ (by omega) (by omega)]; exact e3, fun i i0 i1 => ?_, fun i i0 i1 => ?_⟩
    · show τ.1 15 q = _
      rw [h15]
      by_cases z : q = a
      · rw [z, j_upS, j_upS]; rfl
      · rw [j_upN z, gl _ (by omega) (by omega)]; exact e1
    · rw [gl _ (by omega) (by omega)] at i1
      rw [h1 _ (by omega) (by omega) (by omega) (by omega), gl _ (by omega) (by omega)]; exact e4 i i0 i1
    · rw [gl _ (by omega) (by omega)] at i1
      rw [h1 _ (by omega) (by omega) (by omega) (by omega), gl _ (by omega) (by omega)]; exact e5 i i0 i1
  · rw [gm 1382 (by omega) (by omega)] at m1
    obtain ⟨e1, e2, e3, e4, e5⟩ := c2 m m0 m1
    have e1' : σ.1 21 m = 1 - σ.1 69 (1383 + 7 * m) := e1
    have l01 := (v5 m m0 m1).1
    refine ⟨by rw [h1 _ (by omega) (by omega) (by omega) (by omega), gm _ (by omega) (by omega)]; exact e1, by rw [h1 _ (by omega) (by omega) (by omega) (by omega), gm _ (by omega) (by omega)]; exact e2, by rw [h1 _ (by omega) (by omega) (by omega) (by omega), gm _ (by omega) (by omega)]; exact e3, fun i i0 i1 => ?_, by rw [h1 _ (by omega) (by omega) (by omega) (by omega), gm _ (by omega) (by omega)]; exact e5⟩
    show f_head (τ.1 19 m) i = _
    have e4' : f_head (σ.1 19 m) i = σ.1 69 (1383 + 7 * m + 3 + i) := e4 i i0 i1
    rw [pth m m0 m1, j_upN (by omega)]
    by_cases l : σ.1 69 (1383 + 7 * m) = 1
    · rw [if_pos (by omega), f_repl_i fb i0 i1, ml_N_in m0 i0 i1 (by omega) l, e4']
    · rw [if_neg (by omega), ml_N_d m0 i0 i1 l, e4']
  · intro x y hx hy hxy
    obtain ⟨i, i0, i1, i2⟩ := w3.1 x y (lvs x hx).1 (lvs y hy).1 hxy
    exact ⟨i, i0, i1, by unfold r_sgn at i2 ⊢; rw [h1 (6 + 3 + 1) (by omega) (by omega) (by omega) (by omega), h1 (6 + 3 + 2) (by omega) (by omega) (by omega) (by omega)]; exact i2⟩
  · obtain ⟨m0, m1, m2⟩ := hm
    rw [h2 _ _ (by omega) (by omega)] at m1
    rw [h1 (6 + 15) (by omega) (by omega) (by omega) (by omega)] at m2
    have m1' : m < σ.2.1 16 5 := m1
    have m2' : σ.1 21 m = 0 := m2
    obtain ⟨p1, p2, p3, p4⟩ := w3.2.1 m ⟨m0, m1, m2⟩
    obtain ⟨o0, o1, o2⟩ := okp_hd p1
    obtain ⟨r0, r1, r2⟩ := f_repl_h (a := a) (p := σ.1 19 m) fb
    rw [h1 (6 + 11) (by omega) (by omega) (by omega) (by omega), show τ.1 (6 + 13) m = f_repl a b (σ.1 19 m) by show τ.1 19 m = _; rw [pth m m0 (by omega), if_pos m2']]
    have n9 : ∀ x, x ≠ -9 → f_re a b x ≠ -9 := fun x hx => by unfold f_re; split <;> omega
    have y9 : ∀ x, f_re a b x = -9 → x = -9 := fun x hx => Decidable.byContradiction (fun q => n9 x q hx)
    have z9 : ∀ x, x = -9 → f_re a b x = -9 := fun x hx => by unfold f_re; rw [if_neg (by omega)]; exact hx
    refine ⟨?_, by rw [r0]; exact n9 _ p2, by rw [r1, r2]; exact fun q => z9 _ (p3 (y9 _ q)), fun k5 => ?_⟩
    · rw [f_repl_path]
      exact okp_path (fun h hh => by have e1 := hh.1; have e2 := hh.2.1; rw [h2 _ _ (by omega) (by omega)] at e2; have e3 : h < σ.2.1 8 3 := e2; omega) ((lre _ o0).resolve_left (n9 _ p2)) (lre _ o1) (lre _ o2)
    · obtain ⟨q1, q2, q3⟩ := p4 k5
      refine ⟨by rw [r1]; exact n9 _ q1, by rw [r2]; exact z9 _ q2, ?_⟩
      rw [r0, r1]
      intro e
      have q3' : f_head (σ.1 19 m) 0 ≠ f_head (σ.1 19 m) 1 := q3
      have mi : m_is σ m := ⟨m0, m1', m2'⟩
      refine hld ⟨m, ⟨mi, k5⟩, ?_⟩
      rw [m_head_is mi, m_head_is mi]
      have e' : f_re a b (f_head (σ.1 19 m) 0) = f_re a b (f_head (σ.1 19 m) 1) := e
      unfold f_re at e'
      by_cases x : f_head (σ.1 19 m) 0 = a
      · rw [if_pos x, if_neg (fun z => q3' (by rw [x, z]))] at e'; exact Or.inl ⟨x, e'.symm⟩
      · rw [if_neg x] at e'
        by_cases y : f_head (σ.1 19 m) 1 = a
        · rw [if_pos y] at e'; exact Or.inr ⟨e', y⟩
        · rw [if_neg y] at e'; exact absurd e' q3'
  · rw [h2 _ _ (by omega) (by omega), h1 (6 + 5) (by omega) (by omega) (by omega) (by omega), h1 (6 + 4) (by omega) (by omega) (by omega) (by omega), h1 (6 + 8) (by omega) (by omega) (by omega) (by omega), h1 (6 + 7) (by omega) (by omega) (by omega) (by omega)]; exact w3.2.2.1
  · rw [h2 _ _ (by omega) (by omega), h1 (6 + 12) (by omega) (by omega) (by omega) (by omega), h2 6 1 (by omega) (by omega)]; exact w3.2.2.2
