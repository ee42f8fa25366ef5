theorem d_nt_o {g N : Int → Int} {a L m i : Int} (h : ¬ (a ≤ i ∧ i < a + m)) : d_nt g N a L m i = g i := if_neg h
theorem d_nt_i {g N : Int → Int} {a L m k : Int} (h0 : 0 ≤ k) (h1 : k < m) (h2 : k < L) : d_nt g N a L m (a + k) = N k := by
  unfold d_nt; rw [if_pos (by omega), if_pos (by omega), show a + k - a = k by omega]
theorem d_nt_rg {g N : Int → Int} {a L : Int} (hg : d_rg g) (hN : ∀ k, 0 ≤ k → k < L → 32 ≤ N k ∧ N k ≤ 126) : d_rg (d_nt g N a L 16) := fun i => by
  unfold d_nt; split
  · split
    · have := hN (i - a) (by omega) (by omega); omega
    · omega
  · exact hg i
theorem j_up_rg {g : Int → Int} {i x : Int} (hg : d_rg g) (hx : -128 ≤ x ∧ x ≤ 9999) : d_rg (j_up g i x) := fun k => by
  unfold j_up; split
  · exact hx
  · exact hg k
/-- a row of own signs becomes THE NAME -/
theorem KN_own {n : Nat} {σ τ : k_St} {g' : Int → Int} {h E : Int} (hR : RR n σ) (hnew : nh_new σ) (h0 : 0 ≤ h) (h30 : h < 30) (hE : τ.2.1 8 3 = E) (hEE : (E = σ.2.1 8 3 ∧ h < E) ∨ (E = σ.2.1 8 3 + 1 ∧ h = σ.2.1 8 3)) (h1 : ∀ c, 6 ≤ c → c ≤ 21 → c ≠ 10 → c ≠ 11 → c ≠ 14 → c ≠ 15 → τ.1 c = σ.1 c) (c10 : τ.1 10 = j_cpy (σ.1 31) (σ.1 10) (0 * 16) (h * 16) (σ.1 32 0)) (c11 : τ.1 11 = j_up (σ.1 11) h (σ.1 32 0)) (c14 : ∀ y, y ≠ h → τ.1 14 y = σ.1 14 y) (c14h : (0 ≤ τ.1 14 h ∧ τ.1 14 h ≤ 16) ∧ τ.1 14 h = g' (302 + 36 * h + 2) ∧ ∀ i, 0 ≤ i → i < τ.1 14 h → σ.1 13 (h * 16 + i) = g' (302 + 36 * h + 3 + 16 + i) ∧ 32 ≤ σ.1 13 (h * 16 + i) ∧ σ.1 13 (h * 16 + i) ≤ 126) (c15 : ∀ y, y ≠ h → τ.1 15 y = σ.1 15 y) (c15h : τ.1 15 h = 0 ∧ g' (302 + 36 * h) = 1) (h2 : ∀ c j, 6 ≤ c → c ≤ 21 → ¬ (c = 8 ∧ j = 3) → τ.2.1 c j = σ.2.1 c j) (g1 : ∀ i, i ≠ 301 → ¬ (302 + 36 * h ≤ i ∧ i < 338 + 36 * h) → g' i = σ.1 69 i) (g301 : g' 301 = E) (gL : g' (302 + 36 * h + 1) = σ.2.1 68 7) (gN : ∀ k, 0 ≤ k → k < σ.2.1 68 7 → g' (302 + 36 * h + 3 + k) = σ.1 71 k) (hd : d_rg g') : KN τ g' := by
  have hK := hR.1
  obtain ⟨n1, n2, n3, n4⟩ := hR.2.2.1
  obtain ⟨⟨_, hE9, hM9⟩, hgh, _⟩ := KR_rg hK.1 hK.2.1
  have hE0 : σ.2.1 8 3 = σ.1 69 301 := hK.2.1.2.1.1
  have hwh : h_wf σ 8 := hK.1.2.1
  have e10 : ∀ y i, 0 ≤ y → y < 30 → 0 ≤ i → i < 16 → y ≠ h → τ.1 10 (y * 16 + i) = σ.1 10 (y * 16 + i) := fun y i y0 y1 i0 i1 hy => by
    rw [c10]; unfold j_cpy; rw [if_neg (by omega)]
  have e10h : ∀ i, 0 ≤ i → i < σ.1 32 0 → τ.1 10 (h * 16 + i) = σ.1 31 i := fun i i0 i1 => by
    rw [c10]; unfold j_cpy; rw [if_pos (by omega), show (0 : Int) * 16 + (h * 16 + i - h * 16) = i by omega]
  have rsh : ∀ i, r_sgn τ 9 30 h i = r_sgn σ 30 1 0 i := fun i => by
    unfold r_sgn
    show (if 0 ≤ h ∧ h < (30 : Nat) ∧ 0 ≤ i ∧ i < τ.1 11 h then τ.1 10 (h * 16 + i) else -9) = (if 0 ≤ (0 : Int) ∧ (0 : Int) < (1 : Nat) ∧ 0 ≤ i ∧ i < σ.1 32 0 then σ.1 31 (0 * 16 + i) else -9)
    rw [c11, j_upS]
    by_cases q : 0 ≤ i ∧ i < σ.1 32 0
    · rw [if_pos (by omega), if_pos (by omega), e10h i q.1 q.2, show (0 : Int) * 16 + i = i by omega]
    · rw [if_neg (by omega), if_neg (by omega)]
  have rso : ∀ y i, 0 ≤ y → y < 30 → y ≠ h → r_sgn τ 9 30 y i = r_sgn σ 9 30 y i := fun y i y0 y1 hy => by
    have hc := hwh.2.1.1 y y0 y1
    have hc' : 0 ≤ σ.1 11 y ∧ σ.1 11 y ≤ 16 := hc
    unfold r_sgn
    show (if 0 ≤ y ∧ y < (30 : Nat) ∧ 0 ≤ i ∧ i < τ.1 11 y then τ.1 10 (y * 16 + i) else -9) = (if 0 ≤ y ∧ y < (30 : Nat) ∧ 0 ≤ i ∧ i < σ.1 11 y then σ.1 10 (y * 16 + i) else -9)
    rw [c11, j_upN hy]
    by_cases q : 0 ≤ y ∧ y < (30 : Nat) ∧ 0 ≤ i ∧ i < σ.1 11 y
    · rw [if_pos q, if_pos q]; exact e10 y i y0 y1 q.2.2.1 (by omega) hy
    · rw [if_neg q, if_neg q]
  have live : ∀ y, h_isA τ 6 y → y ≠ h → h_is σ y := fun y hy hyh => by
    obtain ⟨y0, y1, y2⟩ := hy
    have y1' : y < τ.2.1 8 3 := y1
    have y2' : τ.1 15 y = 0 := y2
    rw [c15 y hyh] at y2'
    exact ⟨y0, by omega, y2'⟩
  have dif : ∀ y, h_is σ y → ∃ i, 0 ≤ i ∧ i < 16 ∧ r_sgn σ 30 1 0 i ≠ r_sgn σ 9 30 y i := fun y hy => by
    apply Classical.byContradiction
    intro hno
    refine hnew.2.2 ⟨y, hy.1, hy.2.1, hy.2.2, fun i i0 i1 => ?_⟩
    apply Classical.byContradiction
    intro hne
    exact hno ⟨i, i0, i1, fun e => hne e.symm⟩
  refine KN_h hK (fun c hc => h1 c (by omega) (by omega) (by omega) (by omega) (by omega) (by omega)) (fun c j hc => h2 c j (by omega) (by omega) (by omega)) (fun i hi => g1 i (by omega) (by omega)) ?_ ⟨by rw [hE, g301], fun y y0 y1 => ?_⟩ (fun y hy => ?_) ⟨fun x y hx hy hxy => ?_, fun y y0 y1 => ?_⟩ hd
  · refine ⟨by rw [hE]; omega, ⟨fun r r0 r1 => ?_, fun i => ?_⟩, ⟨fun r r0 r1 => ?_, fun i => ?_⟩, fun i => ?_⟩
    · show 0 ≤ τ.1 11 r ∧ τ.1 11 r ≤ 16
      rw [c11]; unfold j_up; split
      · omega
      · exact hwh.2.1.1 r r0 r1
    · show -128 ≤ τ.1 10 i ∧ τ.1 10 i ≤ 127
      rw [c10]; unfold j_cpy; split
      · exact n3 _
      · exact hwh.2.1.2 i
    · show 0 ≤ τ.1 14 r ∧ τ.1 14 r ≤ 16
      by_cases q : r = h
      · rw [q]; exact c14h.1
      · rw [c14 r q]; exact hwh.2.2.1.1 r r0 r1
    · show -128 ≤ τ.1 13 i ∧ τ.1 13 i ≤ 127
      rw [h1 13 (by omega) (by omega) (by omega) (by omega) (by omega) (by omega)]; exact hwh.2.2.1.2 i
    · show τ.1 15 i = 0 ∨ τ.1 15 i = 1
      by_cases q : i = h
      · rw [q]; exact Or.inl c15h.1
      · rw [c15 i q]; exact hwh.2.2.2 i
  · rw [g301] at y1
    show τ.1 15 y = _ ∧ τ.1 11 y = _ ∧ τ.1 14 y = _ ∧ (∀ i, 0 ≤ i → i < g' (302 + 36 * y + 1) → τ.1 10 (y * 16 + i) = _) ∧ (∀ i, 0 ≤ i → i < g' (302 + 36 * y + 2) → τ.1 13 (y * 16 + i) = _)
    by_cases q : y = h
    · subst q
      refine ⟨by rw [c15h.1, c15h.2]; rfl, by rw [c11, j_upS, gL, n2], c14h.2.1, fun i i0 i1 => ?_, fun i i0 i1 => ?_⟩
      · rw [gL] at i1
        rw [e10h i i0 (by rw [n2]; exact i1), gN i i0 i1]; exact (n4 i i0 i1).1
      · rw [h1 13 (by omega) (by omega) (by omega) (by omega) (by omega) (by omega)]
        exact (c14h.2.2 i i0 (by rw [c14h.2.1]; exact i1)).1
    · have yE : y < σ.1 69 301 := by omega
      obtain ⟨z1, z2, z3, z4, z5⟩ := hK.2.1.2.1.2 y y0 yE
      have hb := hgh y y0 yE
      have hblk : ∀ k, 0 ≤ k → k < 36 → g' (302 + 36 * y + k) = σ.1 69 (302 + 36 * y + k) := fun k k0 k1 => g1 _ (by omega) (by omega)
      have b0 := hblk 0 (by omega) (by omega)
      rw [show 302 + 36 * y + 0 = 302 + 36 * y by omega] at b0
      have b1 := hblk 1 (by omega) (by omega)
      have b2 := hblk 2 (by omega) (by omega)
      rw [b0, b1, b2]
      refine ⟨by rw [c15 y q]; exact z1, by rw [c11, j_upN q]; exact z2, by rw [c14 y q]; exact z3, fun i i0 i1 => ?_, fun i i0 i1 => ?_⟩
      · have := hblk (3 + i) (by omega) (by omega)
        rw [show 302 + 36 * y + (3 + i) = 302 + 36 * y + 3 + i by omega] at this
        rw [this, e10 y i y0 (by omega) i0 (by omega) q]; exact z4 i i0 i1
      · have := hblk (3 + 16 + i) (by omega) (by omega)
        rw [show 302 + 36 * y + (3 + 16 + i) = 302 + 36 * y + 3 + 16 + i by omega] at this
        rw [this, h1 13 (by omega) (by omega) (by omega) (by omega) (by omega) (by omega)]; exact z5 i i0 i1
  · obtain ⟨y0, y1, y2⟩ := hy
    have y1' : y < σ.2.1 8 3 := y1
    refine ⟨y0, by show y < τ.2.1 8 3; omega, ?_⟩
    show τ.1 15 y = 0
    by_cases q : y = h
    · rw [q]; exact c15h.1
    · rw [c15 y q]; exact y2
  · have hx3 : x < 30 := by have : x < τ.2.1 8 3 := hx.2.1; omega
    have hy3 : y < 30 := by have : y < τ.2.1 8 3 := hy.2.1; omega
    by_cases qx : x = h
    · have qy : y ≠ h := fun e => hxy (by rw [qx, e])
      obtain ⟨i, i0, i1, i2⟩ := dif y (live y hy qy)
      exact ⟨i, i0, i1, by rw [qx, rsh i, rso y i hy.1 hy3 qy]; exact i2⟩
    · by_cases qy : y = h
      · obtain ⟨i, i0, i1, i2⟩ := dif x (live x hx qx)
        exact ⟨i, i0, i1, by rw [qy, rsh i, rso x i hx.1 hx3 qx]; exact fun e => i2 e.symm⟩
      · obtain ⟨i, i0, i1, i2⟩ := hK.2.2.1.1 x y (live x hx qx) (live y hy qy) hxy
        exact ⟨i, i0, i1, by rw [rso x i hx.1 hx3 qx, rso y i hy.1 hy3 qy]; exact i2⟩
  · rw [hE] at y1
    by_cases q : y = h
    · subst q
      refine ⟨fun i i0 i1 => ?_, fun i i0 i1 => ?_⟩
      · rw [c11, j_upS] at i1
        rw [e10h i i0 i1]; exact (n4 i i0 (by omega)).2
      · rw [h1 13 (by omega) (by omega) (by omega) (by omega) (by omega) (by omega)]; exact (c14h.2.2 i i0 i1).2
    · obtain ⟨u1, u2⟩ := hK.2.2.1.2.2.1 y y0 (by show y < σ.2.1 8 3; omega)
      have hc' : 0 ≤ σ.1 11 y ∧ σ.1 11 y ≤ 16 := hwh.2.1.1 y y0 (by omega)
      refine ⟨fun i i0 i1 => ?_, fun i i0 i1 => ?_⟩
      · rw [c11, j_upN q] at i1
        rw [e10 y i y0 (by omega) i0 (by omega) q]; exact u1 i i0 i1
      · rw [c14 y q] at i1
        rw [h1 13 (by omega) (by omega) (by omega) (by omega) (by omega) (by omega)]; exact u2 i i0 i1
theorem r_cpS_CM {σ : k_St} {x : Nat} (hx : x = 9 ∨ x = 12) {h L : Int} : CM σ (r_cpS σ x 30 h 0 L) := ⟨fun c hc => r_cpS_o (by omega) (by omega), fun _ _ _ => rfl, rfl⟩
/-- what the Model's name has, after the class's change -/
theorem CM_nm {n n' : Nat} {σ σs σ' : k_St} (hR : RR n σ) (hS : SV n σ n' σs) (hM : CM σs σ') : (0 ≤ σ'.2.1 68 7 ∧ σ'.2.1 68 7 ≤ 16) ∧ (∀ k, 0 ≤ k → k < σ'.2.1 68 7 → 32 ≤ σ'.1 71 k ∧ σ'.1 71 k ≤ 126) ∧ (d_tidy σ' ↔ d_tidy σ) ∧ (d_free σ' ↔ d_free σ) ∧ ∀ h, (d_is σ' h ↔ d_is σ h) := by
  obtain ⟨e1, e2⟩ := CM_e hS hM
  obtain ⟨n1, n2, n3, n4⟩ := hR.2.2.1
  have x7 : σ'.2.1 68 7 = σ.2.1 68 7 := e2 68 7 (by omega) (by omega)
  have x71 : σ'.1 71 = σ.1 71 := e1 71 (by omega) (by omega)
  have x69 : σ'.1 69 = σ.1 69 := e1 69 (by omega) (by omega)
  have hi : ∀ h, (d_is σ' h ↔ d_is σ h) := fun h => by unfold d_is; rw [x69]
  have ht : d_tidy σ' ↔ d_tidy σ := by unfold d_tidy; rw [x7, x71]
  refine ⟨by rw [x7]; exact n1, fun k k0 k1 => by rw [x7] at k1; rw [x71]; have := n4 k k0 k1; omega, ht, ?_, hi⟩
  unfold d_free d_same
  simp only [hi, ht, x7, x71, x69]
theorem RR_nmd {n : Nat} {σ : k_St} (hR : RR n σ) : (0 ≤ σ.2.1 68 7 ∧ σ.2.1 68 7 ≤ 16) ∧ ∀ k, 0 ≤ k → k < σ.2.1 68 7 → 32 ≤ σ.1 71 k ∧ σ.1 71 k ≤ 126 := by
  obtain ⟨n1, n2, n3, n4⟩ := hR.2.2.1
  exact ⟨n1, fun k k0 k1 => by have := n4 k k0 k1; omega⟩
theorem p_rename {G : j_G} {X : k_X} {n : Nat} {σ : k_St} (hR : RR n σ) {h : Int} (hh : -2147483648 ≤ h ∧ h ≤ 2147483647) : pr_ok G X mX11_rename mX12_rename [j_i h] n σ 16 1618 := by
  refine ⟨_, c_rename hR hh, fun v n' σ' hq => ?_⟩
  obtain ⟨r, hv, hC⟩ := hq
  have hno : (¬ h_is σ h ∧ r = -1 ∧ n' = n ∧ σ' = σ) ∨ (h_is σ h ∧ ¬ nh_new σ ∧ r = -3 ∧ n' = n ∧ σ' = σ) → 101 ≤ n' ∧ ∃ r : Int, v = some (j_i r) ∧ k_run G X mX12_rename (.ref 68 :: [j_i h]) n' σ' 0 0 (fun v2 n2 σ2 => v2 = some (j_i r) ∧ RR n2 σ2) := fun hc => by
    have en : n' = n := by rcases hc with q | q; exact q.2.2.1; exact q.2.2.2.1
    have es : σ' = σ := by rcases hc with q | q; exact q.2.2.2; exact q.2.2.2.2
    subst en; subst es
    obtain ⟨a1, a2, a3, a4⟩ := RR_md hR
    obtain ⟨b1, b2⟩ := RR_nmd hR
    refine ⟨RR_n hR, r, hv, k_runw (fun v2 n2 σ2 q => ?_) (d_rename (RR_n hR) a1 a2 a3 a4 b1 b2 hh)⟩
    rcases q with ⟨g1, g2, g3, g4⟩ | ⟨g0, g1, g2, g3, g4⟩ | ⟨g0, g1, _⟩
    · subst g3; subst g4
      rcases hc with c | c
      · exact ⟨by rw [g2, c.2.1], hR⟩
      · exact absurd ((RK_h hR h).mpr c.1) g1
    · subst g3; subst g4
      rcases hc with c | c
      · exact absurd ((RK_h hR h).mp g0) c.1
      · exact ⟨by rw [g2, c.2.2.1], hR⟩
    · rcases hc with c | c
      · exact absurd ((RK_h hR h).mp g0) c.1
      · exact absurd ((new_free hR).mpr g1) c.2.1
  rcases hC with q | q | ⟨q1, q2, q3, σs, hS, hσ⟩
  · exact hno (Or.inl q)
  · exact hno (Or.inr q)
  · have hM : CM σs σ' := by rw [hσ]; exact r_cpS_CM (Or.inl rfl)
    obtain ⟨a1, a2, a3, a4⟩ := CM_md hR hS hM
    obtain ⟨b1, b2, b3, b4, b5⟩ := CM_nm hR hS hM
    obtain ⟨e1, e2⟩ := CM_e hS hM
    obtain ⟨s1, s2, s3⟩ := SV_e hS
    refine ⟨s3, r, hv, k_runw (fun v2 n2 σ2 q => ?_) (d_rename s3 a1 a2 a3 a4 b1 b2 hh)⟩
    rcases q with ⟨g1, _⟩ | ⟨_, g1, _⟩ | ⟨g0, g1, g2, g3, g4⟩
    · exact absurd ((b5 h).mpr ((RK_h hR h).mpr q1)) g1
    · exact absurd (b4.mpr ((new_free hR).mp q2)) g1
    · subst g3
      refine ⟨by rw [g2, q3], ?_⟩
      rw [g4]
      refine mut_RR hR hS hM ?_
      rw [e1 69 (by omega) (by omega), e1 71 (by omega) (by omega), e2 68 7 (by omega) (by omega)]
      have hK := hR.1
      obtain ⟨⟨_, hE9, _⟩, hgh, _⟩ := KR_rg hK.1 hK.2.1
      have hE0 : σ.2.1 8 3 = σ.1 69 301 := hK.2.1.2.1.1
      have hh1 : h < σ.1 69 301 := by rw [← hE0]; exact q1.2.1
      have hh0 := q1.1
      obtain ⟨y1, y2, y3, y4⟩ := KR_h hK hh0 hh1
      have yb := hgh h hh0 hh1
      have hlive := (RK_h hR h).mpr q1
      obtain ⟨m1, m2⟩ := RR_nmd hR
      refine KN_own (h := h) (E := σ.2.1 8 3) hR q2 hh0 (by omega) (by rw [hσ]; exact s2 8 3 (by omega) (by omega)) (Or.inl ⟨rfl, q1.2.1⟩) (fun c c0 c1 c2 c3 c4 c5 => by rw [hσ, r_cpS_o (by omega) (by omega)]; exact s1 c (by omega)) ?_ ?_ (fun y _ => by rw [hσ, r_cpS_o (by omega) (by omega), s1 14 (by omega)]) ?_ (fun y _ => by rw [hσ, r_cpS_o (by omega) (by omega), s1 15 (by omega)]) ?_ (fun c j c0 c1 _ => by rw [hσ]; exact s2 c j (by omega) (by omega)) (fun i i0 i1 => ?_) ?_ ?_ (fun k k0 k1 => ?_) (d_nt_rg (j_up_rg hK.2.2.2 (by omega)) m2)
      · rw [hσ, show (10 : Nat) = 9 + 1 by rfl, r_cpS_1, s1 (30 + 1) (by omega), s1 (9 + 1) (by omega), s1 32 (by omega)]
      · rw [hσ, show (11 : Nat) = 9 + 2 by rfl, r_cpS_2, s1 (9 + 2) (by omega), s1 32 (by omega)]
      · have e14 : σ'.1 14 = σ.1 14 := by rw [hσ, r_cpS_o (by omega) (by omega), s1 14 (by omega)]
        rw [e14, y2]
        have hr := (hK.2.2.1.2.2.1 h hh0 (by show h < σ.2.1 8 3; omega)).2
        refine ⟨yb.2.1, by rw [d_nt_o (by omega), j_upN (by omega)], fun i i0 i1 => ⟨by rw [d_nt_o (by omega), j_upN (by omega)]; exact y4 i i0 i1, hr i i0 (by show i < σ.1 14 h; rw [y2]; exact i1)⟩⟩
      · exact ⟨by rw [hσ, r_cpS_o (by omega) (by omega), s1 15 (by omega)]; exact q1.2.2, by rw [d_nt_o (by omega), j_upN (by omega)]; exact hlive.2.2⟩
      · rw [d_nt_o (by omega), j_upN (by omega)]
      · rw [d_nt_o (by omega), j_upN (by omega)]; exact hE0.symm
      · rw [d_nt_o (by omega), j_upS]
      · exact d_nt_i k0 (by omega) k1
