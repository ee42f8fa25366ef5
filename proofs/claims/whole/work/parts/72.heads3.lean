theorem h_add_CM {σ : k_St} : CM σ (h_add σ 30) := by
  unfold h_add
  exact ⟨fun c hc => by rw [k_I1, k_AN (by omega), k_AN (by omega), r_cpS_o (by omega) (by omega)], fun c j hc => by rw [k_IN (by omega)]; rfl, rfl⟩
theorem p_head {G : j_G} {X : k_X} {n : Nat} {σ : k_St} (hR : RR n σ) : pr_ok G X mX11_head mX12_head [] n σ 16 1618 := by
  have hK := hR.1
  have hE0 : σ.2.1 8 3 = σ.1 69 301 := hK.2.1.2.1.1
  refine ⟨_, c_head hR, fun v n' σ' hq => ?_⟩
  obtain ⟨r, hv, hC⟩ := hq
  have hno : (¬ nh_new σ ∧ r = -3 ∧ n' = n ∧ σ' = σ) ∨ (nh_new σ ∧ 30 ≤ σ.2.1 8 3 ∧ r = -4 ∧ n' = n ∧ σ' = σ) → 101 ≤ n' ∧ ∃ r : Int, v = some (j_i r) ∧ k_run G X mX12_head (.ref 68 :: []) n' σ' 0 0 (fun v2 n2 σ2 => v2 = some (j_i r) ∧ RR n2 σ2) := fun hc => by
    have en : n' = n := by rcases hc with q | q; exact q.2.2.1; exact q.2.2.2.1
    have es : σ' = σ := by rcases hc with q | q; exact q.2.2.2; exact q.2.2.2.2
    subst en; subst es
    obtain ⟨a1, a2, a3, a4⟩ := RR_md hR
    obtain ⟨b1, b2⟩ := RR_nmd hR
    refine ⟨RR_n hR, r, hv, k_runw (fun v2 n2 σ2 q => ?_) (d_head (RR_n hR) a1 a2 a3 a4 b1 b2)⟩
    rcases q with ⟨g1, g2, g3, g4⟩ | ⟨g0, g1, g2, g3, g4⟩ | ⟨g0, g1, _⟩
    · subst g3; subst g4
      rcases hc with c | c
      · exact ⟨by rw [g2, c.2.1], hR⟩
      · exact absurd ((new_free hR).mp c.1) g1
    · subst g3; subst g4
      rcases hc with c | c
      · exact absurd ((new_free hR).mpr g0) c.1
      · exact ⟨by rw [g2, c.2.2.1], hR⟩
    · rcases hc with c | c
      · exact absurd ((new_free hR).mpr g0) c.1
      · have := c.2.1; omega
  rcases hC with q | q | ⟨q1, q2, q3, σs, hS, hσ⟩
  · exact hno (Or.inl q)
  · exact hno (Or.inr q)
  · have hM : CM σs σ' := by rw [hσ]; exact h_add_CM
    obtain ⟨a1, a2, a3, a4⟩ := CM_md hR hS hM
    obtain ⟨b1, b2, b3, b4, b5⟩ := CM_nm hR hS hM
    obtain ⟨e1, e2⟩ := CM_e hS hM
    obtain ⟨s1, s2, s3⟩ := SV_e hS
    have x69 : σ'.1 69 = σ.1 69 := e1 69 (by omega) (by omega)
    refine ⟨s3, r, hv, k_runw (fun v2 n2 σ2 q => ?_) (d_head s3 a1 a2 a3 a4 b1 b2)⟩
    rcases q with ⟨g1, _⟩ | ⟨_, g1, _⟩ | ⟨g0, g1, g2, g3, g4⟩
    · exact absurd (b4.mpr ((new_free hR).mp q1)) g1
    · rw [x69] at g1; omega
    · subst g3
      rw [x69] at g1 g2 g4
      rw [e1 71 (by omega) (by omega), e2 68 7 (by omega) (by omega)] at g4
      refine ⟨by rw [g2, q3, hE0], ?_⟩
      rw [g4]
      refine mut_RR hR hS hM ?_
      obtain ⟨⟨_, hE9, _⟩, hgh, _⟩ := KR_rg hK.1 hK.2.1
      obtain ⟨m1, m2⟩ := RR_nmd hR
      have t3 : σs.2.1 8 3 = σ.1 69 301 := by rw [s2 8 3 (by omega) (by omega)]; exact hE0
      generalize hH : σ.1 69 301 = H at *
      refine KN_own (h := H) (E := H + 1) hR q1 hE9.1 (by omega) (by rw [hσ]; unfold h_add; rw [k_II, t3]) (Or.inr ⟨by omega, by omega⟩) (fun c c0 c1 c2 c3 c4 c5 => by rw [hσ]; unfold h_add; rw [k_I1, k_AN c5, k_AN c4, r_cpS_o (by omega) (by omega)]; exact s1 c (by omega)) ?_ ?_ (fun y hy => ?_) ⟨?_, ?_, fun i i0 i1 => ?_⟩ (fun y hy => ?_) ⟨?_, ?_⟩ (fun c j c0 c1 hj => by rw [hσ]; unfold h_add; rw [k_IN hj]; exact s2 c j (by omega) (by omega)) (fun i i0 i1 => ?_) ?_ ?_ (fun k k0 k1 => ?_) (d_nt_rg (j_up_rg (j_up_rg (j_up_rg (j_up_rg hK.2.2.2 (by omega)) (by omega)) (by omega)) (by omega)) m2)
      · rw [hσ]; unfold h_add; rw [k_I1, k_AN (by omega), k_AN (by omega), show (10 : Nat) = 9 + 1 by rfl, r_cpS_1, s1 (30 + 1) (by omega), s1 (9 + 1) (by omega), s1 (30 + 2) (by omega), t3]
      · rw [hσ]; unfold h_add; rw [k_I1, k_AN (by omega), k_AN (by omega), show (11 : Nat) = 9 + 2 by rfl, r_cpS_2, s1 (9 + 2) (by omega), s1 (30 + 2) (by omega), t3]
      · rw [hσ]; unfold h_add; rw [k_I1, k_AN (by omega), k_AA, t3, j_upN hy, s1 14 (by omega)]
      · rw [hσ]; unfold h_add; rw [k_I1, k_AN (by omega), k_AA, t3, j_upS]; omega
      · rw [hσ]; unfold h_add; rw [k_I1, k_AN (by omega), k_AA, t3, j_upS, d_nt_o (by omega), j_upS]
      · rw [hσ] at i1; unfold h_add at i1; rw [k_I1, k_AN (by omega), k_AA, t3, j_upS] at i1; omega
      · rw [hσ]; unfold h_add; rw [k_I1, k_AA, t3, j_upN hy, s1 15 (by omega)]
      · rw [hσ]; unfold h_add; rw [k_I1, k_AA, t3, j_upS]
      · rw [d_nt_o (by omega), j_upN (by omega), j_upN (by omega), j_upS]
      · rw [d_nt_o (by omega), j_upN (by omega), j_upN (by omega), j_upN (by omega), j_upN (by omega)]
      · rw [d_nt_o (by omega), j_upN (by omega), j_upN (by omega), j_upN (by omega), j_upS]
      · rw [d_nt_o (by omega), j_upN (by omega), j_upS]
      · exact d_nt_i k0 (by omega) k1
/-- a row of sorting signs becomes THE NAME -/
theorem KN_srt {n : Nat} {σ τ : k_St} {h : Int} (hR : RR n σ) (hh : h_is σ h) (h1 : ∀ c, 6 ≤ c → c ≤ 21 → c ≠ 13 → c ≠ 14 → τ.1 c = σ.1 c) (c13 : τ.1 13 = j_cpy (σ.1 31) (σ.1 13) (0 * 16) (h * 16) (σ.1 32 0)) (c14 : τ.1 14 = j_up (σ.1 14) h (σ.1 32 0)) (h2 : ∀ c j, 6 ≤ c → c ≤ 21 → τ.2.1 c j = σ.2.1 c j) : KN τ (d_nt (j_up (σ.1 69) (302 + 36 * h + 2) (σ.2.1 68 7)) (σ.1 71) (302 + 36 * h + 3 + 16) (σ.2.1 68 7) 16) := by
  have hK := hR.1
  obtain ⟨n1, n2, n3, n4⟩ := hR.2.2.1
  obtain ⟨m1, m2⟩ := RR_nmd hR
  obtain ⟨⟨_, hE9, hM9⟩, hgh, _⟩ := KR_rg hK.1 hK.2.1
  have hE0 : σ.2.1 8 3 = σ.1 69 301 := hK.2.1.2.1.1
  have hwh : h_wf σ 8 := hK.1.2.1
  have h0 := hh.1
  have hE : h < σ.1 69 301 := by rw [← hE0]; exact hh.2.1
  have e13 : ∀ y i, 0 ≤ y → y < 30 → 0 ≤ i → i < 16 → y ≠ h → τ.1 13 (y * 16 + i) = σ.1 13 (y * 16 + i) := fun y i y0 y1 i0 i1 hy => by
    rw [c13]; unfold j_cpy; rw [if_neg (by omega)]
  have e13h : ∀ i, 0 ≤ i → i < σ.1 32 0 → τ.1 13 (h * 16 + i) = σ.1 31 i := fun i i0 i1 => by
    rw [c13]; unfold j_cpy; rw [if_pos (by omega), show (0 : Int) * 16 + (h * 16 + i - h * 16) = i by omega]
  have lv : h_isA τ 6 = h_isA σ 6 := by funext x; unfold h_isA; rw [h1 _ (by omega) (by omega) (by omega) (by omega), h2 _ _ (by omega) (by omega)]
  refine KN_h hK (fun c hc => h1 c (by omega) (by omega) (by omega) (by omega)) (fun c j hc => h2 c j (by omega) (by omega)) (fun i hi => by rw [d_nt_o (by omega), j_upN (by omega)]) ?_ ⟨by rw [h2 _ _ (by omega) (by omega), d_nt_o (by omega), j_upN (by omega)]; exact hE0, fun y y0 y1 => ?_⟩ (fun y hy => by rw [lv]; exact hy) ⟨fun x y hx hy hxy => ?_, fun y y0 y1 => ?_⟩ (d_nt_rg (j_up_rg hK.2.2.2 (by omega)) m2)
  · refine ⟨by rw [h2 _ _ (by omega) (by omega)]; exact hwh.1, r_wf_congr (h1 _ (by omega) (by omega) (by omega) (by omega)) (h1 _ (by omega) (by omega) (by omega) (by omega)) hwh.2.1, ⟨fun r r0 r1 => ?_, fun i => ?_⟩, fun i => ?_⟩
    · show 0 ≤ τ.1 14 r ∧ τ.1 14 r ≤ 16
      rw [c14]; unfold j_up; split
      · omega
      · exact hwh.2.2.1.1 r r0 r1
    · show -128 ≤ τ.1 13 i ∧ τ.1 13 i ≤ 127
      rw [c13]; unfold j_cpy; split
      · exact n3 _
      · exact hwh.2.2.1.2 i
    · rw [h1 _ (by omega) (by omega) (by omega) (by omega)]; exact hwh.2.2.2 i
  · rw [d_nt_o (by omega), j_upN (by omega)] at y1
    obtain ⟨z1, z2, z3, z4, z5⟩ := hK.2.1.2.1.2 y y0 y1
    have hb := hgh y y0 y1
    show τ.1 15 y = _ ∧ τ.1 11 y = _ ∧ τ.1 14 y = _ ∧ (∀ i, 0 ≤ i → i < _ → τ.1 10 (y * 16 + i) = _) ∧ (∀ i, 0 ≤ i → i < _ → τ.1 13 (y * 16 + i) = _)
    rw [h1 15 (by omega) (by omega) (by omega) (by omega), h1 11 (by omega) (by omega) (by omega) (by omega), h1 10 (by omega) (by omega) (by omega) (by omega), c14]
    by_cases q : y = h
    · subst q
      rw [j_upS]
      have k1 : d_nt (j_up (σ.1 69) (302 + 36 * y + 2) (σ.2.1 68 7)) (σ.1 71) (302 + 36 * y + 3 + 16) (σ.2.1 68 7) 16 (302 + 36 * y + 1) = σ.1 69 (302 + 36 * y + 1) := by rw [d_nt_o (by omega), j_upN (by omega)]
      have k2 : d_nt (j_up (σ.1 69) (302 + 36 * y + 2) (σ.2.1 68 7)) (σ.1 71) (302 + 36 * y + 3 + 16) (σ.2.1 68 7) 16 (302 + 36 * y + 2) = σ.2.1 68 7 := by rw [d_nt_o (by omega), j_upS]
      rw [k1, k2]
      refine ⟨by rw [d_nt_o (by omega), j_upN (by omega)]; exact z1, z2, n2, fun i i0 i1 => by rw [d_nt_o (by omega), j_upN (by omega)]; exact z4 i i0 i1, fun i i0 i1 => ?_⟩
      rw [d_nt_i i0 (by omega) i1, e13h i i0 (by omega)]; exact (n4 i i0 i1).1
    · rw [j_upN q]
      have hblk : ∀ k, 0 ≤ k → k < 36 → d_nt (j_up (σ.1 69) (302 + 36 * h + 2) (σ.2.1 68 7)) (σ.1 71) (302 + 36 * h + 3 + 16) (σ.2.1 68 7) 16 (302 + 36 * y + k) = σ.1 69 (302 + 36 * y + k) := fun k k0 k1 => by rw [d_nt_o (by omega), j_upN (by omega)]
      have b0 := hblk 0 (by omega) (by omega)
      rw [show 302 + 36 * y + 0 = 302 + 36 * y by omega] at b0
      rw [b0, hblk 1 (by omega) (by omega), hblk 2 (by omega) (by omega)]
      refine ⟨z1, z2, z3, fun i i0 i1 => ?_, fun i i0 i1 => ?_⟩
      · have := hblk (3 + i) (by omega) (by omega)
        rw [show 302 + 36 * y + (3 + i) = 302 + 36 * y + 3 + i by omega] at this
        rw [this]; exact z4 i i0 i1
      · have := hblk (3 + 16 + i) (by omega) (by omega)
        rw [show 302 + 36 * y + (3 + 16 + i) = 302 + 36 * y + 3 + 16 + i by omega] at this
        rw [this, e13 y i y0 (by omega) i0 (by omega) q]; exact z5 i i0 i1
  · rw [lv] at hx hy
    obtain ⟨i, i0, i1, i2⟩ := hK.2.2.1.1 x y hx hy hxy
    exact ⟨i, i0, i1, by unfold r_sgn at i2 ⊢; rw [h1 (9 + 1) (by omega) (by omega) (by omega) (by omega), h1 (9 + 2) (by omega) (by omega) (by omega) (by omega)]; exact i2⟩
  · rw [h2 _ _ (by omega) (by omega)] at y1
    obtain ⟨u1, u2⟩ := hK.2.2.1.2.2.1 y y0 y1
    rw [h1 10 (by omega) (by omega) (by omega) (by omega), h1 11 (by omega) (by omega) (by omega) (by omega), c14]
    refine ⟨u1, fun i i0 i1 => ?_⟩
    by_cases q : y = h
    · subst q
      rw [j_upS] at i1
      rw [e13h i i0 i1]; exact (n4 i i0 (by omega)).2
    · rw [j_upN q] at i1
      have hc' : 0 ≤ σ.1 14 y ∧ σ.1 14 y ≤ 16 := hwh.2.2.1.1 y y0 (by omega)
      rw [e13 y i y0 (by omega) i0 (by omega) q]; exact u2 i i0 i1
theorem p_sortAs {G : j_G} {X : k_X} {n : Nat} {σ : k_St} (hR : RR n σ) {h : Int} (hh : -2147483648 ≤ h ∧ h ≤ 2147483647) : pr_ok G X mX11_sortAs mX12_sortAs [j_i h] n σ 16 1618 := by
  refine ⟨_, c_sortAs hR hh, fun v n' σ' hq => ?_⟩
  obtain ⟨r, hv, hC⟩ := hq
  have hno : (¬ h_is σ h ∧ r = -1 ∧ n' = n ∧ σ' = σ) ∨ (h_is σ h ∧ ¬ r_tidy σ 30 1 0 ∧ r = -3 ∧ n' = n ∧ σ' = σ) → 101 ≤ n' ∧ ∃ r : Int, v = some (j_i r) ∧ k_run G X mX12_sortAs (.ref 68 :: [j_i h]) n' σ' 0 0 (fun v2 n2 σ2 => v2 = some (j_i r) ∧ RR n2 σ2) := fun hc => by
    have en : n' = n := by rcases hc with q | q; exact q.2.2.1; exact q.2.2.2.1
    have es : σ' = σ := by rcases hc with q | q; exact q.2.2.2; exact q.2.2.2.2
    subst en; subst es
    obtain ⟨a1, a2, a3, a4⟩ := RR_md hR
    obtain ⟨b1, b2⟩ := RR_nmd hR
    refine ⟨RR_n hR, r, hv, k_runw (fun v2 n2 σ2 q => ?_) (d_sortAs (RR_n hR) a1 a2 a3 a4 b1 b2 hh)⟩
    rcases q with ⟨g1, g2, g3, g4⟩ | ⟨g0, g1, g2, g3, g4⟩ | ⟨g0, g1, _⟩
    · subst g3; subst g4
      rcases hc with c | c
      · exact ⟨by rw [g2, c.2.1], hR⟩
      · exact absurd ((RK_h hR h).mpr c.1) g1
    · subst g3; subst g4
      rcases hc with c | c
      · exact absurd ((RK_h hR h).mp g0) c.1
      · exact ⟨by rw [g2, c.2.2.1], hR⟩
    · rcases hc with c | c
      · exact absurd ((RK_h hR h).mp g0) c.1
      · exact absurd ((tidy_eq hR.2.2.1).mpr g1) c.2.1
  rcases hC with q | q | ⟨q1, q2, q3, σs, hS, hσ⟩
  · exact hno (Or.inl q)
  · exact hno (Or.inr q)
  · have hM : CM σs σ' := by rw [hσ]; exact r_cpS_CM (Or.inr rfl)
    obtain ⟨a1, a2, a3, a4⟩ := CM_md hR hS hM
    obtain ⟨b1, b2, b3, b4, b5⟩ := CM_nm hR hS hM
    obtain ⟨e1, e2⟩ := CM_e hS hM
    obtain ⟨s1, s2, s3⟩ := SV_e hS
    refine ⟨s3, r, hv, k_runw (fun v2 n2 σ2 q => ?_) (d_sortAs s3 a1 a2 a3 a4 b1 b2 hh)⟩
    rcases q with ⟨g1, _⟩ | ⟨_, g1, _⟩ | ⟨g0, g1, g2, g3, g4⟩
    · exact absurd ((b5 h).mpr ((RK_h hR h).mpr q1)) g1
    · exact absurd (b3.mpr ((tidy_eq hR.2.2.1).mp q2)) g1
    · subst g3
      refine ⟨by rw [g2, q3], ?_⟩
      rw [g4]
      refine mut_RR hR hS hM ?_
      rw [e1 69 (by omega) (by omega), e1 71 (by omega) (by omega), e2 68 7 (by omega) (by omega)]
      refine KN_srt hR q1 (fun c c0 c1 c2 c3 => by rw [hσ, r_cpS_o (by omega) (by omega)]; exact s1 c (by omega)) ?_ ?_ (fun c j c0 c1 => by rw [hσ]; exact s2 c j (by omega) (by omega))
      · rw [hσ, show (13 : Nat) = 12 + 1 by rfl, r_cpS_1, s1 (30 + 1) (by omega), s1 (12 + 1) (by omega), s1 32 (by omega)]
      · rw [hσ, show (14 : Nat) = 12 + 2 by rfl, r_cpS_2, s1 (12 + 2) (by omega), s1 32 (by omega)]
