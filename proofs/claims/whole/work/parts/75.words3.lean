theorem RR_gg {n : Nat} {σ : k_St} (hR : RR n σ) : ∀ m, 0 ≤ m → m < σ.1 69 1382 → 0 ≤ σ.1 69 (1383 + 7 * m + 2) ∧ σ.1 69 (1383 + 7 * m + 2) ≤ 300 := fun m m0 m1 => ((KR_rg hR.1.1 hR.1.2.1).2.2 m m0 m1).2.2.1
theorem f_map_y {F : Int → Int → Int} {g : Int → Int} {k i : Int} (h0 : 0 ≤ i) (h1 : i < k) : f_map F g k i = F i (g i) := if_pos ⟨h0, h1⟩
theorem kp_ins_CM {σ : k_St} {i w : Int} : CM σ (kp_ins σ i w) := by
  unfold kp_ins
  exact ⟨fun c hc => by rw [k_AN (by omega), k_I1, k_AN (by omega)], fun c j hc => by show (k_sI _ 6 1 _).2.1 c j = _; rw [k_IN (by omega)]; rfl, rfl⟩
theorem kp_rem_CM {σ : k_St} {i : Int} : CM σ (kp_rem σ i) := by
  unfold kp_rem
  exact ⟨fun c hc => by rw [k_AN (by omega), k_I1, k_AN (by omega)], fun c j hc => by show (k_sI _ 6 1 _).2.1 c j = _; rw [k_IN (by omega)]; rfl, rfl⟩
theorem p_put {G : j_G} {X : k_X} {n : Nat} {σ : k_St} (hR : RR n σ) {i w : Int} (hi : -2147483648 ≤ i ∧ i ≤ 2147483647) (hw : -2147483648 ≤ w ∧ w ≤ 2147483647) : pr_ok G X mX11_put mX12_put [j_i i, j_i w] n σ 16 1618 := by
  have hK := hR.1
  have hW0 : σ.2.1 6 1 = σ.1 69 0 := hK.2.1.1.1
  have hM0 : σ.2.1 16 5 = σ.1 69 1382 := hK.2.1.2.2.1
  refine ⟨_, c_put hR hi hw, fun v n' σ' hq => ?_⟩
  obtain ⟨r, hv, hC⟩ := hq
  rcases hC with ⟨q1, q2, rfl, rfl⟩ | ⟨q1, q2, q3, rfl, rfl⟩ | ⟨q1, q2, q3, σs, hS, hσ⟩
  · obtain ⟨a1, a2, a3, a4⟩ := RR_md hR
    refine ⟨RR_n hR, r, hv, k_runw (fun v2 n2 σ2 p => ?_) (e_put (RR_n hR) a1 a2 a3 a4 (RR_gg hR) hi hw)⟩
    rcases p with ⟨g1, g2, g3, g4⟩ | ⟨g1, _⟩ | ⟨g1, _⟩
    · subst g3; subst g4; exact ⟨by rw [g2, q2], hR⟩
    · omega
    · omega
  · obtain ⟨a1, a2, a3, a4⟩ := RR_md hR
    refine ⟨RR_n hR, r, hv, k_runw (fun v2 n2 σ2 p => ?_) (e_put (RR_n hR) a1 a2 a3 a4 (RR_gg hR) hi hw)⟩
    rcases p with ⟨g1, _⟩ | ⟨g0, g1, g2, g3, g4⟩ | ⟨g0, g1, _⟩
    · omega
    · subst g3; subst g4; exact ⟨by rw [g2, q3], hR⟩
    · omega
  · have hM : CM σs σ' := by rw [hσ]; exact kp_ins_CM
    obtain ⟨a1, a2, a3, a4⟩ := CM_md hR hS hM
    obtain ⟨e1, e2⟩ := CM_e hS hM
    obtain ⟨s1, s2, s3⟩ := SV_e hS
    have x69 : σ'.1 69 = σ.1 69 := e1 69 (by omega) (by omega)
    refine ⟨s3, r, hv, k_runw (fun v2 n2 σ2 p => ?_) (e_put s3 a1 a2 a3 a4 (by rw [x69]; exact RR_gg hR) hi hw)⟩
    rw [x69] at p
    rcases p with ⟨g1, _⟩ | ⟨_, g1, _⟩ | ⟨g0, g1, g2, g3, g4⟩
    · omega
    · omega
    · subst g3
      refine ⟨by rw [g2, q3, hW0], ?_⟩
      rw [g4]
      refine mut_RR hR hS hM ?_
      obtain ⟨⟨hgW, hE9, hM9⟩, _, hgm⟩ := KR_rg hK.1 hK.2.1
      have t1 : σs.2.1 6 1 = σ.1 69 0 := by rw [s2 6 1 (by omega) (by omega)]; exact hW0
      have t5 : σs.2.1 16 5 = σ.1 69 1382 := by rw [s2 16 5 (by omega) (by omega)]; exact hM0
      have c6 : σ'.2.1 6 1 = σ.1 69 0 + 1 := by rw [hσ]; unfold kp_ins; show (k_sI _ 6 1 _).2.1 6 1 = _; rw [k_II, t1]
      have c7 : σ'.1 7 = j_up (j_cpy (σ.1 7) (σ.1 7) i (i + 1) (σ.1 69 0 - i)) i w := by rw [hσ]; unfold kp_ins; rw [k_AN (by omega), k_I1, k_AA, s1 7 (by omega), t1]
      have c18 : σ'.1 18 = f_map (f_shB i 1) (σ.1 18) (σ.1 69 1382) := by rw [hσ]; unfold kp_ins; rw [k_AA, s1 18 (by omega), t5]
      have ef : ∀ j, 301 ≤ j → (j_up (j_up (j_cpy (σ.1 69) (σ.1 69) (i + 1) (i + 2) (σ.1 69 0 - i)) (1 + i) w) 0 (σ.1 69 0 + 1)) j = σ.1 69 j := fun j j0 => by rw [j_upN (by omega), j_upN (by omega)]; unfold j_cpy; rw [if_neg (by omega)]
      refine KN_w hK (fun c c0 c1 c2 => by rw [hσ]; unfold kp_ins; rw [k_AN c2, k_I1, k_AN (by omega)]; exact s1 c (by omega)) (fun c j c0 c1 hj => by rw [hσ]; unfold kp_ins; show (k_sI _ 6 1 _).2.1 c j = _; rw [k_IN hj]; exact s2 c j (by omega) (by omega)) ⟨by rw [c6]; omega, by rw [c6, d_gm_o (by omega), j_upS], fun k k0 k1 => ?_⟩ (fun j j0 j1 j2 => by rw [d_gm_o (by omega)]; exact ef j j0) (fun m m0 m1 => ?_) (fun j => ?_)
      · rw [d_gm_o (by omega), j_upS] at k1
        rw [d_gm_o (by omega), j_upN (by omega), c7]
        by_cases q : k = i
        · rw [q, j_upS, j_upS]
        · rw [j_upN q, j_upN (by omega)]
          unfold j_cpy
          by_cases z : i < k
          · rw [if_pos (by omega), if_pos (by omega), hK.2.1.1.2 (i + (k - (i + 1))) (by omega) (by omega), show i + 1 + (1 + k - (i + 2)) = 1 + (i + (k - (i + 1))) by omega]
          · rw [if_neg (by omega), if_neg (by omega)]; exact hK.2.1.1.2 k k0 (by omega)
      · rw [d_gm_g m0 m1, ef _ (by omega), c18, f_map_y m0 m1, c6]
        obtain ⟨z1, z2, z3, _⟩ := KR_m hK m0 m1
        have hgp : σ.1 18 m ≤ σ.2.1 6 1 := hK.2.2.1.2.2.2 m m0 (by show m < σ.2.1 16 5; omega)
        have hg9 := (hgm m m0 m1).2.2.1
        rw [z2] at hgp ⊢
        unfold f_shB
        refine ⟨rfl, ?_⟩
        show 0 ≤ (if i < _ then _ else _) ∧ (if i < _ then _ else _) ≤ _
        split <;> omega
      · have hh : d_rg (j_up (j_up (j_cpy (σ.1 69) (σ.1 69) (i + 1) (i + 2) (σ.1 69 0 - i)) (1 + i) w) 0 (σ.1 69 0 + 1)) := by
          refine j_up_rg (j_up_rg (fun j => ?_) (by omega)) (by omega)
          unfold j_cpy; split
          · exact hK.2.2.2 _
          · exact hK.2.2.2 _
        unfold d_gm; split
        · rename_i hc
          obtain ⟨u1, u2, u3⟩ := hc
          have hm : ∃ m, 0 ≤ m ∧ m < σ.1 69 1382 ∧ j = 1383 + 7 * m + 2 := ⟨(j - 1385) / 7, by omega, by omega, by omega⟩
          obtain ⟨m, m0, m1, rfl⟩ := hm
          rw [ef _ (by omega)]
          have := RR_gg hR m m0 m1
          show -128 ≤ (if i < _ then _ else _) ∧ (if i < _ then _ else _) ≤ 9999
          split <;> omega
        · exact hh j
theorem p_take {G : j_G} {X : k_X} {n : Nat} {σ : k_St} (hR : RR n σ) {i : Int} (hi : -2147483648 ≤ i ∧ i ≤ 2147483647) : pr_ok G X mX11_take mX12_take [j_i i] n σ 16 1618 := by
  have hK := hR.1
  have hW0 : σ.2.1 6 1 = σ.1 69 0 := hK.2.1.1.1
  have hM0 : σ.2.1 16 5 = σ.1 69 1382 := hK.2.1.2.2.1
  refine ⟨_, c_take hR hi, fun v n' σ' hq => ?_⟩
  obtain ⟨r, hv, hC⟩ := hq
  rcases hC with ⟨q1, q2, rfl, rfl⟩ | ⟨q1, q3, σs, hS, hσ⟩
  · obtain ⟨a1, a2, a3, a4⟩ := RR_md hR
    refine ⟨RR_n hR, r, hv, k_runw (fun v2 n2 σ2 p => ?_) (e_take (RR_n hR) a1 a2 a3 a4 (RR_gg hR) hi)⟩
    rcases p with ⟨g1, g2, g3, g4⟩ | ⟨g1, _⟩
    · subst g3; subst g4; exact ⟨by rw [g2, q2], hR⟩
    · omega
  · have hM : CM σs σ' := by rw [hσ]; exact kp_rem_CM
    obtain ⟨a1, a2, a3, a4⟩ := CM_md hR hS hM
    obtain ⟨e1, e2⟩ := CM_e hS hM
    obtain ⟨s1, s2, s3⟩ := SV_e hS
    have x69 : σ'.1 69 = σ.1 69 := e1 69 (by omega) (by omega)
    refine ⟨s3, r, hv, k_runw (fun v2 n2 σ2 p => ?_) (e_take s3 a1 a2 a3 a4 (by rw [x69]; exact RR_gg hR) hi)⟩
    rw [x69] at p
    rcases p with ⟨g1, _⟩ | ⟨g0, g2, g3, g4⟩
    · omega
    · subst g3
      refine ⟨by rw [g2, q3, hK.2.1.1.2 i g0.1 g0.2], ?_⟩
      rw [g4]
      refine mut_RR hR hS hM ?_
      obtain ⟨⟨hgW, hE9, hM9⟩, _, hgm⟩ := KR_rg hK.1 hK.2.1
      have t1 : σs.2.1 6 1 = σ.1 69 0 := by rw [s2 6 1 (by omega) (by omega)]; exact hW0
      have t5 : σs.2.1 16 5 = σ.1 69 1382 := by rw [s2 16 5 (by omega) (by omega)]; exact hM0
      have c6 : σ'.2.1 6 1 = σ.1 69 0 - 1 := by rw [hσ]; unfold kp_rem; show (k_sI _ 6 1 _).2.1 6 1 = _; rw [k_II, t1]
      have c7 : σ'.1 7 = j_cpy (σ.1 7) (σ.1 7) (i + 1) i (σ.1 69 0 - i - 1) := by rw [hσ]; unfold kp_rem; rw [k_AN (by omega), k_I1, k_AA, s1 7 (by omega), t1]
      have c18 : σ'.1 18 = f_map (f_shB i (-1)) (σ.1 18) (σ.1 69 1382) := by rw [hσ]; unfold kp_rem; rw [k_AA, s1 18 (by omega), t5]
      have ef : ∀ j, 301 ≤ j → (j_up (j_up (j_cpy (σ.1 69) (σ.1 69) (i + 2) (i + 1) (σ.1 69 0 - 1 - i)) 0 (σ.1 69 0 - 1)) (1 + (σ.1 69 0 - 1)) 0) j = σ.1 69 j := fun j j0 => by rw [j_upN (by omega), j_upN (by omega)]; unfold j_cpy; rw [if_neg (by omega)]
      have e0 : (j_up (j_up (j_cpy (σ.1 69) (σ.1 69) (i + 2) (i + 1) (σ.1 69 0 - 1 - i)) 0 (σ.1 69 0 - 1)) (1 + (σ.1 69 0 - 1)) 0) 0 = σ.1 69 0 - 1 := by rw [j_upN (by omega), j_upS]
      refine KN_w hK (fun c c0 c1 c2 => by rw [hσ]; unfold kp_rem; rw [k_AN c2, k_I1, k_AN (by omega)]; exact s1 c (by omega)) (fun c j c0 c1 hj => by rw [hσ]; unfold kp_rem; show (k_sI _ 6 1 _).2.1 c j = _; rw [k_IN hj]; exact s2 c j (by omega) (by omega)) ⟨by rw [c6]; omega, by rw [c6, d_gm_o (by omega), e0], fun k k0 k1 => ?_⟩ (fun j j0 j1 j2 => by rw [d_gm_o (by omega)]; exact ef j j0) (fun m m0 m1 => ?_) (fun j => ?_)
      · rw [d_gm_o (by omega), e0] at k1
        rw [d_gm_o (by omega), j_upN (by omega), j_upN (by omega), c7]
        unfold j_cpy
        by_cases z : i ≤ k
        · rw [if_pos (by omega), if_pos (by omega), hK.2.1.1.2 (i + 1 + (k - i)) (by omega) (by omega), show i + 2 + (1 + k - (i + 1)) = 1 + (i + 1 + (k - i)) by omega]
        · rw [if_neg (by omega), if_neg (by omega)]; exact hK.2.1.1.2 k k0 (by omega)
      · rw [d_gm_g m0 m1, ef _ (by omega), c18, f_map_y m0 m1, c6]
        obtain ⟨z1, z2, z3, _⟩ := KR_m hK m0 m1
        have hgp : σ.1 18 m ≤ σ.2.1 6 1 := hK.2.2.1.2.2.2 m m0 (by show m < σ.2.1 16 5; omega)
        have hg9 := (hgm m m0 m1).2.2.1
        rw [z2] at hgp ⊢
        unfold f_shB
        refine ⟨rfl, ?_⟩
        show 0 ≤ (if i < _ then _ else _) ∧ (if i < _ then _ else _) ≤ _
        split <;> omega
      · have hh : d_rg (j_up (j_up (j_cpy (σ.1 69) (σ.1 69) (i + 2) (i + 1) (σ.1 69 0 - 1 - i)) 0 (σ.1 69 0 - 1)) (1 + (σ.1 69 0 - 1)) 0) := by
          refine j_up_rg (j_up_rg (fun j => ?_) (by omega)) (by omega)
          unfold j_cpy; split
          · exact hK.2.2.2 _
          · exact hK.2.2.2 _
        unfold d_gm; split
        · rename_i hc
          obtain ⟨u1, u2, u3⟩ := hc
          have hm : ∃ m, 0 ≤ m ∧ m < σ.1 69 1382 ∧ j = 1383 + 7 * m + 2 := ⟨(j - 1385) / 7, by omega, by omega, by omega⟩
          obtain ⟨m, m0, m1, rfl⟩ := hm
          rw [ef _ (by omega)]
          have := RR_gg hR m m0 m1
          show -128 ≤ (if i < _ then _ else _) ∧ (if i < _ then _ else _) ≤ 9999
          split <;> omega
        · exact hh j
