theorem SV_sI {n n' : Nat} {σ τ : k_St} {x : Int} (h : SV n σ n' τ) : SV n (k_sI σ 68 0 x) n' (k_sI τ 68 0 x) := by
  obtain ⟨s, r, r', a1, a2, a3, a4, a5, a6, a7, a8, a9, a10, a11⟩ := h
  refine ⟨s, r, r', by rw [k_IN (by omega)]; exact a1, a2, a3, a4, fun c j c1 c2 => ?_, a6, by rw [k_IN (by omega)]; exact a7, by rw [k_IN (by omega), k_IN (by omega)]; exact a8, fun t t0 t1 c c0 c1 => ⟨(a9 t t0 t1 c c0 c1).1, fun j => by rw [k_IN (by omega), k_IN (by omega)]; exact (a9 t t0 t1 c c0 c1).2 j⟩, kp_wf_congr (σ := τ) (fun c _ _ => rfl) (fun c j g1 g2 => k_IN (a := 68) (j := 0) (by omega)) a10, ?_⟩
  · by_cases q : c = 68 ∧ j = 0
    · obtain ⟨rfl, rfl⟩ := q; rw [k_II, k_II]
    · rw [k_IN q, k_IN q]; exact a5 c j c1 c2
  · unfold CP at a11 ⊢
    rw [k_IN (by omega), k_IN (by omega), k_IN (by omega), k_IN (by omega), k_IN (by omega), k_IN (by omega)]
    exact a11
theorem kp_mov_CM {σ : k_St} {i m j : Int} : CM σ (kp_mov σ i m j) := by
  unfold kp_mov
  exact ⟨fun c hc => by rw [k_AN (by omega), k_AN (by omega)], fun c j hc => rfl, rfl⟩
/-- both have set their fault -/
theorem RR_flt {n : Nat} {σ : k_St} {x : Int} (hR : RR n σ) : RR n (k_sI (k_sI σ 5 12 x) 68 0 x) := by
  refine RR_scs (σ := σ) ⟨fun c _ => rfl, fun c j _ g1 g2 => by rw [k_IN (by omega), k_IN (by omega)], rfl⟩ ?_ hR
  obtain ⟨s1, s2, s3, s4, s5, s6, s7⟩ := hR.2.2.2.2.2.1
  have e : ∀ c j, ¬ (c = 68 ∧ j = 0) → ¬ (c = 5 ∧ j = 12) → (k_sI (k_sI σ 5 12 x) 68 0 x).2.1 c j = σ.2.1 c j := fun c j g1 g2 => by rw [k_IN g1, k_IN g2]
  have e0 : (k_sI (k_sI σ 5 12 x) 68 0 x).2.1 68 0 = x := k_II
  have e1 : (k_sI (k_sI σ 5 12 x) 68 0 x).2.1 5 12 = x := by rw [k_IN (by omega), k_II]
  unfold RSmall
  rw [e0, e1, e 5 10 (by omega) (by omega), e 68 11 (by omega) (by omega), e 68 1 (by omega) (by omega), e 5 11 (by omega) (by omega), e 5 13 (by omega) (by omega), e 68 52 (by omega) (by omega), e 68 53 (by omega) (by omega), e 5 14 (by omega) (by omega)]
  exact ⟨s1, s2, s3, rfl, s5, s6, s7⟩
theorem k_sI2 {σ : k_St} {a j : Nat} {x y : Int} : k_sI (k_sI σ a j x) a j y = k_sI σ a j y := by
  unfold k_sI
  refine Prod.ext rfl (Prod.ext ?_ rfl)
  funext b i
  show (if _ then _ else if _ then _ else _) = if _ then _ else _
  split <;> rfl
theorem RR_gw {n : Nat} {σ : k_St} (hR : RR n σ) : ∀ m, 0 ≤ m → m < σ.1 69 1382 → 0 ≤ σ.1 69 (1383 + 7 * m + 2) ∧ σ.1 69 (1383 + 7 * m + 2) ≤ σ.1 69 0 := fun m m0 m1 => by
  have hK := hR.1
  have z := (KR_m hK m0 m1).2.1
  have hM0 : σ.2.1 16 5 = σ.1 69 1382 := hK.2.1.2.2.1
  have hW0 : σ.2.1 6 1 = σ.1 69 0 := hK.2.1.1.1
  have hgp : σ.1 18 m ≤ σ.2.1 6 1 := hK.2.2.1.2.2.2 m m0 (by show m < σ.2.1 16 5; omega)
  have := RR_gg hR m m0 m1
  omega
theorem p_move {G : j_G} {X : k_X} {n : Nat} {σ : k_St} (hR : RR n σ) {i m j : Int} (hi : -2147483648 ≤ i ∧ i ≤ 2147483647) (hm : -2147483648 ≤ m ∧ m ≤ 2147483647) (hj : -2147483648 ≤ j ∧ j ≤ 2147483647) : pr_ok G X mX11_move mX12_move [j_i i, j_i m, j_i j] n σ 16 1618 := by
  have hW0 : σ.2.1 6 1 = σ.1 69 0 := hR.1.2.1.1.1
  have hn := RR_n hR
  have small : ∀ x : Int, ∀ σ' : k_St, σ' = k_sI σ 5 12 x → k_run G X mX12_move [.ref 68, j_i i, j_i m, j_i j] n σ' 0 0 (fun v n' σ2 => (m < 0 ∧ v = some (j_i (-14)) ∧ n' = n ∧ σ2 = k_sI σ' 68 0 4) ∨ (0 ≤ m ∧ ¬ mv_ok (σ.1 69 0) i m j ∧ v = some (j_i (-13)) ∧ n' = n ∧ σ2 = k_sI σ' 68 0 3) ∨ (m = 0 ∧ mv_ok (σ.1 69 0) i m j ∧ v = some (j_i 0) ∧ n' = n ∧ σ2 = k_sI σ' 68 0 0) ∨ (0 < m ∧ mv_ok (σ.1 69 0) i m j)) := fun x σ' hσ => by
    obtain ⟨a1, a2, a3, a4⟩ := RR_md hR
    have x69 : σ'.1 = σ.1 := by rw [hσ]; rfl
    refine k_runw (fun v2 n2 σ2 p => ?_) (e_move hn (by rw [x69]; exact a1) (by rw [x69]; exact a2) (by rw [hσ, k_IN (by omega)]; exact a3) (by rw [hσ, k_IN (by omega)]; exact a4) (by rw [x69]; exact RR_gw hR) hi hm hj)
    rw [x69] at p
    rcases p with ⟨g1, g2, g3, g4⟩ | ⟨g1, g2, g3, g4, g5⟩ | ⟨g1, g2, g3, g4, g5⟩ | ⟨g1, g2, _⟩
    · exact Or.inl ⟨g1, g2, g3, by rw [g4, k_sI2]⟩
    · exact Or.inr (Or.inl ⟨g1, g2, g3, g4, by rw [g5, k_sI2]⟩)
    · exact Or.inr (Or.inr (Or.inl ⟨g1, g2, g3, g4, g5⟩))
    · exact Or.inr (Or.inr (Or.inr ⟨g1, g2⟩))
  refine ⟨_, c_move hR hi hm hj, fun v n' σ' hq => ?_⟩
  obtain ⟨r, hv, hC⟩ := hq
  unfold mv_C at hC
  rw [hW0] at hC
  rcases hC with ⟨q1, q2, q3, q4⟩ | ⟨q1, q5, q2, q3, q4⟩ | ⟨q1, q5, q2, q3, q4⟩ | ⟨q1, q5, q2, σs, hS, hσ⟩
  · rw [q3]
    refine ⟨hn, r, hv, k_runw (fun v2 n2 σ2 p => ?_) (small 4 σ' q4)⟩
    rcases p with ⟨g1, g2, g3, g4⟩ | ⟨g1, _⟩ | ⟨g1, _⟩ | ⟨g1, _⟩
    · rw [g2, g3, g4, q4, q2]; exact ⟨rfl, RR_flt hR⟩
    · omega
    · omega
    · omega
  · rw [q3]
    refine ⟨hn, r, hv, k_runw (fun v2 n2 σ2 p => ?_) (small 3 σ' q4)⟩
    rcases p with ⟨g1, g2, g3, g4⟩ | ⟨g1, g5, g2, g3, g4⟩ | ⟨g1, g2, _⟩ | ⟨g1, g2⟩
    · omega
    · rw [g2, g3, g4, q4, q2]; exact ⟨rfl, RR_flt hR⟩
    · exact absurd g2 q5
    · exact absurd g2 q5
  · rw [q3]
    refine ⟨hn, r, hv, k_runw (fun v2 n2 σ2 p => ?_) (small 0 σ' q4)⟩
    rcases p with ⟨g1, g2, g3, g4⟩ | ⟨g1, g5, _⟩ | ⟨g1, g5, g2, g3, g4⟩ | ⟨g1, g2⟩
    · omega
    · exact absurd q5 g5
    · rw [g2, g3, g4, q4, q2]; exact ⟨rfl, RR_flt hR⟩
    · omega
  · have hR1 := RR_flt (x := 0) hR
    have hS1 := SV_sI (x := 0) hS
    have hM0 : CM σs σ' := by rw [hσ]; exact kp_mov_CM
    obtain ⟨ρ', hρ'⟩ : ∃ z, z = k_sI σ' 68 0 0 := ⟨_, rfl⟩
    have hM : CM (k_sI σs 68 0 0) ρ' := by
      rw [hρ']
      refine ⟨fun c hc => hM0.1 c hc, fun c j hc => ?_, hM0.2.2⟩
      by_cases q : c = 68 ∧ j = 0
      · obtain ⟨rfl, rfl⟩ := q; rw [k_II, k_II]
      · rw [k_IN q, k_IN q]; exact hM0.2.1 c j hc
    obtain ⟨a1, a2, a3, a4⟩ := CM_md hR1 hS1 hM
    obtain ⟨e1, e2⟩ := CM_e hS1 hM
    obtain ⟨s1, s2, s3⟩ := SV_e hS1
    have x1 : ρ'.1 = σ'.1 := by rw [hρ']; rfl
    have x69 : σ'.1 69 = σ.1 69 := by rw [← x1]; exact e1 69 (by omega) (by omega)
    have x4 : ρ'.2.1 68 4 = σ'.2.1 68 4 := by rw [hρ', k_IN (by omega)]
    have x5 : ρ'.2.1 68 5 = σ'.2.1 68 5 := by rw [hρ', k_IN (by omega)]
    rw [x1] at a1 a2
    rw [x4] at a3
    rw [x5] at a4
    refine ⟨s3, r, hv, k_runw (fun v2 n2 σ2 p => ?_) (e_move s3 a1 a2 a3 a4 (by rw [x69]; exact RR_gw hR) hi hm hj)⟩
    rw [x69] at p
    rcases p with ⟨g1, _⟩ | ⟨_, g1, _⟩ | ⟨g1, _⟩ | ⟨g1, g2, g3, g4, τ, f, hF, ef, ew, g5⟩
    · omega
    · exact absurd q5 g1
    · omega
    · rw [g4]
      refine ⟨by rw [g3, q2], ?_⟩
      rw [← hρ'] at hF
      have hK := hR1.1
      have hmut : KN ρ' (d_gm (mv_g i m j) f (σ.1 69 1382)) := by
        obtain ⟨o1, o2, o3, o4, o5⟩ := q5
        have t1 : σs.2.1 6 1 = σ.1 69 0 := by have := s2 6 1 (by omega) (by omega); rw [k_IN (by omega), k_IN (by omega), k_IN (by omega)] at this; rw [this, hW0]
        have hM9 : σ.2.1 16 5 = σ.1 69 1382 := hR.1.2.1.2.2.1
        have t5 : σs.2.1 16 5 = σ.1 69 1382 := by have := s2 16 5 (by omega) (by omega); rw [k_IN (by omega), k_IN (by omega), k_IN (by omega)] at this; rw [this, hM9]
        obtain ⟨⟨hgW, _, hgM⟩, _, hgm⟩ := KR_rg hR.1.1 hR.1.2.1
        have s1' : ∀ c, c < 101 → σs.1 c = σ.1 c := fun c hc => s1 c hc
        have c6 : ρ'.2.1 6 1 = σ.1 69 0 := by rw [hρ', k_IN (by omega), hσ]; exact t1
        have c7 : ρ'.1 7 = f_mv (σ.1 7) i m j := by rw [x1, hσ]; unfold kp_mov; rw [k_AN (by omega), k_AA, s1' 7 (by omega)]
        have c18 : ρ'.1 18 = f_map (f_shW i m j) (σ.1 18) (σ.1 69 1382) := by rw [x1, hσ]; unfold kp_mov; rw [k_AA, s1' 18 (by omega), t5]
        refine KN_w (σ := k_sI (k_sI σ 5 12 0) 68 0 0) (g := σ.1 69) hK (fun c c0 c1 c2 => by rw [x1, hσ]; unfold kp_mov; rw [k_AN c2, k_AN (by omega)]; exact s1 c (by omega)) (fun c j c0 c1 hj => by rw [hρ', k_IN (by omega), hσ]; show σs.2.1 c j = _; have := s2 c j (by omega) (by omega); rw [k_IN (by omega)] at this; exact this) ⟨by rw [c6]; exact hgW, by rw [c6, d_gm_o (by omega), ef 0 (by omega)], fun k k0 k1 => ?_⟩ (fun x h0 h1 h2 => by rw [d_gm_o (by omega)]; exact ef x (by omega)) (fun x h0 h1 => ?_) (fun x => ?_)
        · rw [d_gm_o (by omega), ef 0 (by omega)] at k1
          have b := mv_in (i := j) (j := i) (m := m) (k := k) (W := σ.1 69 0) (by omega) (by omega) (by omega) (by omega) (by omega) k0 k1
          rw [d_gm_o (by omega), c7, f_mv_to, ew k k0 k1]
          exact hR.1.2.1.1.2 _ b.1 b.2
        · have hgx := RR_gw hR x h0 h1
          rw [d_gm_g h0 h1, ef _ (by omega), c18, f_map_y h0 h1, c6, (KR_m hR.1 h0 h1).2.1, mv_sh (by omega) (by omega) (by omega) hgx.1]
          exact ⟨rfl, mv_g_in (by omega) (by omega) (by omega) (by omega) (by omega) hgx.1 hgx.2⟩
        · unfold d_gm; split
          · rename_i hc
            obtain ⟨u1, u2, u3⟩ := hc
            have hq : ∃ m, 0 ≤ m ∧ m < σ.1 69 1382 ∧ x = 1383 + 7 * m + 2 := ⟨(x - 1385) / 7, by omega, by omega, by omega⟩
            obtain ⟨y, y0, y1, rfl⟩ := hq
            rw [ef _ (by omega)]
            have hgx := RR_gw hR y y0 y1
            have := mv_g_in (i := i) (m := m) (j := j) (W := σ.1 69 0) (by omega) (by omega) (by omega) (by omega) (by omega) hgx.1 hgx.2
            omega
          · by_cases h : x < 1 ∨ 1 + σ.1 69 0 ≤ x
            · rw [ef x h]; exact hR.1.2.2.2 x
            · have := ew (x - 1) (by omega) (by omega)
              rw [show 1 + (x - 1) = x by omega] at this
              rw [this]; exact hR.1.2.2.2 _
      have hRR := mut_RR hR1 hS1 hM hmut
      rw [g5]
      refine RR_scr (σ := k_sA (d_kp ρ') 69 (d_gm (mv_g i m j) f (σ.1 69 1382))) ⟨fun c hc => ?_, fun c j _ => ?_, ?_⟩ hRR
      · by_cases q : c = 69
        · rw [q, k_AA, k_AA]
        · rw [k_AN q, k_AN q]; exact hF.1 c (by omega) (by omega)
      · show τ.2.1 c j = (d_kp ρ').2.1 c j; rw [hF.2]
      · show τ.2.2 = (d_kp ρ').2.2; rw [hF.2]
