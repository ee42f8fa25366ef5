theorem ps_sm {σ : k_St} (hN : RName σ) (hP : RPass σ) {p : Int} (p0 : 0 ≤ p) (p1 : p < σ.2.1 68 10) : (r_cnt σ 34 4 p = r_cnt σ 30 1 0 ∧ r_alike σ 34 4 p 30 1 0) ↔ dp_sm σ p := by
  obtain ⟨a1, a2, a3⟩ := nm_sg hN
  obtain ⟨P1, P2, P3, P4, P5⟩ := hP
  obtain ⟨b1, b2, b3⟩ := P5 p p0 p1
  have e1 : r_cnt σ 34 4 p = σ.1 73 p := by unfold r_cnt; rw [if_pos (by omega)]; exact b1
  unfold r_alike dp_sm
  rw [e1, a1]
  have e2 : ∀ i, 0 ≤ i → i < σ.1 73 p → f_fold (r_sgn σ 34 4 p i) = σ.1 72 (16 * p + i) := fun i i0 i1 => by
    unfold r_sgn
    rw [if_pos ⟨by omega, by omega, i0, by show i < σ.1 36 p; rw [b1]; exact i1⟩]
    exact (b3 i i0 i1).1
  constructor
  · rintro ⟨g1, g2⟩
    refine ⟨g1, fun k k0 k1 => ?_⟩
    rw [← e2 k k0 (by omega), g2 k k0 k1, (a2 k k0 k1).1]
  · rintro ⟨g1, g2⟩
    refine ⟨g1, fun k k0 k1 => ?_⟩
    rw [e2 k k0 (by omega), g2 k k0 k1, (a2 k k0 k1).1]
theorem ps_dp {σ : k_St} (hN : RName σ) (hP : RPass σ) : ps_ok σ ↔ dp_ok σ := by
  obtain ⟨a1, a2, a3⟩ := nm_sg hN
  have hL := hN.1
  have hc : σ.1 32 0 = σ.2.1 68 7 := hN.2.1
  have hm : σ.2.1 33 1 = σ.2.1 68 10 := hP.2.1
  unfold ps_ok dp_ok r_lets y_pas
  rw [hc, a1]
  constructor
  · rintro ⟨g1, g2, g3⟩
    refine ⟨⟨by omega, fun k k0 k1 => ?_⟩, fun p p0 p1 q => g3 ⟨p, p0, by omega, ?_⟩⟩
    · have := g2 k k0 k1; rw [(a2 k k0 k1).1] at this; exact this
    · have := (ps_sm hN hP p0 p1).mpr q; rw [a1] at this; exact this
  · rintro ⟨⟨g1, g2⟩, g3⟩
    refine ⟨by omega, fun k k0 k1 => ?_, ?_⟩
    · rw [(a2 k k0 k1).1]; exact g2 k k0 k1
    · rintro ⟨p, p0, p1, q⟩
      exact g3 p p0 (by omega) ((ps_sm hN hP p0 (by omega)).mp (by rw [a1]; exact q))
theorem dp_ok_cg {σ τ : k_St} (h1 : τ.1 71 = σ.1 71) (h2 : τ.1 72 = σ.1 72) (h3 : τ.1 73 = σ.1 73) (h4 : τ.2.1 68 = σ.2.1 68) : dp_ok τ ↔ dp_ok σ := by
  unfold dp_ok dp_sm; rw [h1, h2, h3, h4]
/-- all but what is passed over -/
theorem RR_ps {n : Nat} {σ τ : k_St} (h1 : ∀ c, c ≠ 35 → c ≠ 36 → c ≠ 72 → c ≠ 73 → τ.1 c = σ.1 c) (h2 : ∀ c j, ¬ (c = 68 ∧ j = 10) → ¬ (c = 33 ∧ j = 1) → τ.2.1 c j = σ.2.1 c j) (h3 : τ.2.2 = σ.2.2) (hN : RPass τ) (hR : RR n σ) : RR n τ := by
  obtain ⟨r1, r2, r3, r4, r5, r6, r7⟩ := hR
  have g1 : ∀ c, c < 35 ∨ (36 < c ∧ c < 72) ∨ 73 < c → τ.1 c = σ.1 c := fun c hc => h1 c (by omega) (by omega) (by omega) (by omega)
  exact ⟨RKept_cg (fun c _ _ => g1 c (by omega)) (fun c j _ _ => h2 c j (by omega) (by omega)) (g1 69 (by omega)) r1, RActs_cg (fun c _ => g1 c (by omega)) (fun c j _ => h2 c j (by omega) (by omega)) (by rw [h3]) r2, RName_cg (g1 _ (by omega)) (g1 _ (by omega)) (g1 _ (by omega)) (h2 _ _ (by omega) (by omega)) r3, hN, RPart_cg (fun c _ _ => g1 c (by omega)) (fun c _ _ => g1 c (by omega)) (h2 _ _ (by omega) (by omega)) (h2 _ _ (by omega) (by omega)) r5, RSmall_cg (fun j _ _ => h2 5 j (by omega) (by omega)) (fun j _ => h2 68 j (by omega) (by omega)) r6, RIdx_cg (fun c _ _ _ => g1 c (by omega)) (fun c j _ => h2 c j (by omega) (by omega)) (fun c _ => g1 c (by omega)) (fun j _ => h2 68 j (by omega) (by omega)) (by rw [h3]) r7⟩
theorem f_fold_s {s : Int} (h : 32 ≤ s ∧ s ≤ 126) : 32 ≤ f_fold s ∧ f_fold s ≤ 126 := by unfold f_fold; split <;> omega
theorem p_pass {G : j_G} {X : k_X} {n : Nat} {σ : k_St} (hR : RR n σ) : pr_ok G X mX11_pass mX12_pass [] n σ 0 0 := by
  have hn := RR_n hR
  have hN := hR.2.2.1
  have hP := hR.2.2.2.1
  have hiff := ps_dp hN hP
  have hwn := nm_sg hN
  obtain ⟨N1, N2, N3, N4⟩ := id hN
  obtain ⟨P1, P2, P3, P4, P5⟩ := id hP
  refine ⟨_, c_pass hR, fun v n' σ' hq => ?_⟩
  obtain ⟨r, hv, rfl, hC⟩ := hq
  have hf : (σ'.1 71 = σ.1 71 ∧ σ'.1 72 = σ.1 72 ∧ σ'.1 73 = σ.1 73) ∧ σ'.2.1 68 = σ.2.1 68 := by
    rcases hC with ⟨_, _, q⟩ | ⟨_, _, _, q⟩ | ⟨_, _, _, q⟩
    · rw [q]; exact ⟨⟨rfl, rfl, rfl⟩, rfl⟩
    · rw [q]; exact ⟨⟨rfl, rfl, rfl⟩, rfl⟩
    · rw [q]
      refine ⟨⟨?_, ?_, ?_⟩, ?_⟩
      · rw [k_I1]; unfold r_cpS; rw [k_AN (by omega), k_AN (by omega)]
      · rw [k_I1]; unfold r_cpS; rw [k_AN (by omega), k_AN (by omega)]
      · rw [k_I1]; unfold r_cpS; rw [k_AN (by omega), k_AN (by omega)]
      · funext j; rw [k_IN (by omega)]; rfl
  obtain ⟨⟨f1, f2, f3⟩, f4⟩ := hf
  have hd := dp_ok_cg f1 f2 f3 f4
  refine ⟨hn, r, hv, k_runw (fun v2 n2 σ2 q => ?_) (d_pass hn (by rw [f4]; exact N1) (by rw [f1, f4]; exact fun k k0 k1 => (hwn.2.1 k k0 k1).2) (by rw [f4]; exact P1) (by rw [f3, f4]; exact fun p p0 p1 => by obtain ⟨b1, _, _⟩ := P5 p p0 p1; have := P4 p p0 (by omega); omega) (by rw [f2, f3, f4]; exact fun p k p0 p1 k0 k1 => by obtain ⟨_, _, b3⟩ := P5 p p0 p1; have b4 := b3 k k0 k1; rw [← b4.1]; have := f_fold_s (s := σ.1 35 (p * 16 + k)) (by omega); omega))⟩
  obtain ⟨rfl, hD⟩ := q
  rw [hd, f4, f1, f2, f3] at hD
  rcases hC with ⟨c1, c2, c3⟩ | ⟨c1, c2, c3, c4⟩ | ⟨c1, c2, c3, c4⟩
  · rcases hD with ⟨d1, d2, d3⟩ | ⟨d1, _⟩ | ⟨d1, _⟩
    · rw [c3] at d3; rw [d3, d2, c2]; exact ⟨rfl, hR⟩
    · exact absurd (hiff.mpr d1) c1
    · exact absurd (hiff.mpr d1) c1
  · rcases hD with ⟨d1, _⟩ | ⟨d1, d2, d3, d4⟩ | ⟨d1, d2, _⟩
    · exact absurd (hiff.mp c1) d1
    · rw [c4] at d4; rw [d4, d3, c3]; exact ⟨rfl, hR⟩
    · rw [P2] at c2; omega
  · rcases hD with ⟨d1, _⟩ | ⟨d1, d2, _⟩ | ⟨d1, d2, d3, d4⟩
    · exact absurd (hiff.mp c1) d1
    · rw [P2] at c2; omega
    · rw [P2] at c2 c3 c4
      refine ⟨by rw [d3, c3], ?_⟩
      have A : ∀ c, c ≠ 72 → c ≠ 73 → σ2.1 c = σ'.1 c := fun c g1 g2 => by rw [d4, k_I1, k_AN g2, k_AN g1]
      have B : ∀ c, c ≠ 35 → c ≠ 36 → σ'.1 c = σ.1 c := fun c g1 g2 => by rw [c4, k_I1]; unfold r_cpS; rw [k_AN g2, k_AN g1]
      refine RR_ps (σ := σ) (fun c g1 g2 g3 g4 => by rw [A c g3 g4, B c g1 g2]) (fun c j g1 g2 => by rw [d4, k_IN g1]; show σ'.2.1 c j = _; rw [c4, k_IN g2]; rfl) (by rw [d4]; show σ'.2.2 = _; rw [c4]; rfl) ?_ hR
      have e35 : σ2.1 35 = j_cpy (σ.1 31) (σ.1 35) 0 (σ.2.1 68 10 * 16) (σ.2.1 68 7) := by
        rw [A 35 (by omega) (by omega), c4, k_I1, show (35 : Nat) = 34 + 1 from rfl, r_cpS_1, show σ.1 32 0 = σ.2.1 68 7 from N2]; rfl
      have e36 : σ2.1 36 = j_up (σ.1 36) (σ.2.1 68 10) (σ.2.1 68 7) := by
        rw [A 36 (by omega) (by omega), c4, k_I1, show (36 : Nat) = 34 + 2 from rfl, r_cpS_2, show σ.1 32 0 = σ.2.1 68 7 from N2]
      have e72 : σ2.1 72 = dp_N (σ.1 72) (σ.1 71) (σ.2.1 68 10) (σ.2.1 68 7) (σ.2.1 68 7) := by rw [d4, k_I1, k_AN (by omega), k_AA]
      have e73 : σ2.1 73 = j_up (σ.1 73) (σ.2.1 68 10) (σ.2.1 68 7) := by rw [d4, k_I1, k_AA]
      have e1 : σ2.2.1 33 1 = σ.2.1 68 10 + 1 := by rw [d4, k_IN (by omega)]; show σ'.2.1 33 1 = _; rw [c4, k_II]
      have e2 : σ2.2.1 68 10 = σ.2.1 68 10 + 1 := by rw [d4, k_II]
      unfold RPass
      rw [e35, e36, e72, e73, e1, e2]
      obtain ⟨⟨dl0, dl⟩, _⟩ := d1
      refine ⟨by omega, rfl, fun i => ?_, fun q q0 q1 => ?_, fun p p0 p1 => ?_⟩
      · unfold j_cpy; split
        · exact N3 _
        · exact P3 i
      · unfold j_up; split
        · exact N1
        · exact P4 q q0 q1
      · by_cases g : p = σ.2.1 68 10
        · rw [g, j_upS, j_upS]
          refine ⟨rfl, by omega, fun i i0 i1 => ?_⟩
          unfold j_cpy dp_N
          rw [if_pos (by omega), if_pos (by omega), show 0 + (σ.2.1 68 10 * 16 + i - σ.2.1 68 10 * 16) = i by omega, show 16 * σ.2.1 68 10 + i - 16 * σ.2.1 68 10 = i by omega]
          have x := N4 i i0 i1
          have y := dl i i0 i1
          rw [x.1]
          exact ⟨rfl, y⟩
        · have z := P5 p p0 (by omega)
          have zc := P4 p p0 (by omega)
          rw [j_upN g, j_upN g]
          refine ⟨z.1, z.2.1, fun i i0 i1 => ?_⟩
          unfold j_cpy dp_N
          rw [if_neg (by omega), if_neg (by omega)]
          exact z.2.2 i i0 i1
