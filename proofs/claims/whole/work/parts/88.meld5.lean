theorem ml_wr_lb {σ : k_St} {a b : Int} (hK : RKept σ) (ha : h_is σ a) (hb : h_is σ b) (hab : a ≠ b) : ml_wr σ a b (σ.1 69 1382) ↔ ml_lb σ a b := by
  have hM0 : σ.2.1 16 5 = σ.1 69 1382 := hK.2.1.2.2.1
  constructor
  · rintro (q | ⟨x, x0, x1, g1, g2, g3⟩)
    · exact absurd q hab
    · have mi : m_is σ x := (RK_m' hK x).mp ⟨x0, x1, g1⟩
      obtain ⟨z1, _, _, z4⟩ := KR_m hK x0 x1
      have k5 : 5 < σ.1 17 x := by rw [z1]; omega
      refine ⟨x, ⟨mi, k5⟩, ?_⟩
      have q3 : f_head (σ.1 19 x) 0 ≠ f_head (σ.1 19 x) 1 := (((hK.2.2.1.2.1 x mi).2.2.2) k5).2.2
      rw [m_head_is mi, m_head_is mi]
      rw [← z4 0 (by omega) (by omega), ← z4 1 (by omega) (by omega)] at g3
      unfold f_re at g3
      by_cases y : f_head (σ.1 19 x) 0 = a
      · rw [if_pos y, if_neg (fun z => q3 (by rw [y, z]))] at g3; exact Or.inl ⟨y, g3.symm⟩
      · rw [if_neg y] at g3
        by_cases z : f_head (σ.1 19 x) 1 = a
        · rw [if_pos z] at g3; exact Or.inr ⟨g3, z⟩
        · rw [if_neg z] at g3; exact absurd g3 q3
  · rintro ⟨x, ⟨mi, k5⟩, h⟩
    rw [m_head_is mi, m_head_is mi] at h
    obtain ⟨x0, x1, x2⟩ := (RK_m' hK x).mpr mi
    obtain ⟨z1, _, _, z4⟩ := KR_m hK x0 x1
    refine Or.inr ⟨x, x0, x1, x2, by omega, ?_⟩
    rw [← z4 0 (by omega) (by omega), ← z4 1 (by omega) (by omega)]
    unfold f_re
    rcases h with ⟨y1, y2⟩ | ⟨y1, y2⟩
    · rw [if_pos y1, if_neg (fun e => hab (by rw [← e, y2])), y2]
    · rw [if_neg (fun e => hab (by rw [← e, y1])), if_pos y2, y1]
theorem ml_cnt {σ τ : k_St} {a b : Int} (hK : RKept σ) (ha : h_is σ a) (hb : h_is σ b) (hab : a ≠ b) (h19 : τ.1 19 = σ.1 19) (h21 : τ.1 21 = σ.1 21) : f_count (m_rB τ a b) (σ.1 69 1382).toNat = f_count (ml_B a (σ.1 69)) (σ.1 69 1382).toNat := by
  have hw := hK.1.2.2
  have hM0 : σ.2.1 16 5 = σ.1 69 1382 := hK.2.1.2.2.1
  have hE := hK.1.2.1.1
  have fb : f_hd b := Or.inr (by have := hb.1; have := hb.2.1; have e : σ.2.1 8 3 ≤ 30 := hE.2; omega)
  refine f_count_congr (fun x x0 x1 => ?_)
  have x1' : x < σ.1 69 1382 := by omega
  obtain ⟨_, _, _, z4⟩ := KR_m hK x0 x1'
  have e1 : σ.1 21 x = 1 - σ.1 69 (1383 + 7 * x) := (hK.2.1.2.2.2 x x0 x1').1
  have hp : 0 ≤ σ.1 19 x ∧ σ.1 19 x ≤ 29790 := (hw.2.2 x x0 (by show x < σ.2.1 16 5; omega)).2.2.1
  unfold m_rB ml_B
  rw [h19, h21]
  refine decide_eq_decide.mpr ?_
  rw [← z4 0 (by omega) (by omega), ← z4 1 (by omega) (by omega), ← z4 2 (by omega) (by omega)]
  obtain ⟨r0, r1, r2⟩ := f_repl_h (a := a) (p := σ.1 19 x) fb
  constructor
  · rintro ⟨l, hne⟩
    refine ⟨by omega, ?_⟩
    by_cases y0 : f_head (σ.1 19 x) 0 = a
    · exact Or.inl y0
    · by_cases y1 : f_head (σ.1 19 x) 1 = a
      · exact Or.inr (Or.inl y1)
      · by_cases y2 : f_head (σ.1 19 x) 2 = a
        · exact Or.inr (Or.inr y2)
        · exfalso; apply hne
          rw [f_repl_path]; unfold f_re
          rw [if_neg y0, if_neg y1, if_neg y2, path_heads hp]
  · rintro ⟨l, h⟩
    refine ⟨by omega, fun e => ?_⟩
    rw [e] at r0 r1 r2
    have no : ∀ y, y = f_re a b y → y ≠ a := fun y hy ya => by unfold f_re at hy; rw [if_pos ya] at hy; exact hab (by rw [← ya, hy])
    rcases h with y | y | y
    · exact no _ r0 y
    · exact no _ r1 y
    · exact no _ r2 y
theorem p_meld {G : j_G} {X : k_X} {n : Nat} {σ : k_St} (hR : RR n σ) {a b : Int} (ha : -2147483648 ≤ a ∧ a ≤ 2147483647) (hb : -2147483648 ≤ b ∧ b ≤ 2147483647) : pr_ok G X mX11_meld mX12_meld [j_i a, j_i b] n σ 16 1618 := by
  have hK := hR.1
  have ia := RK_h hR a
  have ib := RK_h hR b
  have hM0 : σ.2.1 16 5 = σ.1 69 1382 := hK.2.1.2.2.1
  refine ⟨_, c_meld hR ha hb, fun v n' σ' hq => ?_⟩
  obtain ⟨r, hv, hC⟩ := hq
  rcases hC with ⟨q1, q2, rfl, rfl⟩ | ⟨q1, q3, q2, rfl, rfl⟩ | ⟨q1, q3, σs, τ, hS, hτ, q2, hσ⟩
  · obtain ⟨a1, a2, a3, a4⟩ := RR_md hR
    refine ⟨RR_n hR, r, hv, k_runw (fun v2 n2 σ2 p => ?_) (e_meld (RR_n hR) a1 a2 a3 a4 ha hb)⟩
    rcases p with ⟨g1, g2, g3, g4⟩ | ⟨g1, _⟩ | ⟨g1, _⟩
    · subst g3; subst g4; exact ⟨by rw [g2, q2], hR⟩
    · exact absurd ⟨ia.mp g1.1, ib.mp g1.2⟩ q1
    · exact absurd ⟨ia.mp g1.1, ib.mp g1.2⟩ q1
  · obtain ⟨a1, a2, a3, a4⟩ := RR_md hR
    refine ⟨RR_n hR, r, hv, k_runw (fun v2 n2 σ2 p => ?_) (e_meld (RR_n hR) a1 a2 a3 a4 ha hb)⟩
    rcases p with ⟨g1, _⟩ | ⟨g1, g0, g2, g3, g4⟩ | ⟨g1, g0, _⟩
    · exact absurd ⟨ia.mpr q1.1, ib.mpr q1.2⟩ g1
    · subst g3; subst g4; exact ⟨by rw [g2, q2], hR⟩
    · refine absurd ?_ g0
      by_cases e : a = b
      · exact Or.inl e
      · exact (ml_wr_lb hK q1.1 q1.2 e).mpr (q3.resolve_left e)
  · have hM : CM σs σ' := by rw [hσ, hτ]; exact ⟨fun c hc => by rw [k_AN (by omega), k_AN (by omega)], fun _ _ _ => rfl, rfl⟩
    obtain ⟨a1, a2, a3, a4⟩ := CM_md hR hS hM
    obtain ⟨e1, e2⟩ := CM_e hS hM
    obtain ⟨s1, s2, s3⟩ := SV_e hS
    have x69 : σ'.1 69 = σ.1 69 := e1 69 (by omega) (by omega)
    have ja : d_is σ' a ↔ d_is σ a := by unfold d_is; rw [x69]
    have jb : d_is σ' b ↔ d_is σ b := by unfold d_is; rw [x69]
    have jw : ∀ k, ml_wr σ' a b k ↔ ml_wr σ a b k := fun k => by unfold ml_wr; rw [x69]
    have t19 : τ.1 19 = σ.1 19 := by rw [hτ, k_AN (by omega)]; exact s1 19 (by omega)
    have t21 : τ.1 21 = σ.1 21 := by rw [hτ, k_AN (by omega)]; exact s1 21 (by omega)
    have t5 : τ.2.1 16 5 = σ.2.1 16 5 := by rw [hτ]; exact s2 16 5 (by omega) (by omega)
    refine ⟨s3, r, hv, k_runw (fun v2 n2 σ2 p => ?_) (e_meld s3 a1 a2 a3 a4 ha hb)⟩
    rw [ja, jb, jw, x69] at p
    rcases p with ⟨g1, _⟩ | ⟨g1, g0, _⟩ | ⟨g1, g0, g2, g3, g4⟩
    · exact absurd ⟨ia.mpr q1.1, ib.mpr q1.2⟩ g1
    · exact absurd ((ml_wr_lb hK q1.1 q1.2 q3.1).mp g0) q3.2
    · subst g3
      refine ⟨by rw [g2, q2, t5, hM0, ml_cnt hK q1.1 q1.2 q3.1 t19 t21], ?_⟩
      rw [g4]
      refine mut_RR hR hS hM (KN_meld hK q1.1 q1.2 q3.1 q3.2 (fun c c0 c1 c2 c3 => by rw [hσ, k_AN c3, hτ, k_AN c2]; exact s1 c (by omega)) ?_ ?_ (fun c j c0 c1 => by rw [hσ, hτ]; exact s2 c j (by omega) (by omega)))
      · rw [hσ, k_AN (by omega), hτ, k_AA, s1 15 (by omega)]
      · rw [hσ, k_AA, t19, t5]; congr 1; unfold m_rF; rw [t21]
