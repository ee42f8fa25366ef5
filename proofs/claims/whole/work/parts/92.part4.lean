/-- put in at k -/
def pi_I (d : Int → Int) (k m v : Int) : Int → Int := j_up (j_cpy d d k (k + 1) (m - k)) k v
theorem pi_lt {d : Int → Int} {k m v j : Int} (h : j < k) : pi_I d k m v j = d j := by
  unfold pi_I; rw [j_upN (by omega)]; unfold j_cpy; rw [if_neg (by omega)]
theorem pi_eq {d : Int → Int} {k m v : Int} : pi_I d k m v k = v := j_upS
theorem pi_gt {d : Int → Int} {k m v j : Int} (h : k < j) (h2 : j ≤ m) : pi_I d k m v j = d (j - 1) := by
  unfold pi_I; rw [j_upN (by omega)]; unfold j_cpy; rw [if_pos (by omega), show k + (j - (k + 1)) = j - 1 by omega]
theorem j_up_id {g : Int → Int} {i x : Int} (h : g i = x) : j_up g i x = g := by rw [← h]; exact j_up_self
theorem PT_rep {cp cf cn cl dp df dn dl : Int → Int} {K m p k g f y l : Int} (h : PTp cp cf cn cl dp df dn dl K m) (hr : (0 ≤ g ∧ g ≤ 299) ∧ (0 ≤ f ∧ f ≤ 2) ∧ (1 ≤ y ∧ y ≤ 999) ∧ (-2147483648 ≤ l ∧ l ≤ 2147483647)) (p0 : 0 ≤ p) (p1 : p < m) (hp : cp p = g) (k0 : 0 ≤ k) (k1 : k < m) (hk : dp k = g) : PTp (j_up cp p g) (j_up cf p f) (j_up cn p y) (j_up cl p l) (j_up dp k g) (j_up df k f) (j_up dn k y) (j_up dl k l) K m := by
  obtain ⟨a1, a2, a3, a4, a5, a6⟩ := h
  rw [j_up_id hp, j_up_id hk]
  refine ⟨a1, a2, a3, a4, fun x x0 x1 => ?_, fun q q0 q1 => ?_⟩
  · by_cases e : x = p
    · rw [e, j_upS, j_upS, j_upS, hp]
      exact ⟨hr, k, k0, k1, hk, j_upS, j_upS, j_upS⟩
    · rw [j_upN e, j_upN e, j_upN e]
      obtain ⟨b1, q, q0, q1, q2, q3, q4, q5⟩ := a5 x x0 x1
      have hq : q ≠ k := fun z => e (a4 x p x0 x1 p0 p1 (by rw [← q2, z, hk, hp]))
      exact ⟨b1, q, q0, q1, q2, by rw [j_upN hq]; exact q3, by rw [j_upN hq]; exact q4, by rw [j_upN hq]; exact q5⟩
  · by_cases e : q = k
    · rw [e, j_upS, j_upS, j_upS, hk]
      exact ⟨p, p0, p1, hp.symm, j_upS.symm, j_upS.symm, j_upS.symm⟩
    · rw [j_upN e, j_upN e, j_upN e]
      obtain ⟨x, x0, x1, q2, q3, q4, q5⟩ := a6 q q0 q1
      have hx : x ≠ p := fun z => by
        have hz : dp q = dp k := by rw [q2, z, hp, hk]
        rcases Int.lt_trichotomy q k with c | c | c
        · have := a3 q k q0 c k1; omega
        · exact e c
        · have := a3 k q k0 c q1; omega
      exact ⟨x, x0, x1, q2, by rw [j_upN hx]; exact q3, by rw [j_upN hx]; exact q4, by rw [j_upN hx]; exact q5⟩
theorem PT_new {cp cf cn cl dp df dn dl : Int → Int} {K m k g f y l : Int} (h : PTp cp cf cn cl dp df dn dl K m) (hr : (0 ≤ g ∧ g ≤ 299) ∧ (0 ≤ f ∧ f ≤ 2) ∧ (1 ≤ y ∧ y ≤ 999) ∧ (-2147483648 ≤ l ∧ l ≤ 2147483647)) (hm : m < 8) (hp : ∀ q, 0 ≤ q → q < m → cp q ≠ g) (k0 : 0 ≤ k) (k1 : k ≤ m) (hk : ∀ q, 0 ≤ q → q < k → dp q < g) (hk2 : k < m → g < dp k) : PTp (j_up cp m g) (j_up cf m f) (j_up cn m y) (j_up cl m l) (pi_I dp k m g) (pi_I df k m f) (pi_I dn k m y) (pi_I dl k m l) (m + 1) (m + 1) := by
  obtain ⟨a1, a2, a3, a4, a5, a6⟩ := h
  have hk3 : ∀ q, k ≤ q → q < m → g < dp q := fun q q0 q1 => by
    have z := hk2 (by omega)
    by_cases e : q = k
    · rw [e]; exact z
    · have := a3 k q k0 (by omega) q1; omega
  refine ⟨by omega, rfl, fun x q x0 x1 q1 => ?_, fun x q x0 x1 q0 q1 hh => ?_, fun x x0 x1 => ?_, fun q q0 q1 => ?_⟩
  · rcases Int.lt_trichotomy x k with c | c | c
    · rw [pi_lt c]
      rcases Int.lt_trichotomy q k with d | d | d
      · rw [pi_lt d]; exact a3 x q x0 x1 (by omega)
      · rw [d, pi_eq]; exact hk x x0 c
      · rw [pi_gt d (by omega)]; have := hk x x0 c; have := hk3 (q - 1) (by omega) (by omega); omega
    · rw [c, pi_eq, pi_gt (by omega) (by omega)]; exact hk3 _ (by omega) (by omega)
    · rw [pi_gt c (by omega), pi_gt (by omega) (by omega)]; exact a3 _ _ (by omega) (by omega) (by omega)
  · by_cases e : x = m
    · by_cases e2 : q = m
      · omega
      · rw [e, j_upS, j_upN e2] at hh; exact absurd hh.symm (hp q q0 (by omega))
    · by_cases e2 : q = m
      · rw [e2, j_upS, j_upN e] at hh; exact absurd hh (hp x x0 (by omega))
      · rw [j_upN e, j_upN e2] at hh; exact a4 x q x0 (by omega) q0 (by omega) hh
  · by_cases e : x = m
    · rw [e, j_upS, j_upS, j_upS, j_upS]
      exact ⟨hr, k, k0, by omega, pi_eq, pi_eq, pi_eq, pi_eq⟩
    · rw [j_upN e, j_upN e, j_upN e, j_upN e]
      obtain ⟨b1, q, q0, q1, q2, q3, q4, q5⟩ := a5 x x0 (by omega)
      by_cases c : q < k
      · exact ⟨b1, q, q0, by omega, by rw [pi_lt c]; exact q2, by rw [pi_lt c]; exact q3, by rw [pi_lt c]; exact q4, by rw [pi_lt c]; exact q5⟩
      · have w : ∀ d : Int → Int, ∀ v, pi_I d k m v (q + 1) = d q := fun d v => by rw [pi_gt (by omega) (by omega), show q + 1 - 1 = q by omega]
        exact ⟨b1, q + 1, by omega, by omega, by rw [w]; exact q2, by rw [w]; exact q3, by rw [w]; exact q4, by rw [w]; exact q5⟩
  · rcases Int.lt_trichotomy q k with c | c | c
    · rw [pi_lt c, pi_lt c, pi_lt c, pi_lt c]
      obtain ⟨x, x0, x1, w⟩ := a6 q q0 (by omega)
      have e : x ≠ m := by omega
      exact ⟨x, x0, by omega, by rw [j_upN e, j_upN e, j_upN e, j_upN e]; exact w⟩
    · rw [c, pi_eq, pi_eq, pi_eq, pi_eq]
      exact ⟨m, by omega, by omega, j_upS.symm, j_upS.symm, j_upS.symm, j_upS.symm⟩
    · rw [pi_gt c (by omega), pi_gt c (by omega), pi_gt c (by omega), pi_gt c (by omega)]
      obtain ⟨x, x0, x1, w⟩ := a6 (q - 1) (by omega) (by omega)
      have e : x ≠ m := by omega
      exact ⟨x, x0, by omega, by rw [j_upN e, j_upN e, j_upN e, j_upN e]; exact w⟩
/-- all but the parts -/
theorem RR_pt {n : Nat} {σ τ : k_St} (h1 : ∀ c, ¬ (25 ≤ c ∧ c ≤ 28) → ¬ (74 ≤ c ∧ c ≤ 77) → τ.1 c = σ.1 c) (h2 : ∀ c j, ¬ (c = 68 ∧ j = 12) → ¬ (c = 24 ∧ j = 4) → τ.2.1 c j = σ.2.1 c j) (h3 : τ.2.2 = σ.2.2) (hN : RPart τ) (hR : RR n σ) : RR n τ := by
  obtain ⟨r1, r2, r3, r4, r5, r6, r7⟩ := hR
  have g1 : ∀ c, c < 25 ∨ (28 < c ∧ c < 74) ∨ 77 < c → τ.1 c = σ.1 c := fun c hc => h1 c (by omega) (by omega)
  exact ⟨RKept_cg (fun c _ _ => g1 c (by omega)) (fun c j _ _ => h2 c j (by omega) (by omega)) (g1 69 (by omega)) r1, RActs_cg (fun c _ => g1 c (by omega)) (fun c j _ => h2 c j (by omega) (by omega)) (by rw [h3]) r2, RName_cg (g1 _ (by omega)) (g1 _ (by omega)) (g1 _ (by omega)) (h2 _ _ (by omega) (by omega)) r3, RPass_cg (g1 _ (by omega)) (g1 _ (by omega)) (g1 _ (by omega)) (g1 _ (by omega)) (h2 _ _ (by omega) (by omega)) (h2 _ _ (by omega) (by omega)) r4, hN, RSmall_cg (fun j _ _ => h2 5 j (by omega) (by omega)) (fun j _ => h2 68 j (by omega) (by omega)) r6, RIdx_cg (fun c _ _ _ => g1 c (by omega)) (fun c j _ => h2 c j (by omega) (by omega)) (fun c _ => g1 c (by omega)) (fun j _ => h2 68 j (by omega) (by omega)) (by rw [h3]) r7⟩
theorem pq_st_o {τ : k_St} {k g f y l : Int} {c : Nat} (hc : ¬ (74 ≤ c ∧ c ≤ 77)) : (pq_st τ k g f y l).1 c = τ.1 c := by
  unfold pq_st; rw [k_AN (by omega), k_AN (by omega), k_AN (by omega), k_AN (by omega)]
theorem pq_st_4 {τ : k_St} {k g f y l : Int} : (pq_st τ k g f y l).1 74 = j_up (τ.1 74) k g ∧ (pq_st τ k g f y l).1 75 = j_up (τ.1 75) k f ∧ (pq_st τ k g f y l).1 76 = j_up (τ.1 76) k y ∧ (pq_st τ k g f y l).1 77 = j_up (τ.1 77) k l := by
  unfold pq_st
  refine ⟨?_, ?_, ?_, ?_⟩
  · rw [k_AN (by omega), k_AN (by omega), k_AN (by omega), k_AA]
  · rw [k_AN (by omega), k_AN (by omega), k_AA]
  · rw [k_AN (by omega), k_AA]
  · rw [k_AA]
theorem p_set_o {σ : k_St} {p g f x l : Int} {c : Nat} (hc : ¬ (25 ≤ c ∧ c ≤ 28)) : (p_set σ p g f x l).1 c = σ.1 c := by
  unfold p_set; rw [k_I1, k_AN (by omega), k_AN (by omega), k_AN (by omega), k_AN (by omega)]
theorem p_set_4 {σ : k_St} {p g f x l : Int} : (p_set σ p g f x l).1 25 = j_up (σ.1 25) p g ∧ (p_set σ p g f x l).1 26 = j_up (σ.1 26) p f ∧ (p_set σ p g f x l).1 27 = j_up (σ.1 27) p x ∧ (p_set σ p g f x l).1 28 = j_up (σ.1 28) p l := by
  unfold p_set
  refine ⟨?_, ?_, ?_, ?_⟩
  · rw [k_I1, k_AN (by omega), k_AN (by omega), k_AN (by omega), k_AA]
  · rw [k_I1, k_AN (by omega), k_AN (by omega), k_AA]
  · rw [k_I1, k_AN (by omega), k_AA]
  · rw [k_I1, k_AA]
theorem p_set_f {σ : k_St} {p g f x l : Int} : (p_set σ p g f x l).2.1 24 4 = max (σ.2.1 24 4) (p + 1) := by unfold p_set; exact k_II
theorem p_set_g {σ : k_St} {p g f x l : Int} {c j : Nat} (h : ¬ (c = 24 ∧ j = 4)) : (p_set σ p g f x l).2.1 c j = σ.2.1 c j := by unfold p_set; rw [k_IN h]; rfl
theorem p_part {G : j_G} {X : k_X} {n : Nat} {σ : k_St} (hR : RR n σ) {g : Int} (hg : -2147483648 ≤ g ∧ g ≤ 2147483647) {f : Int} (hf : -2147483648 ≤ f ∧ f ≤ 2147483647) {x : Int} (hx : -2147483648 ≤ x ∧ x ≤ 2147483647) {l : Int} (hl : -2147483648 ≤ l ∧ l ≤ 2147483647) : pr_ok G X mX11_part mX12_part [j_i g, j_i f, j_i x, j_i l] n σ 0 0 := by
  have hn := RR_n hR
  have hP : RPart σ := hR.2.2.2.2.1
  obtain ⟨a1, a2, a3, a4, a5, a6⟩ := id hP
  refine ⟨_, c_part hR hg hf hx hl, fun v n' σ' hq => ?_⟩
  obtain ⟨r, hv, rfl, hC⟩ := hq
  have hfr : (∀ c, ¬ (25 ≤ c ∧ c ≤ 28) → σ'.1 c = σ.1 c) ∧ (∀ c j, ¬ (c = 24 ∧ j = 4) → σ'.2.1 c j = σ.2.1 c j) ∧ σ'.2.2 = σ.2.2 := by
    rcases hC with ⟨_, _, q⟩ | ⟨_, p, _, ⟨_, _, q⟩ | ⟨_, q, _⟩⟩
    · rw [q]; exact ⟨fun _ _ => rfl, fun _ _ _ => rfl, rfl⟩
    · rw [q]; exact ⟨fun _ _ => rfl, fun _ _ _ => rfl, rfl⟩
    · rw [q]; exact ⟨fun c hc => p_set_o hc, fun c j hc => p_set_g hc, rfl⟩
  obtain ⟨f1, f2, f3⟩ := hfr
  have hdp : ∀ q, 0 ≤ q → q < σ.2.1 68 12 → 0 ≤ σ.1 74 q ∧ σ.1 74 q ≤ 299 := fun q q0 q1 => by
    obtain ⟨p, p0, p1, e, _⟩ := a6 q q0 q1
    rw [e]; exact (a5 p p0 p1).1.1
  refine ⟨hn, r, hv, k_runw (fun v2 n2 σ2 q => ?_) (e_part hn (by rw [f2 _ _ (by omega)]; exact a1) (by rw [f2 _ _ (by omega), f1 _ (by omega)]; exact hdp) hg hf hx hl)⟩
  obtain ⟨rfl, hD⟩ := q
  rw [f2 68 12 (by omega)] at hD
  have e74 : σ'.1 74 = σ.1 74 := f1 74 (by omega)
  rcases hC with ⟨c1, c2, c3⟩ | ⟨c1, p, cs, hC⟩
  · rcases hD with ⟨d1, d2, d3⟩ | ⟨d1, _⟩
    · rw [c3] at d3; rw [d3, d2, c2]; exact ⟨rfl, hR⟩
    · exact absurd d1 c1
  · rcases hD with ⟨d1, _⟩ | ⟨d1, k, ⟨k0, k1, k2, k3⟩, hD⟩
    · exact absurd c1 d1
    · rw [e74] at k2 k3 hD
      rw [f2 68 12 (by omega)] at k1 k3
      have hr : (0 ≤ g ∧ g ≤ 299) ∧ (0 ≤ f ∧ f ≤ 2) ∧ (1 ≤ x ∧ x ≤ 999) ∧ (-2147483648 ≤ l ∧ l ≤ 2147483647) := ⟨c1.1, c1.2.1, c1.2.2.1, hl⟩
      have hin : (p = σ.2.1 68 12 ∧ (∀ q, 0 ≤ q → q < σ.2.1 68 12 → σ.1 25 q ≠ g) ∧ (k < σ.2.1 68 12 → σ.1 74 k ≠ g)) ∨ (0 ≤ p ∧ p < σ.2.1 68 12 ∧ σ.1 25 p = g ∧ k < σ.2.1 68 12 ∧ σ.1 74 k = g) := by
        rcases cs with ⟨q1, q2⟩ | ⟨q1, q2, q3⟩
        · rw [a2] at q1 q2
          refine Or.inl ⟨q1, q2, fun kk e => ?_⟩
          obtain ⟨w, w0, w1, w2, _⟩ := a6 k k0 kk
          exact q2 w w0 w1 (by rw [← w2]; exact e)
        · rw [a2] at q2
          obtain ⟨_, w, w0, w1, w2, _⟩ := a5 p q1 q2
          rw [q3] at w2
          have hwk : ¬ w < k := fun z => by have := k2 w w0 z; omega
          have z := k3 (by omega)
          refine Or.inr ⟨q1, q2, q3, by omega, ?_⟩
          by_cases e : w = k
          · rw [← e]; exact w2
          · have := a3 k w k0 (by omega) w1; omega
      rcases hin with ⟨i1, i2, i3⟩ | ⟨i1, i2, i3, i4, i5⟩
      · rcases hC with ⟨c2, c3, c4⟩ | ⟨c2, c3, c4⟩
        · rcases hD with ⟨_, _, d3, d4⟩ | ⟨_, d2, _⟩ | ⟨⟨d1, d2⟩, _⟩
          · rw [c4] at d4; rw [d4, d3, c3]; exact ⟨rfl, hR⟩
          · exact absurd d2 (by omega)
          · exact absurd d2 (i3 d1)
        · rcases hD with ⟨_, d2, d3, d4⟩ | ⟨d1, d2, d3, τ, d4, d5⟩ | ⟨⟨d1, d2⟩, _⟩
          · exact absurd d2 (by omega)
          · obtain ⟨b1, b2, b3⟩ := d4
            have er : r = σ.2.1 68 12 + 1 := by rw [c4, c3, p_set_f, a2, i1]; omega
            refine ⟨by rw [d3, er], ?_⟩
            have s1 : ∀ c, ¬ (74 ≤ c ∧ c ≤ 77) → σ2.1 c = σ'.1 c := fun c hc => by rw [d5, pq_st_o hc, k_I1]; exact b1 c hc
            have s2 : ∀ c j, ¬ (c = 68 ∧ j = 12) → σ2.2.1 c j = σ'.2.1 c j := fun c j hc => by rw [d5]; show (k_sI τ 68 12 _).2.1 c j = _; rw [k_IN hc, b3]
            have s3 : σ2.2.1 68 12 = σ.2.1 68 12 + 1 := by rw [d5]; show (k_sI τ 68 12 _).2.1 68 12 = _; rw [k_II]
            have s4 : ∀ c, 74 ≤ c → c ≤ 77 → τ.1 c = j_cpy (σ.1 c) (σ.1 c) k (k + 1) (σ.2.1 68 12 - k) := fun c q0 q1 => by rw [b2 c q0 q1, f1 c (by omega), f2 68 12 (by omega)]
            refine RR_pt (σ := σ) (fun c g1 g2 => by rw [s1 c g2, f1 c g1]) (fun c j g1 g2 => by rw [s2 c j g1, f2 c j g2]) (by rw [d5]; show τ.2.2 = _; rw [b3, f3]) ?_ hR
            have z : σ2.2.1 24 4 = σ.2.1 68 12 + 1 := by rw [s2 24 4 (by omega), ← c4, er]
            unfold RPart
            rw [z, s3, s1 25 (by omega), s1 26 (by omega), s1 27 (by omega), s1 28 (by omega), c3, p_set_4.1, p_set_4.2.1, p_set_4.2.2.1, p_set_4.2.2.2, d5, pq_st_4.1, pq_st_4.2.1, pq_st_4.2.2.1, pq_st_4.2.2.2, k_I1, s4 74 (by omega) (by omega), s4 75 (by omega) (by omega), s4 76 (by omega) (by omega), s4 77 (by omega) (by omega), i1]
            exact PT_new hP hr d2 i2 k0 k1 k2 (fun q => by have := k3 q; have := i3 q; omega)
          · exact absurd d2 (i3 d1)
      · rcases hC with ⟨c2, c3, c4⟩ | ⟨c2, c3, c4⟩
        · omega
        · rcases hD with ⟨d1, _⟩ | ⟨d1, _⟩ | ⟨d1, d2, d3⟩
          · exact absurd d1 (by omega)
          · exact absurd d1 (by omega)
          · have er : r = σ.2.1 68 12 := by rw [c4, c3, p_set_f, a2]; omega
            refine ⟨by rw [d2, er], ?_⟩
            have s1 : ∀ c, ¬ (74 ≤ c ∧ c ≤ 77) → σ2.1 c = σ'.1 c := fun c hc => by rw [d3, pq_st_o hc]
            refine RR_pt (σ := σ) (fun c g1 g2 => by rw [s1 c g2, f1 c g1]) (fun c j g1 g2 => by rw [d3]; show σ'.2.1 c j = _; rw [f2 c j g2]) (by rw [d3]; exact f3) ?_ hR
            unfold RPart
            rw [show σ2.2.1 24 4 = σ.2.1 68 12 by rw [d3]; show σ'.2.1 24 4 = _; rw [← c4, er], show σ2.2.1 68 12 = σ.2.1 68 12 by rw [d3]; show σ'.2.1 68 12 = _; rw [f2 68 12 (by omega)], s1 25 (by omega), s1 26 (by omega), s1 27 (by omega), s1 28 (by omega), d3, pq_st_4.1, pq_st_4.2.1, pq_st_4.2.2.1, pq_st_4.2.2.2, f1 74 (by omega), f1 75 (by omega), f1 76 (by omega), f1 77 (by omega), c3, p_set_4.1, p_set_4.2.1, p_set_4.2.2.1, p_set_4.2.2.2]
            have hP2 := hP
            unfold RPart at hP2
            rw [a2] at hP2
            exact PT_rep hP2 hr i1 i2 i3 k0 i4 i5
