/-- kept at b in τ is a copy of kept at a in σ -/
def CP (σ : k_St) (a : Nat) (τ : k_St) (b : Nat) : Prop := (τ.2.1 b 1 = σ.2.1 a 1 ∧ τ.2.1 (b + 2) 3 = σ.2.1 (a + 2) 3 ∧ τ.2.1 (b + 10) 5 = σ.2.1 (a + 10) 5) ∧ (∀ k, 0 ≤ k → k < σ.2.1 a 1 → τ.1 (b + 1) k = σ.1 (a + 1) k) ∧ (∀ i, 0 ≤ i → i < 480 → τ.1 (b + 4) i = σ.1 (a + 4) i ∧ τ.1 (b + 7) i = σ.1 (a + 7) i) ∧ (∀ h, 0 ≤ h → h < 30 → τ.1 (b + 5) h = σ.1 (a + 5) h ∧ τ.1 (b + 8) h = σ.1 (a + 8) h ∧ τ.1 (b + 9) h = σ.1 (a + 9) h) ∧ ∀ d : Nat, 11 ≤ d → d ≤ 15 → ∀ m, 0 ≤ m → m < 50 → τ.1 (b + d) m = σ.1 (a + d) m
theorem CP_cp {σ : k_St} {a b : Nat} (h : a + 15 < b ∨ b + 15 < a) : CP σ b (kp_cp σ a b) a := by
  obtain ⟨h4, h5, h7, h8, h9⟩ := kp_cp_h (σ := σ) h
  refine ⟨kp_cp_n h, fun k k0 k1 => by rw [kp_cp_w, j_cpy_in k0 k1], fun i i0 i1 => by rw [h4, h7, j_cpy_in i0 i1, j_cpy_in i0 i1]; exact ⟨rfl, rfl⟩, fun q q0 q1 => by rw [h5, h8, h9, j_cpy_in q0 q1, j_cpy_in q0 q1, j_cpy_in q0 q1]; exact ⟨rfl, rfl, rfl⟩, fun d d0 d1 m m0 m1 => by rw [kp_cp_m h d0 d1, j_cpy_in m0 m1]⟩
theorem CP_cg {σ σ' τ τ' : k_St} {a b : Nat} (h1 : ∀ c, a ≤ c → c ≤ a + 15 → σ'.1 c = σ.1 c) (h2 : ∀ c j, a ≤ c → c ≤ a + 15 → σ'.2.1 c j = σ.2.1 c j) (g1 : ∀ c, b ≤ c → c ≤ b + 15 → τ'.1 c = τ.1 c) (g2 : ∀ c j, b ≤ c → c ≤ b + 15 → τ'.2.1 c j = τ.2.1 c j) (h : CP σ a τ b) : CP σ' a τ' b := by
  unfold CP at h ⊢
  rw [h2 _ _ (by omega) (by omega), h2 _ _ (by omega) (by omega), h2 _ _ (by omega) (by omega), g2 _ _ (by omega) (by omega), g2 _ _ (by omega) (by omega), g2 _ _ (by omega) (by omega), h1 (a + 1) (by omega) (by omega), h1 (a + 4) (by omega) (by omega), h1 (a + 5) (by omega) (by omega), h1 (a + 7) (by omega) (by omega), h1 (a + 8) (by omega) (by omega), h1 (a + 9) (by omega) (by omega), g1 (b + 1) (by omega) (by omega), g1 (b + 4) (by omega) (by omega), g1 (b + 5) (by omega) (by omega), g1 (b + 7) (by omega) (by omega), g1 (b + 8) (by omega) (by omega), g1 (b + 9) (by omega) (by omega)]
  refine ⟨h.1, h.2.1, h.2.2.1, h.2.2.2.1, fun d d0 d1 m m0 m1 => ?_⟩
  rw [h1 _ (by omega) (by omega), g1 _ (by omega) (by omega)]; exact h.2.2.2.2 d d0 d1 m m0 m1
theorem KR_CP {σ τ : k_St} {a b : Nat} {g : Int → Int} (hk : kp_wf σ a) (h : KR σ a g) (c : CP σ a τ b) : KR τ b g := by
  obtain ⟨⟨r1, r2, r3⟩, r4, _⟩ := KR_rg hk h
  obtain ⟨⟨a1, a2⟩, ⟨b1, b2⟩, c1, c2⟩ := h
  obtain ⟨⟨n1, n2, n3⟩, w, s, q, m⟩ := c
  refine ⟨⟨n1.trans a1, fun k k0 k1 => by rw [w k k0 (by omega)]; exact a2 k k0 k1⟩, ⟨n2.trans b1, fun h h0 h1 => ?_⟩, n3.trans c1, fun x x0 x1 => ?_⟩
  · obtain ⟨e1, e2, e3, e4, e5⟩ := b2 h h0 h1
    obtain ⟨q1, q2, q3⟩ := q h h0 (by omega)
    have r5 := r4 h h0 h1
    exact ⟨q3.trans e1, q1.trans e2, q2.trans e3, fun i i0 i1 => by rw [(s _ (by omega) (by omega)).1]; exact e4 i i0 i1, fun i i0 i1 => by rw [(s _ (by omega) (by omega)).2]; exact e5 i i0 i1⟩
  · obtain ⟨e1, e2, e3, e4, e5⟩ := c2 x x0 x1
    have hx : x < 50 := by omega
    exact ⟨(m 15 (by omega) (by omega) x x0 hx).trans e1, (m 11 (by omega) (by omega) x x0 hx).trans e2, (m 12 (by omega) (by omega) x x0 hx).trans e3, by rw [m 13 (by omega) (by omega) x x0 hx]; exact e4, (m 14 (by omega) (by omega) x x0 hx).trans e5⟩
theorem KI_CP {σ τ : k_St} {a b : Nat} (hk : kp_wf σ a) (h : KI σ a) (c : CP σ a τ b) : KI τ b := by
  obtain ⟨⟨n1, n2, n3⟩, w, s, q, m⟩ := c
  have k2 := hk.2.1.1
  have k6 := hk.2.2.1
  have e1 : h_isA τ b = h_isA σ a := by
    funext x; unfold h_isA; rw [n2]
    refine propext ⟨fun ⟨x0, x1, x2⟩ => ⟨x0, x1, ?_⟩, fun ⟨x0, x1, x2⟩ => ⟨x0, x1, ?_⟩⟩
    · rw [← (q x x0 (by omega)).2.2]; exact x2
    · rw [(q x x0 (by omega)).2.2]; exact x2
  have e3 : ∀ x i, h_isA σ a x → r_sgn τ (b + 3) 30 x i = r_sgn σ (a + 3) 30 x i := fun x i hx => by
    have hx3 : x < 30 := by have := hx.2.1; omega
    have hc := hk.2.1.2.1.1 x hx.1 hx3
    have e5 : τ.1 (b + 3 + 2) x = σ.1 (a + 3 + 2) x := (q x hx.1 hx3).1
    unfold r_sgn; rw [e5]
    by_cases g : 0 ≤ x ∧ x < (30 : Nat) ∧ 0 ≤ i ∧ i < σ.1 (a + 3 + 2) x
    · rw [if_pos g, if_pos g]; exact (s _ (by omega) (by have : i < 16 := by have := g.2.2.2; have : σ.1 (a + 3 + 2) x ≤ 16 := hc.2; omega
                                                         omega)).1
    · rw [if_neg g, if_neg g]
  refine ⟨fun x y hx hy hxy => ?_, fun x hx => ?_, fun x x0 x1 => ?_, fun x x0 x1 => by rw [n3] at x1; rw [m 12 (by omega) (by omega) x x0 (by omega), n1]; exact h.2.2.2 x x0 x1⟩
  · rw [e1] at hx hy
    obtain ⟨i, i0, i1, i2⟩ := h.1 x y hx hy hxy
    exact ⟨i, i0, i1, by rw [e3 x i hx, e3 y i hy]; exact i2⟩
  · have hx5 : x < 50 := by have := hx.2.1; rw [n3] at this; omega
    have hx' : m_isA σ a x := ⟨hx.1, by rw [← n3]; exact hx.2.1, by rw [← m 15 (by omega) (by omega) x hx.1 hx5]; exact hx.2.2⟩
    have := h.2.1 x hx'
    rw [e1, m 11 (by omega) (by omega) x hx.1 hx5, m 13 (by omega) (by omega) x hx.1 hx5]; exact this
  · rw [n2] at x1
    have hx3 : x < 30 := by omega
    obtain ⟨q1, q2, _⟩ := q x x0 hx3
    obtain ⟨y1, y2⟩ := h.2.2.1 x x0 x1
    have c1 : 0 ≤ σ.1 (a + 5) x ∧ σ.1 (a + 5) x ≤ 16 := hk.2.1.2.1.1 x x0 hx3
    have c2 : 0 ≤ σ.1 (a + 8) x ∧ σ.1 (a + 8) x ≤ 16 := hk.2.1.2.2.1.1 x x0 hx3
    refine ⟨fun i i0 i1 => ?_, fun i i0 i1 => ?_⟩
    · rw [q1] at i1; rw [(s _ (by omega) (by omega)).1]; exact y1 i i0 i1
    · rw [q2] at i1; rw [(s _ (by omega) (by omega)).2]; exact y2 i i0 i1
/-- what save does -/
def SV (n : Nat) (σ : k_St) (n' : Nat) (τ : k_St) : Prop := ∃ s r r' : Nat, (s < 40 ∧ σ.2.1 22 1 = (s : Int) ∧ n = 101 + 16 * r ∧ n' = 101 + 16 * r' ∧ s < r' ∧ r ≤ r' ∧ r' ≤ 40 ∧ (r' = r ∨ (s = r ∧ r' = r + 1))) ∧ (∀ i : Nat, i < r' → τ.2.2 23 (i : Int) = some (101 + 16 * i)) ∧ (∀ i : Nat, r' ≤ i → τ.2.2 23 (i : Int) = none) ∧ (∀ c, c < 101 → τ.1 c = σ.1 c) ∧ (∀ c j, c < 101 → ¬ (c = 22 ∧ (j = 1 ∨ j = 2)) → τ.2.1 c j = σ.2.1 c j) ∧ (∀ c, c ≠ 23 → τ.2.2 c = σ.2.2 c) ∧ τ.2.1 22 1 = ((s : Int) + 1) % 40 ∧ τ.2.1 22 2 = min (σ.2.1 22 2 + 1) 40 ∧ (∀ t : Nat, t < r → t ≠ s → ∀ c, 101 + 16 * t ≤ c → c ≤ 101 + 16 * t + 15 → τ.1 c = σ.1 c ∧ ∀ j, τ.2.1 c j = σ.2.1 c j) ∧ kp_wf τ (101 + 16 * s) ∧ CP σ 6 τ (101 + 16 * s)
theorem z_new_wf {σ : k_St} {n : Nat} : kp_wf (z_new σ n) n := by
  have e1 : ∀ c i, n ≤ c → c < n + 16 → (z_new σ n).1 c i = 0 := fun c i h1 h2 => by unfold z_new; simp only; rw [if_pos ⟨h1, h2⟩]
  have e2 : ∀ c j, n ≤ c → c < n + 16 → (z_new σ n).2.1 c j = 0 := fun c j h1 h2 => by unfold z_new; simp only; rw [if_pos ⟨h1, h2⟩]
  refine ⟨by rw [e2 _ _ (by omega) (by omega)]; omega, ⟨by rw [e2 _ _ (by omega) (by omega)]; omega, ⟨fun r _ _ => by rw [e1 _ _ (by omega) (by omega)]; omega, fun i => by rw [e1 _ _ (by omega) (by omega)]; omega⟩, ⟨fun r _ _ => by rw [e1 _ _ (by omega) (by omega)]; omega, fun i => by rw [e1 _ _ (by omega) (by omega)]; omega⟩, fun i => Or.inl (e1 _ _ (by omega) (by omega))⟩, by rw [e2 _ _ (by omega) (by omega)]; omega, fun i => Or.inl (e1 _ _ (by omega) (by omega)), fun m m0 m1 => ?_⟩
  rw [e2 _ _ (by omega) (by omega)] at m1; omega
def sv_post (n : Nat) (σ : k_St) : k_P := fun v n' τ => v = none ∧ SV n σ n' τ
theorem a_sv_1 {σ : k_St} {s : Nat} {k : Int} {c : Nat} : (a_sv σ s k).1 c = (kp_cp σ (101 + 16 * s) 6).1 c := rfl
theorem a_sv_f {σ : k_St} {s : Nat} {k : Int} {c j : Nat} (h : ¬ (c = 22 ∧ (j = 1 ∨ j = 2))) : (a_sv σ s k).2.1 c j = (kp_cp σ (101 + 16 * s) 6).2.1 c j := by unfold a_sv; rw [k_IN (by omega), k_IN (by omega)]
theorem k_runw {G : j_G} {X : k_X} {M : j_M} {args : List Value} {n : Nat} {σ : k_St} {c sl : Nat} {Q Q' : k_P} (hq : ∀ v n σ, Q v n σ → Q' v n σ) (k : k_run G X M args n σ c sl Q) : k_run G X M args n σ c sl Q' := by
  intro p e ha hc hk s m args0 below hf happ hP hK
  obtain ⟨z, o, h1, h2, h3, ⟨⟨⟨v, h, g1, ⟨n', σ', g2, g3⟩, g4⟩, g5⟩, h5⟩⟩ := k p e ha hc hk s m args0 below hf happ hP hK
  exact ⟨z, o, h1, h2, h3, ⟨⟨⟨v, h, g1, ⟨n', σ', g2, hq _ _ _ g3⟩, g4⟩, g5⟩, h5⟩⟩
theorem sv_1 {σ : k_St} {s r : Nat} (hk : kp_wf σ 6) (hs : s < r) (hr : r ≤ 40) (hx : σ.2.1 22 1 = (s : Int)) (hw : kp_wf σ (101 + 16 * s)) (hr1 : ∀ i : Nat, i < r → σ.2.2 23 (i : Int) = some (101 + 16 * i)) (hr2 : ∀ i : Nat, r ≤ i → σ.2.2 23 (i : Int) = none) : SV (101 + 16 * r) σ (101 + 16 * r) (a_sv σ s (σ.2.1 22 2)) := by
  refine ⟨s, r, r, ⟨by omega, hx, rfl, rfl, hs, by omega, hr, Or.inl rfl⟩, hr1, hr2, fun c hc => by rw [a_sv_1, kp_cp_o (by omega)], fun c j hc hj => by rw [a_sv_f hj, kp_cp_f (by omega)], fun c _ => rfl, by unfold a_sv; rw [k_IN (by omega), k_II], by unfold a_sv; rw [k_II], fun t ht hts c c0 c1 => ⟨by rw [a_sv_1, kp_cp_o (by omega)], fun j => by rw [a_sv_f (by omega), kp_cp_f (by omega)]⟩, ?_, ?_⟩
  · exact kp_wf_congr (σ := kp_cp σ (101 + 16 * s) 6) (fun c _ _ => a_sv_1) (fun c j h1 _ => a_sv_f (by omega)) (kp_cp_wf (by omega) hw hk)
  · exact CP_cg (fun _ _ _ => rfl) (fun _ _ _ _ => rfl) (fun c _ _ => a_sv_1) (fun c j h1 _ => a_sv_f (by omega)) (CP_cp (σ := σ) (a := 101 + 16 * s) (b := 6) (by omega))
theorem sv_2 {σ : k_St} {s : Nat} (hk : kp_wf σ 6) (hs : s < 40) (hx : σ.2.1 22 1 = (s : Int)) (hr1 : ∀ i : Nat, i < s → σ.2.2 23 (i : Int) = some (101 + 16 * i)) (hr2 : ∀ i : Nat, s ≤ i → σ.2.2 23 (i : Int) = none) : SV (101 + 16 * s) σ (101 + 16 * s + 16) (a_sv (k_sR (z_new σ (101 + 16 * s)) 23 (s : Int) (some (101 + 16 * s))) s (σ.2.1 22 2)) := by
  obtain ⟨ρ, hρ⟩ : ∃ z, z = k_sR (z_new σ (101 + 16 * s)) 23 (s : Int) (some (101 + 16 * s)) := ⟨_, rfl⟩
  rw [← hρ]
  have a1 : ∀ c, ¬ (101 + 16 * s ≤ c ∧ c < 101 + 16 * s + 16) → ρ.1 c = σ.1 c := fun c hc => by rw [hρ]; unfold k_sR z_new; simp only; rw [if_neg hc]
  have a2 : ∀ c j, ¬ (101 + 16 * s ≤ c ∧ c < 101 + 16 * s + 16) → ρ.2.1 c j = σ.2.1 c j := fun c j hc => by rw [hρ]; unfold k_sR z_new; simp only; rw [if_neg hc]
  have a3 : ∀ c i, ρ.2.2 c i = if c = 23 ∧ i = (s : Int) then some (101 + 16 * s) else σ.2.2 c i := fun c i => by rw [hρ]; rfl
  have a4 : kp_wf ρ (101 + 16 * s) := kp_wf_congr (σ := z_new σ (101 + 16 * s)) (fun c _ _ => by rw [hρ]; rfl) (fun c j _ _ => by rw [hρ]; rfl) z_new_wf
  have a5 : kp_wf ρ 6 := kp_wf_congr (σ := σ) (fun c _ _ => a1 c (by omega)) (fun c j _ _ => a2 c j (by omega)) hk
  refine ⟨s, s, s + 1, ⟨hs, hx, rfl, by omega, by omega, by omega, by omega, Or.inr ⟨rfl, rfl⟩⟩, fun i hi => ?_, fun i hi => ?_, fun c hc => by rw [a_sv_1, kp_cp_o (by omega), a1 c (by omega)], fun c j hc hj => by rw [a_sv_f hj, kp_cp_f (by omega), a2 c j (by omega)], fun c hc => ?_, by unfold a_sv; rw [k_IN (by omega), k_II], by unfold a_sv; rw [k_II], fun t ht hts c c0 c1 => ⟨by rw [a_sv_1, kp_cp_o (by omega), a1 c (by omega)], fun j => by rw [a_sv_f (by omega), kp_cp_f (by omega), a2 c j (by omega)]⟩, ?_, ?_⟩
  · show ρ.2.2 23 (i : Int) = _
    rw [a3]
    by_cases g : i = s
    · rw [if_pos ⟨rfl, by omega⟩, g]
    · rw [if_neg (by omega)]; exact hr1 i (by omega)
  · show ρ.2.2 23 (i : Int) = _
    rw [a3, if_neg (by omega)]; exact hr2 i (by omega)
  · show ρ.2.2 c = _
    funext i; rw [a3, if_neg (by omega)]
  · exact kp_wf_congr (σ := kp_cp ρ (101 + 16 * s) 6) (fun c _ _ => a_sv_1) (fun c j h1 _ => a_sv_f (by omega)) (kp_cp_wf (by omega) a4 a5)
  · exact CP_cg (σ := ρ) (fun c _ _ => (a1 c (by omega)).symm) (fun c j _ _ => (a2 c j (by omega)).symm) (fun c _ _ => a_sv_1) (fun c j h1 _ => a_sv_f (by omega)) (CP_cp (σ := ρ) (a := 101 + 16 * s) (b := 6) (by omega))
theorem s_save {G : j_G} {X : k_X} {n : Nat} {σ : k_St} (hk : kp_wf σ 6) (hR : RActs n σ) : k_run G X mX0_save [.ref 22, .ref 6] n σ 16 1618 (sv_post n σ) := by
  obtain ⟨r, r1, r2, r3, r4, r5, r6, r7, _, _, _, r8, _⟩ := hR
  obtain ⟨s, hs⟩ : ∃ s : Nat, σ.2.1 22 1 = (s : Int) := ⟨(σ.2.1 22 1).toNat, by omega⟩
  by_cases h : s < r
  · have k := s_save1 (G := G) (X := X) (n := n) (by omega) hk (show s < 40 by omega) hs r6 (by omega) (r3 s h)
    refine k_runw (fun v n' τ hq => ?_) k
    obtain ⟨q1, q2, q3⟩ := hq
    rw [q1, q2, q3, r2]
    exact ⟨rfl, sv_1 hk h r1 hs (r8 s h) r3 r4⟩
  · have hsr : s = r := by
      by_cases g : r < 40
      · have := r7 g; omega
      · omega
    subst hsr
    have k := s_save2 (G := G) (X := X) hk (show s < 40 by omega) hs r6 (r4 s (by omega))
    rw [r2]
    refine k_runw (fun v n' τ hq => ?_) k
    obtain ⟨q1, q2, q3⟩ := hq
    rw [q1, q2, q3]
    exact ⟨rfl, sv_2 hk (by omega) hs r3 r4⟩
theorem RActs_step {n n' : Nat} {σ τs τ : k_St} (hR : RActs n σ) (hK : RKept σ) (hS : SV n σ n' τs) (c1 : ∀ c, 101 ≤ c → τ.1 c = τs.1 c) (c2 : ∀ c j, 101 ≤ c ∨ (c = 22 ∧ (j = 1 ∨ j = 2)) → τ.2.1 c j = τs.2.1 c j) (c3 : τ.2.2 23 = τs.2.2 23) (m1 : τ.1 70 = j_cpy (σ.1 69) (σ.1 70) 0 ((d_f σ + d_m σ) % 40 * 1733) 1733) (m2 : τ.2.1 68 4 = d_f σ) (m3 : τ.2.1 68 5 = d_m σ + 1) : RActs n' τ := by
  obtain ⟨r, r1, r2, r3, r4, r5, r6, r7, r8, r9, r10, r11, r12, r13⟩ := hR
  obtain ⟨k1, k2, k3, k4⟩ := hK
  obtain ⟨s, q, r', ⟨s1, s2, s3, s4, s5, s6, s7, s8⟩, t1, t2, t3, t4, t5, t6, t7, t8, t9, t10⟩ := hS
  have hqr : q = r := by omega
  subst hqr
  have f0 : d_f σ = if σ.2.1 22 2 = 40 then (σ.2.1 68 4 + 1) % 40 else σ.2.1 68 4 := by unfold d_f; rw [r8]
  have f1 : d_m σ = if σ.2.1 22 2 = 40 then 39 else σ.2.1 22 2 := by unfold d_m; rw [r8]
  rw [r8] at r10
  have hslot : (d_f σ + d_m σ) % 40 = s := by rw [f0, f1]; split <;> omega
  rw [hslot] at m1
  have n1 : τ.2.1 22 1 = ((s : Int) + 1) % 40 := by rw [c2 22 1 (by omega)]; exact t6
  have n2 : τ.2.1 22 2 = min (σ.2.1 22 2 + 1) 40 := by rw [c2 22 2 (by omega)]; exact t7
  have hold : ∀ t : Nat, t < q → t ≠ s → (∀ c, 101 + 16 * t ≤ c → c ≤ 101 + 16 * t + 15 → τ.1 c = σ.1 c) ∧ ∀ c j, 101 + 16 * t ≤ c → c ≤ 101 + 16 * t + 15 → τ.2.1 c j = σ.2.1 c j := fun t ht hts => ⟨fun c h1 h2 => by rw [c1 c (by omega)]; exact (t8 t ht hts c h1 h2).1, fun c j h1 h2 => by rw [c2 c j (by omega)]; exact (t8 t ht hts c h1 h2).2 j⟩
  refine ⟨r', s7, s4, by rw [c3]; exact t1, by rw [c3]; exact t2, by rw [n1]; omega, by rw [n2]; omega, fun h => ?_, by rw [m3, n2, f1]; split <;> omega, by rw [m2, f0]; split <;> omega, by rw [m2, m3, n1, f0, f1]; split <;> omega, fun t ht => ?_, fun i => ?_, fun t ht hj => ?_⟩
  · rw [n1, n2]
    rcases s8 with g | g
    · have := r7 (by omega); omega
    · have := r7 (by omega); omega
  · by_cases g : t = s
    · subst g
      exact kp_wf_congr (σ := τs) (fun c h1 h2 => c1 c (by omega)) (fun c j h1 h2 => c2 c j (by omega)) t9
    · have htq : t < q := by omega
      exact kp_wf_congr (hold t htq g).1 (hold t htq g).2 (r11 t htq)
  · rw [m1]; unfold j_cpy; split
    · exact k4 _
    · exact r12 _
  · obtain ⟨j, j0, j1, j2⟩ := hj
    by_cases g : t = s
    · subst g
      have hcp : CP σ 6 τ (101 + 16 * t) := CP_cg (fun _ _ _ => rfl) (fun _ _ _ _ => rfl) (fun c h1 h2 => c1 c (by omega)) (fun c j h1 h2 => c2 c j (by omega)) t10
      have hkr := KR_CP k1 k2 hcp
      obtain ⟨w1, w2, _⟩ := KR_rg k1 k2
      refine ⟨KR_congr (fun i i0 i1 => ?_) w1 (fun h h0 h1 => by have := w2 h h0 h1; omega) (fun _ _ _ => rfl) (fun _ _ _ _ => rfl) hkr, KI_CP k1 k3 hcp⟩
      show τ.1 70 (1733 * (t : Int) + i) = σ.1 69 i
      rw [m1]; unfold j_cpy; rw [if_pos (show (t : Int) * 1733 ≤ 1733 * (t : Int) + i ∧ 1733 * (t : Int) + i < (t : Int) * 1733 + 1733 by omega), show (0 : Int) + (1733 * (t : Int) + i - (t : Int) * 1733) = i by omega]
    · have hv : ∃ j' : Int, 0 ≤ j' ∧ j' < σ.2.1 22 2 ∧ (σ.2.1 68 4 + j') % 40 = t := by
        rw [m2, f0] at j2
        rw [n2] at j1
        by_cases h40 : σ.2.1 22 2 = 40
        · rw [if_pos h40] at j2
          exact ⟨j + 1, by omega, by omega, by omega⟩
        · rw [if_neg h40] at j2
          exact ⟨j, by omega, by omega, by omega⟩
      obtain ⟨y1, y2⟩ := r13 t ht hv
      have htq : t < q := by
        obtain ⟨j', a1, a2, a3⟩ := hv
        by_cases h40 : q < 40
        · have := r7 h40; omega
        · omega
      obtain ⟨w1, w2, _⟩ := KR_rg (r11 t htq) y1
      refine ⟨KR_congr (fun i i0 i1 => ?_) w1 (fun h h0 h1 => by have := w2 h h0 h1; omega) (hold t htq g).1 (hold t htq g).2 y1, KI_congr (hold t htq g).1 (hold t htq g).2 y2⟩
      show τ.1 70 (1733 * (t : Int) + i) = σ.1 70 (1733 * (t : Int) + i)
      rw [m1]; unfold j_cpy; rw [if_neg (show ¬ ((s : Int) * 1733 ≤ 1733 * (t : Int) + i ∧ 1733 * (t : Int) + i < (s : Int) * 1733 + 1733) by omega)]
theorem RKept_cg {σ τ : k_St} (h1 : ∀ c, 6 ≤ c → c ≤ 21 → τ.1 c = σ.1 c) (h2 : ∀ c j, 6 ≤ c → c ≤ 21 → τ.2.1 c j = σ.2.1 c j) (h3 : τ.1 69 = σ.1 69) (h : RKept σ) : RKept τ := by
  obtain ⟨k1, k2, k3, k4⟩ := h
  obtain ⟨w1, w2, _⟩ := KR_rg k1 k2
  exact ⟨kp_wf_congr h1 h2 k1, KR_congr (fun i _ _ => by rw [h3]) w1 (fun h h0 h1 => by have := w2 h h0 h1; omega) h1 h2 k2, KI_congr h1 h2 k3, by rw [h3]; exact k4⟩
theorem RName_cg {σ τ : k_St} (h1 : τ.1 31 = σ.1 31) (h2 : τ.1 32 = σ.1 32) (h3 : τ.1 71 = σ.1 71) (h4 : τ.2.1 68 7 = σ.2.1 68 7) (h : RName σ) : RName τ := by unfold RName; rw [h1, h2, h3, h4]; exact h
theorem RPass_cg {σ τ : k_St} (h1 : τ.1 35 = σ.1 35) (h2 : τ.1 36 = σ.1 36) (h3 : τ.1 72 = σ.1 72) (h4 : τ.1 73 = σ.1 73) (h5 : τ.2.1 33 1 = σ.2.1 33 1) (h6 : τ.2.1 68 10 = σ.2.1 68 10) (h : RPass σ) : RPass τ := by unfold RPass; rw [h1, h2, h3, h4, h5, h6]; exact h
theorem RPart_cg {σ τ : k_St} (h1 : ∀ c, 25 ≤ c → c ≤ 28 → τ.1 c = σ.1 c) (h2 : ∀ c, 74 ≤ c → c ≤ 77 → τ.1 c = σ.1 c) (h3 : τ.2.1 24 4 = σ.2.1 24 4) (h4 : τ.2.1 68 12 = σ.2.1 68 12) (h : RPart σ) : RPart τ := by
  unfold RPart; rw [h1 25 (by omega) (by omega), h1 26 (by omega) (by omega), h1 27 (by omega) (by omega), h1 28 (by omega) (by omega), h2 74 (by omega) (by omega), h2 75 (by omega) (by omega), h2 76 (by omega) (by omega), h2 77 (by omega) (by omega), h3, h4]; exact h
theorem RSmall_cg {σ τ : k_St} (h1 : ∀ j, 10 ≤ j → j ≤ 14 → τ.2.1 5 j = σ.2.1 5 j) (h2 : ∀ j, j = 0 ∨ j = 1 ∨ j = 11 ∨ j = 52 ∨ j = 53 → τ.2.1 68 j = σ.2.1 68 j) (h : RSmall σ) : RSmall τ := by
  unfold RSmall; rw [h1 10 (by omega) (by omega), h1 11 (by omega) (by omega), h1 12 (by omega) (by omega), h1 13 (by omega) (by omega), h1 14 (by omega) (by omega), h2 11 (by omega), h2 1 (by omega), h2 0 (by omega), h2 52 (by omega), h2 53 (by omega)]; exact h
theorem RActs_cg {n : Nat} {σ τ : k_St} (h1 : ∀ c, 101 ≤ c ∨ c = 70 → τ.1 c = σ.1 c) (h2 : ∀ c j, 101 ≤ c ∨ (c = 22 ∧ (j = 1 ∨ j = 2)) ∨ (c = 68 ∧ (j = 4 ∨ j = 5)) → τ.2.1 c j = σ.2.1 c j) (h3 : τ.2.2 23 = σ.2.2 23) (h : RActs n σ) : RActs n τ := by
  obtain ⟨r, r1, r2, r3, r4, r5, r6, r7, r8, r9, r10, r11, r12, r13⟩ := h
  refine ⟨r, r1, r2, by rw [h3]; exact r3, by rw [h3]; exact r4, ?_⟩
  rw [h2 22 1 (by omega), h2 22 2 (by omega), h2 68 4 (by omega), h2 68 5 (by omega), h1 70 (by omega)]
  refine ⟨r5, r6, r7, r8, r9, r10, fun s hs => kp_wf_congr (fun c _ _ => h1 c (by omega)) (fun c j _ _ => h2 c j (by omega)) (r11 s hs), r12, fun s hs hj => ?_⟩
  obtain ⟨y1, y2⟩ := r13 s hs hj
  have hsr : s < r := by
    obtain ⟨j', a1, a2, a3⟩ := hj
    by_cases h40 : r < 40
    · have := r7 h40; omega
    · omega
  obtain ⟨w1, w2, _⟩ := KR_rg (r11 s hsr) y1
  exact ⟨KR_congr (fun i _ _ => rfl) w1 (fun h h0 h1 => by have := w2 h h0 h1; omega) (fun c _ _ => h1 c (by omega)) (fun c j _ _ => h2 c j (by omega)) y1, KI_congr (fun c _ _ => h1 c (by omega)) (fun c j _ _ => h2 c j (by omega)) y2⟩
theorem IR_cg {σ τ : k_St} {a : Nat} (h1 : ∀ c, a ≤ c → c ≤ a + 9 → τ.1 c = σ.1 c) (h2 : ∀ j, τ.2.1 a j = σ.2.1 a j) (h3 : ∀ c, (81 ≤ c ∧ c ≤ 87) ∨ (95 ≤ c ∧ c ≤ 97) → τ.1 c = σ.1 c) (h4 : ∀ j, j = 25 ∨ j = 32 ∨ j = 34 ∨ j = 43 ∨ j = 45 → τ.2.1 68 j = σ.2.1 68 j) (h : IR σ a) : IR τ a := by
  have e1 : ∀ e, i_pn τ a e = i_pn σ a e := fun e => by unfold i_pn i_ps; rw [h1 (a + 2) (by omega) (by omega), h2]
  have e2 : ∀ e, i_ps τ a e = i_ps σ a e := fun e => by unfold i_ps; rw [h1 (a + 2) (by omega) (by omega)]
  have e3 : ∀ e, i_sn τ a e = i_sn σ a e := fun e => by unfold i_sn i_ls; rw [h1 (a + 3) (by omega) (by omega), h2]
  have e4 : ∀ e, i_ls τ a e = i_ls σ a e := fun e => by unfold i_ls; rw [h1 (a + 3) (by omega) (by omega)]
  unfold IR at h ⊢
  simp only [e1, e2, e3, e4]
  rw [h1 (a + 1) (by omega) (by omega), h1 (a + 4) (by omega) (by omega), h1 (a + 5) (by omega) (by omega), h1 (a + 6) (by omega) (by omega), h1 (a + 8) (by omega) (by omega), h1 (a + 9) (by omega) (by omega), h2, h2, h2, h2, h3 81 (by omega), h3 82 (by omega), h3 83 (by omega), h3 84 (by omega), h3 85 (by omega), h3 86 (by omega), h3 87 (by omega), h3 95 (by omega), h3 96 (by omega), h3 97 (by omega), h4 25 (by omega), h4 32 (by omega), h4 34 (by omega), h4 43 (by omega)]
  exact h
theorem i_chg_cg {σ τ : k_St} {a b : Nat} (h1 : ∀ c, a ≤ c → c ≤ a + 9 → τ.1 c = σ.1 c) (h2 : ∀ j, τ.2.1 a j = σ.2.1 a j) (g1 : ∀ c, b ≤ c → c ≤ b + 9 → τ.1 c = σ.1 c) (g2 : ∀ j, τ.2.1 b j = σ.2.1 b j) {c : Int} (h : i_chg σ a b c) : i_chg τ a b c := by
  have e1 : ∀ e, i_pn τ a e = i_pn σ a e := fun e => by unfold i_pn i_ps; rw [h1 (a + 2) (by omega) (by omega), h2]
  have e2 : ∀ e, i_ps τ a e = i_ps σ a e := fun e => by unfold i_ps; rw [h1 (a + 2) (by omega) (by omega)]
  have e3 : ∀ e, i_sn τ a e = i_sn σ a e := fun e => by unfold i_sn i_ls; rw [h1 (a + 3) (by omega) (by omega), h2]
  have e4 : ∀ e, i_ls τ a e = i_ls σ a e := fun e => by unfold i_ls; rw [h1 (a + 3) (by omega) (by omega)]
  have f1 : ∀ e, i_pn τ b e = i_pn σ b e := fun e => by unfold i_pn i_ps; rw [g1 (b + 2) (by omega) (by omega), g2]
  have f2 : ∀ e, i_ps τ b e = i_ps σ b e := fun e => by unfold i_ps; rw [g1 (b + 2) (by omega) (by omega)]
  have f3 : ∀ e, i_sn τ b e = i_sn σ b e := fun e => by unfold i_sn i_ls; rw [g1 (b + 3) (by omega) (by omega), g2]
  have f4 : ∀ e, i_ls τ b e = i_ls σ b e := fun e => by unfold i_ls; rw [g1 (b + 3) (by omega) (by omega)]
  have x1 : i_chP τ a b = i_chP σ a b := by
    funext e; unfold i_chP i_of i_like i_likeL i_lkL
    simp only [e1, e2, e3, e4, f1, f2, f3, f4]
    rw [h1 (a + 1) (by omega) (by omega), h1 (a + 4) (by omega) (by omega), h1 (a + 5) (by omega) (by omega), g1 (b + 1) (by omega) (by omega), g1 (b + 4) (by omega) (by omega), g1 (b + 5) (by omega) (by omega), g2]
  have x2 : i_goP τ a b = i_goP σ a b := by
    funext e; unfold i_goP i_of
    rw [h1 (a + 1) (by omega) (by omega), g1 (b + 1) (by omega) (by omega), h2]
  unfold i_chg at h ⊢
  rw [x1, x2, h2, g2]; exact h
theorem i_wf_cg {σ τ : k_St} {a : Nat} (h1 : ∀ c, a ≤ c → c ≤ a + 9 → τ.1 c = σ.1 c) (h2 : ∀ j, τ.2.1 a j = σ.2.1 a j) (h : i_wf σ a) : i_wf τ a := by
  unfold i_wf at h ⊢
  rw [h1 (a + 1) (by omega) (by omega), h1 (a + 2) (by omega) (by omega), h1 (a + 3) (by omega) (by omega), h1 (a + 4) (by omega) (by omega), h1 (a + 5) (by omega) (by omega), h1 (a + 6) (by omega) (by omega), h2, h2, h2, h2]; exact h
theorem RIdx_cg {σ τ : k_St} (h1 : ∀ c, 40 ≤ c → c ≤ 67 → (c = 40 ∨ c = 41 ∨ c = 43 ∨ 48 ≤ c) → τ.1 c = σ.1 c) (h2 : ∀ c j, c = 48 ∨ c = 58 → τ.2.1 c j = σ.2.1 c j) (h3 : ∀ c, (81 ≤ c ∧ c ≤ 87) ∨ (95 ≤ c ∧ c ≤ 97) → τ.1 c = σ.1 c) (h4 : ∀ j, j = 25 ∨ j = 32 ∨ j = 34 ∨ j = 43 ∨ j = 45 → τ.2.1 68 j = σ.2.1 68 j) (h5 : τ.2.2 5 = σ.2.2 5) (h : RIdx σ) : RIdx τ := by
  obtain ⟨a, b, hab, r1, r2, r3, r4, r5, r6, r7, r8, r9, r10⟩ := h
  have a1 : ∀ c, a ≤ c → c ≤ a + 9 → τ.1 c = σ.1 c := fun c _ _ => h1 c (by omega) (by omega) (by omega)
  have b1 : ∀ c, b ≤ c → c ≤ b + 9 → τ.1 c = σ.1 c := fun c _ _ => h1 c (by omega) (by omega) (by omega)
  have a2 : ∀ j, τ.2.1 a j = σ.2.1 a j := fun j => h2 a j (by omega)
  have b2 : ∀ j, τ.2.1 b j = σ.2.1 b j := fun j => h2 b j (by omega)
  refine ⟨a, b, hab, by rw [h5]; exact r1, by rw [h5]; exact r2, i_wf_cg a1 a2 r3, i_wf_cg b1 b2 r4, r_wf_congr (a1 _ (by omega) (by omega)) (a1 _ (by omega) (by omega)) r5, r_wf_congr (b1 _ (by omega) (by omega)) (b1 _ (by omega) (by omega)) r6, ?_, ?_, IR_cg a1 a2 h3 h4 r9, by rw [h4 45 (by omega)]; exact i_chg_cg a1 a2 b1 b2 r10⟩
  · intro i; rw [h1 40 (by omega) (by omega) (by omega), h1 41 (by omega) (by omega) (by omega)]; exact r7 i
  · intro i; rw [h1 43 (by omega) (by omega) (by omega)]; exact r8 i
/-- class and Model at one call: the class answers r, the Model then r too, and they are related still -/
def pr_ok (G : j_G) (X : k_X) (M1 M2 : j_M) (args : List Value) (n : Nat) (σ : k_St) (c sl : Nat) : Prop := ∃ P : k_P, k_run G X M1 (.ref 5 :: args) n σ c sl P ∧ ∀ v n' σ', P v n' σ' → 101 ≤ n' ∧ ∃ r : Int, v = some (j_i r) ∧ k_run G X M2 (.ref 68 :: args) n' σ' 0 0 (fun v2 n2 σ2 => v2 = some (j_i r) ∧ RR n2 σ2)
theorem RR_n {n : Nat} {σ : k_St} (h : RR n σ) : 101 ≤ n := by obtain ⟨r, _, h2, _⟩ := h.2.1; omega
