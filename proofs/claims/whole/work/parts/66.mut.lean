/-- the class changed what it keeps alone -/
def CM (σ τ : k_St) : Prop := (∀ c, ¬ (6 ≤ c ∧ c ≤ 21) → τ.1 c = σ.1 c) ∧ (∀ c j, ¬ (6 ≤ c ∧ c ≤ 21) → τ.2.1 c j = σ.2.1 c j) ∧ τ.2.2 = σ.2.2
def KN (σ : k_St) (g : Int → Int) : Prop := kp_wf σ 6 ∧ KR σ 6 g ∧ KI σ 6 ∧ d_rg g
theorem mut_RR {n n' : Nat} {σ σs σ' : k_St} {g : Int → Int} (hR : RR n σ) (hS : SV n σ n' σs) (hM : CM σs σ') (hK : KN σ' g) : RR n' (k_sA (d_kp σ') 69 g) := by
  obtain ⟨s, r, r', ⟨s1, s2, s3, s4, s5, s6, s7, s8⟩, t1, t2, t3, t4, t5, t6, t7, t8, t9, t10⟩ := id hS
  have e1 : ∀ c, c < 101 → ¬ (6 ≤ c ∧ c ≤ 21) → σ'.1 c = σ.1 c := fun c h1 h2 => (hM.1 c h2).trans (t3 c h1)
  have e2 : ∀ c j, c < 101 → ¬ (6 ≤ c ∧ c ≤ 21) → ¬ (c = 22 ∧ (j = 1 ∨ j = 2)) → σ'.2.1 c j = σ.2.1 c j := fun c j h1 h2 h3 => (hM.2.1 c j h2).trans (t4 c j h1 h3)
  have f1 : ∀ c, c ≠ 69 → c ≠ 70 → (k_sA (d_kp σ') 69 g).1 c = σ'.1 c := fun c h1 h2 => by rw [k_AN h1, d_kp_69 h2]
  have f2 : ∀ c j, ¬ (c = 68 ∧ (j = 4 ∨ j = 5)) → (k_sA (d_kp σ') 69 g).2.1 c j = σ'.2.1 c j := fun c j h1 => by
    show (if c = 68 ∧ j = 5 then _ else if c = 68 ∧ j = 4 then _ else σ'.2.1 c j) = _
    rw [if_neg (by omega), if_neg (by omega)]
  have df : d_f σ' = d_f σ := by unfold d_f; rw [e2 68 5 (by omega) (by omega) (by omega), e2 68 4 (by omega) (by omega) (by omega)]
  have dm : d_m σ' = d_m σ := by unfold d_m; rw [e2 68 5 (by omega) (by omega) (by omega)]
  obtain ⟨r1, r2, r3, r4, r5, r6, r7⟩ := hR
  have g1 : ∀ c, c < 101 → ¬ (6 ≤ c ∧ c ≤ 21) → c ≠ 69 → c ≠ 70 → (k_sA (d_kp σ') 69 g).1 c = σ.1 c := fun c h1 h2 h3 h4 => (f1 c h3 h4).trans (e1 c h1 h2)
  have g2 : ∀ c j, c < 101 → ¬ (6 ≤ c ∧ c ≤ 21) → ¬ (c = 22 ∧ (j = 1 ∨ j = 2)) → ¬ (c = 68 ∧ (j = 4 ∨ j = 5)) → (k_sA (d_kp σ') 69 g).2.1 c j = σ.2.1 c j := fun c j h1 h2 h3 h4 => (f2 c j h4).trans (e2 c j h1 h2 h3)
  have k6 : ∀ c, 6 ≤ c → c ≤ 21 → (k_sA (d_kp σ') 69 g).1 c = σ'.1 c := fun c _ _ => f1 c (by omega) (by omega)
  have k7 : ∀ c j, 6 ≤ c → c ≤ 21 → (k_sA (d_kp σ') 69 g).2.1 c j = σ'.2.1 c j := fun c j _ _ => f2 c j (by omega)
  obtain ⟨w1, w2, w3, w4⟩ := hK
  obtain ⟨v1, v2, _⟩ := KR_rg w1 w2
  refine ⟨⟨kp_wf_congr k6 k7 w1, by rw [k_AA]; exact KR_congr (fun _ _ _ => rfl) v1 (fun h h0 h1 => by have := v2 h h0 h1; omega) k6 k7 w2, KI_congr k6 k7 w3, by rw [k_AA]; exact w4⟩, ?_, RName_cg (g1 _ (by omega) (by omega) (by omega) (by omega)) (g1 _ (by omega) (by omega) (by omega) (by omega)) (g1 _ (by omega) (by omega) (by omega) (by omega)) (g2 _ _ (by omega) (by omega) (by omega) (by omega)) r3, RPass_cg (g1 _ (by omega) (by omega) (by omega) (by omega)) (g1 _ (by omega) (by omega) (by omega) (by omega)) (g1 _ (by omega) (by omega) (by omega) (by omega)) (g1 _ (by omega) (by omega) (by omega) (by omega)) (g2 _ _ (by omega) (by omega) (by omega) (by omega)) (g2 _ _ (by omega) (by omega) (by omega) (by omega)) r4, RPart_cg (fun c _ _ => g1 c (by omega) (by omega) (by omega) (by omega)) (fun c _ _ => g1 c (by omega) (by omega) (by omega) (by omega)) (g2 _ _ (by omega) (by omega) (by omega) (by omega)) (g2 _ _ (by omega) (by omega) (by omega) (by omega)) r5, RSmall_cg (fun j _ _ => g2 5 j (by omega) (by omega) (by omega) (by omega)) (fun j _ => g2 68 j (by omega) (by omega) (by omega) (by omega)) r6, RIdx_cg (fun c _ _ _ => g1 c (by omega) (by omega) (by omega) (by omega)) (fun c j _ => g2 c j (by omega) (by omega) (by omega) (by omega)) (fun c _ => g1 c (by omega) (by omega) (by omega) (by omega)) (fun j _ => g2 68 j (by omega) (by omega) (by omega) (by omega)) ?_ r7⟩
  · refine RActs_step r2 r1 hS (fun c hc => ?_) (fun c j hc => ?_) ?_ ?_ ?_ ?_
    · rw [f1 c (by omega) (by omega)]; exact hM.1 c (by omega)
    · rw [f2 c j (by omega)]; exact hM.2.1 c j (by omega)
    · show σ'.2.2 23 = _; rw [hM.2.2]
    · rw [k_AN (by omega)]
      show (if (70 : Nat) = 70 then j_cpy (σ'.1 69) (σ'.1 70) 0 ((d_f σ' + d_m σ') % 40 * 1733) 1733 else σ'.1 70) = _
      rw [if_pos rfl, df, dm, e1 69 (by omega) (by omega), e1 70 (by omega) (by omega)]
    · show (if (68 : Nat) = 68 ∧ (4 : Nat) = 5 then d_m σ' + 1 else if (68 : Nat) = 68 ∧ (4 : Nat) = 4 then d_f σ' else σ'.2.1 68 4) = _
      rw [if_neg (by omega), if_pos ⟨rfl, rfl⟩, df]
    · show (if (68 : Nat) = 68 ∧ (5 : Nat) = 5 then d_m σ' + 1 else if (68 : Nat) = 68 ∧ (5 : Nat) = 4 then d_f σ' else σ'.2.1 68 5) = _
      rw [if_pos ⟨rfl, rfl⟩, dm]
  · show σ'.2.2 5 = _; rw [hM.2.2]; exact t5 5 (by omega)
theorem kp_ins0 {σ : k_St} : k_sA σ 69 (σ.1 69) = σ := k_sA0
/-- the new state after save, as σ has it -/
theorem SV_e {n n' : Nat} {σ τ : k_St} (h : SV n σ n' τ) : (∀ c, c < 101 → τ.1 c = σ.1 c) ∧ (∀ c j, c < 101 → c ≠ 22 → τ.2.1 c j = σ.2.1 c j) ∧ 101 ≤ n' := by
  obtain ⟨s, r, r', ⟨s1, s2, s3, s4, s5, s6, s7, s8⟩, t1, t2, t3, t4, _⟩ := h
  exact ⟨t3, fun c j h1 h2 => t4 c j h1 (by omega), by omega⟩
theorem KN_cg {σ τ : k_St} {g : Int → Int} (h1 : ∀ c, 6 ≤ c → c ≤ 21 → τ.1 c = σ.1 c) (h2 : ∀ c j, 6 ≤ c → c ≤ 21 → τ.2.1 c j = σ.2.1 c j) (h : KN σ g) : KN τ g := by
  obtain ⟨w1, w2, w3, w4⟩ := h
  obtain ⟨v1, v2, _⟩ := KR_rg w1 w2
  exact ⟨kp_wf_congr h1 h2 w1, KR_congr (fun _ _ _ => rfl) v1 (fun h h0 h1 => by have := v2 h h0 h1; omega) h1 h2 w2, KI_congr h1 h2 w3, w4⟩
def nh_new (σ : k_St) : Prop := 0 < σ.1 32 0 ∧ r_tidy σ 30 1 0 ∧ ¬ h_sgs σ 30 1
theorem nm_sg {σ : k_St} (hN : RName σ) : r_cnt σ 30 1 0 = σ.2.1 68 7 ∧ (∀ i, 0 ≤ i → i < σ.2.1 68 7 → r_sgn σ 30 1 0 i = σ.1 71 i ∧ (32 ≤ σ.1 71 i ∧ σ.1 71 i ≤ 126)) ∧ ∀ i, ¬ (0 ≤ i ∧ i < σ.2.1 68 7) → r_sgn σ 30 1 0 i = -9 := by
  obtain ⟨n1, n2, n3, n4⟩ := hN
  refine ⟨by unfold r_cnt; rw [if_pos (by omega)]; exact n2, fun i i0 i1 => ?_, fun i hi => ?_⟩
  · have := n4 i i0 i1
    refine ⟨?_, by omega⟩
    unfold r_sgn; rw [if_pos ⟨by omega, by omega, i0, by rw [show (30 + 2 : Nat) = 32 by rfl, n2]; exact i1⟩, show (0 : Int) * 16 + i = i by omega]; exact this.1
  · unfold r_sgn; rw [if_neg (by rw [show (30 + 2 : Nat) = 32 by rfl, n2]; omega)]
theorem tidy_eq {σ : k_St} (hN : RName σ) : r_tidy σ 30 1 0 ↔ d_tidy σ := by
  obtain ⟨a1, a2, a3⟩ := nm_sg hN
  unfold r_tidy d_tidy d_tdy
  rw [a1]
  constructor
  · intro h k k0 k1 hk
    have := h k k0 k1 (by rw [(a2 k k0 k1).1]; exact hk)
    refine ⟨by omega, by omega, fun g => this.2.2 ?_⟩
    rw [(a2 (k - 1) (by omega) (by omega)).1]; exact g
  · intro h k k0 k1 hk
    rw [(a2 k k0 k1).1] at hk
    have := h k k0 k1 hk
    refine ⟨by omega, by omega, fun g => this.2.2 ?_⟩
    rw [(a2 (k - 1) (by omega) (by omega)).1] at g; exact g
theorem same_eq {σ : k_St} (hK : RKept σ) (hN : RName σ) {h : Int} (h0 : 0 ≤ h) (h1 : h < σ.1 69 301) : (∀ i, 0 ≤ i → i < 16 → r_sgn σ 9 30 h i = r_sgn σ 30 1 0 i) ↔ d_same σ h := by
  obtain ⟨a1, a2, a3⟩ := nm_sg hN
  obtain ⟨b1, b2⟩ := KR_own hK h0 h1
  have hL := hN.1
  obtain ⟨q1, q2, q3, _⟩ := KR_h hK h0 h1
  have hq := (KR_rg hK.1 hK.2.1).2.1 h h0 h1
  have hE0 : σ.2.1 8 3 = σ.1 69 301 := hK.2.1.2.1.1
  have hsg : ∀ i, 0 ≤ i → i < σ.1 69 (302 + 36 * h + 1) → 32 ≤ σ.1 69 (302 + 36 * h + 3 + i) := fun i i0 i1 => by
    have := (hK.2.2.1.2.2.1 h h0 (by show h < σ.2.1 8 3; omega)).1 i i0 (by show i < σ.1 11 h; rw [q1]; exact i1)
    have e : σ.1 10 (h * 16 + i) = _ := q3 i i0 i1
    have t : 32 ≤ σ.1 10 (h * 16 + i) := this.1
    omega
  unfold d_same
  constructor
  · intro hs
    have hle : σ.2.1 68 7 ≤ σ.1 69 (302 + 36 * h + 1) := Int.not_lt.mp (fun g => by
      have := hs (σ.1 69 (302 + 36 * h + 1)) (by omega) (by omega)
      rw [b2, (a2 _ (by omega) (by omega)).1] at this
      unfold e_own at this
      rw [if_neg (by omega)] at this
      have := (a2 (σ.1 69 (302 + 36 * h + 1)) (by omega) (by omega)).2
      omega)
    have hge : σ.1 69 (302 + 36 * h + 1) ≤ σ.2.1 68 7 := Int.not_lt.mp (fun g => by
      have := hs (σ.2.1 68 7) (by omega) (by omega)
      rw [b2, a3 _ (by omega)] at this
      unfold e_own at this
      rw [if_pos (by omega)] at this
      have := hsg (σ.2.1 68 7) (by omega) g
      omega)
    refine ⟨by omega, fun k k0 k1 => ?_⟩
    have := hs k k0 (by omega)
    rw [b2, (a2 k k0 k1).1] at this
    unfold e_own at this
    rw [if_pos (by omega)] at this; exact this
  · rintro ⟨g1, g2⟩ i i0 i1
    rw [b2]; unfold e_own
    by_cases k : i < σ.2.1 68 7
    · rw [if_pos (by omega), (a2 i i0 k).1]; exact g2 i i0 k
    · rw [if_neg (by omega), a3 i (by omega)]
theorem new_free {n : Nat} {σ : k_St} (hR : RR n σ) : nh_new σ ↔ d_free σ := by
  have hN := hR.2.2.1
  have hK := hR.1
  have hE0 : σ.2.1 8 3 = σ.1 69 301 := hK.2.1.2.1.1
  unfold nh_new d_free
  rw [tidy_eq hN, hN.2.1]
  refine and_congr Iff.rfl (and_congr Iff.rfl ?_)
  unfold h_sgs
  constructor
  · intro g h hh hs
    have hh' := (RK_h hR h).mp hh
    exact g ⟨h, hh'.1, hh'.2.1, hh'.2.2, (same_eq hK hN hh'.1 (by rw [← hE0]; exact hh'.2.1)).mpr hs⟩
  · rintro g ⟨h, h0, h1, h2, h3⟩
    exact g h ((RK_h hR h).mpr ⟨h0, h1, h2⟩) ((same_eq hK hN h0 (by rw [← hE0]; exact h1)).mp h3)
set_option maxHeartbeats 4000000 in
theorem c_isNewHead {G : j_G} {X : k_X} {n : Nat} {σ : k_St} (hn : 101 ≤ n) (hwh : h_wf σ 8) (hwn : r_wf σ 30 1)  : k_run G X mX11_isNewHead [.ref 5] n σ 0 0 (k_b n σ (nh_new σ)) := by
  refine k_enter (by decide +kernel) (Nat.le_of_ble_eq_true rfl) ?_
  show j_at _ _ _ [(0, .ref 5)] [] _ _ _ _
  refine a_aload_n (pc := 0) (i := 0) (by decide +kernel) rfl ?_
  refine b_getR (pc := 1) (b := 30) fl_X11_45 (by decide +kernel) (sh_5 hn) rfl ?_
  refine a_iconst (pc := 4) (n := 0) (by decide +kernel) ?_
  refine b_pureV (pc := 5) [j_i 0] [] ml_X11_158 (by decide +kernel) rfl rfl (sh_30 hn) rfl rfl (Nat.le_of_ble_eq_true rfl) (j_fitI rfl rfl) (s_countOf (rA_30 hn) hwn (by omega)) ?_
  rw [show r_cnt σ 30 1 0 = σ.1 32 0 by unfold r_cnt; rw [if_pos (by omega)]]
  have hn9 : 0 ≤ σ.1 32 0 ∧ σ.1 32 0 ≤ 16 := hwn.1 0 (by omega) (by omega)
  show j_at _ _ _ [(0, .ref 5)] [j_i (σ.1 32 0)] _ _ _ _
  refine a_if_le (pc := 8) (off := 32) (tgt := 40) (by decide +kernel) (by decide) (by omega) (fun c8 => ?_) (fun c8 => ?_)
  · refine a_iconst (pc := 40) (n := 0) (by decide +kernel) ?_
    refine a_zreturn (pc := 41) (by decide +kernel) rfl (by omega) ?_
    refine k_ret ?_
    exact k_bn (fun q => by first | exact absurd q.1 (by omega) | exact p16 q.2.1 | exact q.2.2 p30)
  · refine a_aload_n (pc := 11) (i := 0) (by decide +kernel) rfl ?_
    refine b_getR (pc := 12) (b := 30) fl_X11_45 (by decide +kernel) (sh_5 hn) rfl ?_
    refine a_iconst (pc := 15) (n := 0) (by decide +kernel) ?_
    refine b_callV (pc := 16) (c' := 0) (sl' := 0) [j_i 0] [] ml_X11_183 (by decide +kernel) rfl rfl (sh_30 hn) rfl rfl (Nat.le_of_ble_eq_true rfl) (j_fitI rfl rfl) (s_isTidy (rA_30 hn) hwn (by omega)) (fun v n' σ' hq => ?_)
    obtain ⟨x, rfl, e1, e2, hx⟩ := hq
    rw [e1, e2]; clear e1 e2
    rcases hx with ⟨rfl, p16⟩ | ⟨rfl, p16⟩
    · show j_at _ _ _ [(0, .ref 5)] [j_i 1] _ _ _ _
      refine a_if_eq (pc := 19) (off := 21) (tgt := 40) (by decide +kernel) (by decide) (by omega) (fun c19 => ?_) (fun c19 => ?_)
      · exact absurd c19 (by decide)
      · refine a_aload_n (pc := 22) (i := 0) (by decide +kernel) rfl ?_
        refine b_getR (pc := 23) (b := 8) fl_X11_20 (by decide +kernel) (sh_5 hn) rfl ?_
        refine a_aload_n (pc := 26) (i := 0) (by decide +kernel) rfl ?_
        refine b_getR (pc := 27) (b := 30) fl_X11_45 (by decide +kernel) (sh_5 hn) rfl ?_
        refine b_callV (pc := 30) (c' := 0) (sl' := 0) [.ref 30] [] ml_X11_370 (by decide +kernel) rfl rfl (sh_8 hn) rfl rfl (Nat.le_of_ble_eq_true rfl) (j_fitI rfl rfl) (s_hasSigns hn hwh (rA_30 hn) hwn) (fun v n' σ' hq => ?_)
        obtain ⟨x, rfl, e1, e2, hx⟩ := hq
        rw [e1, e2]; clear e1 e2
        rcases hx with ⟨rfl, p30⟩ | ⟨rfl, p30⟩
        · show j_at _ _ _ [(0, .ref 5)] [j_i 1] _ _ _ _
          refine a_if_ne (pc := 33) (off := 7) (tgt := 40) (by decide +kernel) (by decide) (by omega) (fun c33 => ?_) (fun c33 => ?_)
          · refine a_iconst (pc := 40) (n := 0) (by decide +kernel) ?_
            refine a_zreturn (pc := 41) (by decide +kernel) rfl (by omega) ?_
            refine k_ret ?_
            exact k_bn (fun q => by first | exact absurd q.1 (by omega) | exact p16 q.2.1 | exact q.2.2 p30)
          · exact absurd c33 (by decide)
        · show j_at _ _ _ [(0, .ref 5)] [j_i 0] _ _ _ _
          refine a_if_ne (pc := 33) (off := 7) (tgt := 40) (by decide +kernel) (by decide) (by omega) (fun c33 => ?_) (fun c33 => ?_)
          · exact absurd c33 (by decide)
          · refine a_iconst (pc := 36) (n := 1) (by decide +kernel) ?_
            refine a_goto (pc := 37) (off := 4) (tgt := 41) (by decide +kernel) (by decide) ?_
            refine a_zreturn (pc := 41) (by decide +kernel) rfl (by omega) ?_
            refine k_ret ?_
            exact k_by ⟨by omega, p16, p30⟩
    · show j_at _ _ _ [(0, .ref 5)] [j_i 0] _ _ _ _
      refine a_if_eq (pc := 19) (off := 21) (tgt := 40) (by decide +kernel) (by decide) (by omega) (fun c19 => ?_) (fun c19 => ?_)
      · refine a_iconst (pc := 40) (n := 0) (by decide +kernel) ?_
        refine a_zreturn (pc := 41) (by decide +kernel) rfl (by omega) ?_
        refine k_ret ?_
        exact k_bn (fun q => by first | exact absurd q.1 (by omega) | exact p16 q.2.1 | exact q.2.2 p30)
      · exact absurd c19 (by decide)
