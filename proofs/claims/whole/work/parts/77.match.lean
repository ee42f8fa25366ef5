def mt_E (σ : k_St) (a i b j m : Int) : Prop := ∀ k, 0 ≤ k → k < m → r_sgn σ 9 30 a (i + k) = r_sgn σ 9 30 b (j + k)
def mt_D (g : Int → Int) (a i b j m : Int) : Prop := ∀ k, 0 ≤ k → k < m → g (302 + 36 * a + 3 + (i + k)) = g (302 + 36 * b + 3 + (j + k))
def mt_P (σ : k_St) (a i b j m r t f q y : Int) : Prop := (bi (h_is σ a) = 0 ∧ r = -1 ∧ f = 0 ∧ t = σ.2.1 5 11 ∧ q = σ.2.1 5 13 ∧ y = σ.2.1 5 14) ∨ (bi (h_is σ a) = 1 ∧ bi (h_is σ b) = 0 ∧ r = -1 ∧ f = 0 ∧ t = σ.2.1 5 11 ∧ q = σ.2.1 5 13 ∧ y = σ.2.1 5 14) ∨ (bi (h_is σ a) = 1 ∧ bi (h_is σ b) = 1 ∧ m < 0 ∧ r = -14 ∧ f = 4 ∧ t = σ.2.1 5 11 ∧ q = σ.2.1 5 13 ∧ y = σ.2.1 5 14) ∨ (bi (h_is σ a) = 1 ∧ bi (h_is σ b) = 1 ∧ 0 ≤ m ∧ ¬ ((0 ≤ i ∧ m ≤ r_cnt σ 9 30 a ∧ i ≤ r_cnt σ 9 30 a - m) ∧ (0 ≤ j ∧ m ≤ r_cnt σ 9 30 b ∧ j ≤ r_cnt σ 9 30 b - m)) ∧ r = -13 ∧ f = 3 ∧ t = σ.2.1 5 11 ∧ q = σ.2.1 5 13 ∧ y = σ.2.1 5 14) ∨ (bi (h_is σ a) = 1 ∧ bi (h_is σ b) = 1 ∧ 0 ≤ m ∧ ((0 ≤ i ∧ m ≤ r_cnt σ 9 30 a ∧ i ≤ r_cnt σ 9 30 a - m) ∧ (0 ≤ j ∧ m ≤ r_cnt σ 9 30 b ∧ j ≤ r_cnt σ 9 30 b - m)) ∧ bi (mt_E σ a i b j m) = 1 ∧ r = 1 ∧ f = 0 ∧ t = σ.2.1 5 11 ∧ q = σ.2.1 5 13 ∧ y = σ.2.1 5 14) ∨ (bi (h_is σ a) = 1 ∧ bi (h_is σ b) = 1 ∧ 0 ≤ m ∧ ((0 ≤ i ∧ m ≤ r_cnt σ 9 30 a ∧ i ≤ r_cnt σ 9 30 a - m) ∧ (0 ≤ j ∧ m ≤ r_cnt σ 9 30 b ∧ j ≤ r_cnt σ 9 30 b - m)) ∧ bi (mt_E σ a i b j m) = 0 ∧ r = 0 ∧ f = 0 ∧ t = σ.2.1 5 11 ∧ q = σ.2.1 5 13 ∧ y = σ.2.1 5 14)
set_option maxHeartbeats 4000000 in
theorem l_cmatch {G : j_G} {X : k_X} {n : Nat} {τ : k_St} (hn : 101 ≤ n) (hwr : r_wf τ 9 30) {a i b j m : Int} (ha : 0 ≤ a ∧ a < 30) (hb : 0 ≤ b ∧ b < 30) (hi : 0 ≤ i ∧ i ≤ 16) (hj : 0 ≤ j ∧ j ≤ 16) (hm : 0 ≤ m ∧ m ≤ 16)  : ∀ (z : Nat) (k : Int), 16 - k < (z : Int) → 0 ≤ k → k ≤ m → (∀ x, 0 ≤ x → x < k → r_sgn τ 9 30 a (i + x) = r_sgn τ 9 30 b (j + x)) → j_at G mX11_match 94 [(0, .ref 5), (1, j_i a), (2, j_i i), (3, j_i b), (4, j_i j), (5, j_i m), (6, j_i k)] [] (k_h X n τ) 0 0 (k_Q X (fun v n' σ' => n' = n ∧ σ' = τ ∧ (v = some (j_i 1) ∧ mt_E τ a i b j m ∨ v = some (j_i 0) ∧ ¬ mt_E τ a i b j m))) := by
  intro z
  induction z with
  | zero => intro k h1 h2 h3; exact absurd h1 (by omega)
  | succ z ih =>
    intro k hz h0 hN hI
    refine a_iload (pc := 94) (i := 6) (by decide +kernel) rfl ?_
    refine a_iload (pc := 96) (i := 5) (by decide +kernel) rfl ?_
    refine a_icmp_ge (pc := 98) (off := 45) (tgt := 143) (by decide +kernel) (by decide) (by omega) (by omega) (fun c98 => ?_) (fun c98 => ?_)
    · refine a_iconst (pc := 143) (n := 1) (by decide +kernel) ?_
      refine a_ireturn (pc := 144) (by decide +kernel) rfl ?_
      refine k_ret ?_
      exact ⟨rfl, rfl, Or.inl ⟨rfl, fun x x0 x1 => hI x x0 (by omega)⟩⟩
    · refine a_aload_n (pc := 101) (i := 0) (by decide +kernel) rfl ?_
      refine b_getR (pc := 102) (b := 8) fl_X11_20 (by decide +kernel) (sh_5 hn) rfl ?_
      refine b_getR (pc := 105) (b := 9) fl_X11_218 (by decide +kernel) (sh_8 hn) rfl ?_
      refine a_iload_n (pc := 108) (i := 1) (by decide +kernel) rfl ?_
      refine a_iload_n (pc := 109) (i := 2) (by decide +kernel) rfl ?_
      refine a_iload (pc := 110) (i := 6) (by decide +kernel) rfl ?_
      refine a_iadd (pc := 112) (by decide +kernel) ?_
      refine b_pureV (pc := 113) [j_i a, j_i (i + k)] [] ml_X11_210 (by decide +kernel) rfl rfl (sh_9 hn) rfl rfl (Nat.le_of_ble_eq_true rfl) (j_fitI rfl rfl) (s_signAt (rA_9 hn) hwr (by omega) (by omega)) ?_
      have qs1 := r_sgn_in hwr a (i + k)
      show j_at _ _ _ [(0, .ref 5), (1, j_i a), (2, j_i i), (3, j_i b), (4, j_i j), (5, j_i m), (6, j_i k)] [j_i (r_sgn τ 9 30 a (i + k))] _ _ _ _
      refine a_aload_n (pc := 116) (i := 0) (by decide +kernel) rfl ?_
      refine b_getR (pc := 117) (b := 8) fl_X11_20 (by decide +kernel) (sh_5 hn) rfl ?_
      refine b_getR (pc := 120) (b := 9) fl_X11_218 (by decide +kernel) (sh_8 hn) rfl ?_
      refine a_iload_n (pc := 123) (i := 3) (by decide +kernel) rfl ?_
      refine a_iload (pc := 124) (i := 4) (by decide +kernel) rfl ?_
      refine a_iload (pc := 126) (i := 6) (by decide +kernel) rfl ?_
      refine a_iadd (pc := 128) (by decide +kernel) ?_
      refine b_pureV (pc := 129) [j_i b, j_i (j + k)] [j_i (r_sgn τ 9 30 a (i + k))] ml_X11_210 (by decide +kernel) rfl rfl (sh_9 hn) rfl rfl (Nat.le_of_ble_eq_true rfl) (j_fitI rfl rfl) (s_signAt (rA_9 hn) hwr (by omega) (by omega)) ?_
      have qs2 := r_sgn_in hwr b (j + k)
      show j_at _ _ _ [(0, .ref 5), (1, j_i a), (2, j_i i), (3, j_i b), (4, j_i j), (5, j_i m), (6, j_i k)] [j_i (r_sgn τ 9 30 b (j + k)), j_i (r_sgn τ 9 30 a (i + k))] _ _ _ _
      refine a_icmp_eq (pc := 132) (off := 5) (tgt := 137) (by decide +kernel) (by decide) (by omega) (by omega) (fun c132 => ?_) (fun c132 => ?_)
      · refine a_iinc (pc := 137) (i := 6) (n := 1) (x := k) (lv' := [(0, .ref 5), (1, j_i a), (2, j_i i), (3, j_i b), (4, j_i j), (5, j_i m), (6, j_i (k + 1))]) (by decide +kernel) rfl (Nat.le_of_ble_eq_true rfl) rfl ?_
        refine a_goto (pc := 140) (off := -46) (tgt := 94) (by decide +kernel) (by decide) ?_
        exact ih (k + 1) (by omega) (by omega) (by omega) (fun x x0 x1 => by by_cases g : x = k; rw [g]; exact c132; exact hI x x0 (by omega))
      · refine a_iconst (pc := 135) (n := 0) (by decide +kernel) ?_
        refine a_ireturn (pc := 136) (by decide +kernel) rfl ?_
        refine k_ret ?_
        exact ⟨rfl, rfl, Or.inr ⟨rfl, fun g => c132 (g k h0 (by omega))⟩⟩
set_option maxHeartbeats 4000000 in
theorem c_match {G : j_G} {X : k_X} {n : Nat} {σ : k_St} (hR : RR n σ) {a : Int} (ha : -2147483648 ≤ a ∧ a ≤ 2147483647) {i : Int} (hi : -2147483648 ≤ i ∧ i ≤ 2147483647) {b : Int} (hb : -2147483648 ≤ b ∧ b ≤ 2147483647) {j : Int} (hj : -2147483648 ≤ j ∧ j ≤ 2147483647) {m : Int} (hm : -2147483648 ≤ m ∧ m ≤ 2147483647)  : k_run G X mX11_match [.ref 5, j_i a, j_i i, j_i b, j_i j, j_i m] n σ 0 0 (fun v n' σ' => ∃ r : Int, v = some (j_i r) ∧ n' = n ∧ CS σ σ' ∧ mt_P σ a i b j m r (σ'.2.1 5 11) (σ'.2.1 5 12) (σ'.2.1 5 13) (σ'.2.1 5 14)) := by
  obtain ⟨hK, hAc, hNm, hPs, hPt, hSm, hIx⟩ := id hR
  have hn := RR_n hR
  have hk := hK.1
  have hwh : h_wf σ 8 := hk.2.1
  have hwm : m_wf σ 16 := hk.2.2
  have hW : 0 ≤ σ.2.1 6 1 ∧ σ.2.1 6 1 ≤ 300 := hk.1
  have hfl := hSm.1
  refine k_enter (by decide +kernel) (Nat.le_of_ble_eq_true rfl) ?_
  show j_at _ _ _ [(0, .ref 5), (1, j_i a), (2, j_i i), (3, j_i b), (4, j_i j), (5, j_i m)] [] _ _ _ _
  refine a_aload_n (pc := 0) (i := 0) (by decide +kernel) rfl ?_
  refine b_getR (pc := 1) (b := 8) fl_X11_20 (by decide +kernel) (sh_5 hn) rfl ?_
  refine a_iload_n (pc := 4) (i := 1) (by decide +kernel) rfl ?_
  refine b_callV (pc := 5) (c' := 0) (sl' := 0) [j_i a] [] ml_X11_180 (by decide +kernel) rfl rfl (sh_8 hn) rfl rfl (Nat.le_of_ble_eq_true rfl) (j_fitI rfl rfl) (s_hhas hn hwh (by omega)) (fun v n' σ' hq => ?_)
  obtain ⟨x, rfl, e1, e2, hx⟩ := hq
  rw [e1, e2]; clear e1 e2
  rcases hx with ⟨rfl, p5⟩ | ⟨rfl, p5⟩
  · show j_at _ _ _ [(0, .ref 5), (1, j_i a), (2, j_i i), (3, j_i b), (4, j_i j), (5, j_i m)] [j_i 1] _ _ _ _
    have i5 := bi_y p5
    have u5 := p5.1
    have w5 := p5.2.1
    refine a_if_eq (pc := 8) (off := 14) (tgt := 22) (by decide +kernel) (by decide) (by omega) (fun c8 => ?_) (fun c8 => ?_)
    · exact absurd c8 (by decide)
    · refine a_aload_n (pc := 11) (i := 0) (by decide +kernel) rfl ?_
      refine b_getR (pc := 12) (b := 8) fl_X11_20 (by decide +kernel) (sh_5 hn) rfl ?_
      refine a_iload_n (pc := 15) (i := 3) (by decide +kernel) rfl ?_
      refine b_callV (pc := 16) (c' := 0) (sl' := 0) [j_i b] [] ml_X11_180 (by decide +kernel) rfl rfl (sh_8 hn) rfl rfl (Nat.le_of_ble_eq_true rfl) (j_fitI rfl rfl) (s_hhas hn hwh (by omega)) (fun v n' σ' hq => ?_)
      obtain ⟨x, rfl, e1, e2, hx⟩ := hq
      rw [e1, e2]; clear e1 e2
      rcases hx with ⟨rfl, p16⟩ | ⟨rfl, p16⟩
      · show j_at _ _ _ [(0, .ref 5), (1, j_i a), (2, j_i i), (3, j_i b), (4, j_i j), (5, j_i m)] [j_i 1] _ _ _ _
        have i16 := bi_y p16
        have u16 := p16.1
        have w16 := p16.2.1
        refine a_if_ne (pc := 19) (off := 9) (tgt := 28) (by decide +kernel) (by decide) (by omega) (fun c19 => ?_) (fun c19 => ?_)
        · refine a_iload (pc := 28) (i := 5) (by decide +kernel) rfl ?_
          refine a_if_ge (pc := 30) (off := 9) (tgt := 39) (by decide +kernel) (by decide) (by omega) (fun c30 => ?_) (fun c30 => ?_)
          · refine a_iload_n (pc := 39) (i := 2) (by decide +kernel) rfl ?_
            refine a_iload (pc := 40) (i := 5) (by decide +kernel) rfl ?_
            refine a_aload_n (pc := 42) (i := 0) (by decide +kernel) rfl ?_
            refine b_getR (pc := 43) (b := 8) fl_X11_20 (by decide +kernel) (sh_5 hn) rfl ?_
            refine b_getR (pc := 46) (b := 9) fl_X11_218 (by decide +kernel) (sh_8 hn) rfl ?_
            refine a_iload_n (pc := 49) (i := 1) (by decide +kernel) rfl ?_
            refine b_pureV (pc := 50) [j_i a] [j_i m, j_i i] ml_X11_158 (by decide +kernel) rfl rfl (sh_9 hn) rfl rfl (Nat.le_of_ble_eq_true rfl) (j_fitI rfl rfl) (s_countOf (rA_9 hn) hwh.2.1 (by omega)) ?_
            have qca : 0 ≤ r_cnt σ 9 30 a ∧ r_cnt σ 9 30 a ≤ 16 := r_cnt_in hwh.2.1 a
            show j_at _ _ _ [(0, .ref 5), (1, j_i a), (2, j_i i), (3, j_i b), (4, j_i j), (5, j_i m)] [j_i (r_cnt σ 9 30 a), j_i m, j_i i] _ _ _ _
            refine b_callS (pc := 53) (c' := 0) (sl' := 0) [j_i i, j_i m, j_i (r_cnt σ 9 30 a)] [] ml_X11_116 (by decide +kernel) rfl rfl (Nat.le_of_ble_eq_true rfl) (j_fitI rfl rfl) (s_isWithin (by omega) (by omega) (by omega)) (fun v n' σ' hq => ?_)
            obtain ⟨x, rfl, e1, e2, hx⟩ := hq
            rw [e1, e2]; clear e1 e2
            rcases hx with ⟨rfl, p53⟩ | ⟨rfl, p53⟩
            · show j_at _ _ _ [(0, .ref 5), (1, j_i a), (2, j_i i), (3, j_i b), (4, j_i j), (5, j_i m)] [j_i 1] _ _ _ _
              refine a_if_eq (pc := 56) (off := 24) (tgt := 80) (by decide +kernel) (by decide) (by omega) (fun c56 => ?_) (fun c56 => ?_)
              · exact absurd c56 (by decide)
              · refine a_iload (pc := 59) (i := 4) (by decide +kernel) rfl ?_
                refine a_iload (pc := 61) (i := 5) (by decide +kernel) rfl ?_
                refine a_aload_n (pc := 63) (i := 0) (by decide +kernel) rfl ?_
                refine b_getR (pc := 64) (b := 8) fl_X11_20 (by decide +kernel) (sh_5 hn) rfl ?_
                refine b_getR (pc := 67) (b := 9) fl_X11_218 (by decide +kernel) (sh_8 hn) rfl ?_
                refine a_iload_n (pc := 70) (i := 3) (by decide +kernel) rfl ?_
                refine b_pureV (pc := 71) [j_i b] [j_i m, j_i j] ml_X11_158 (by decide +kernel) rfl rfl (sh_9 hn) rfl rfl (Nat.le_of_ble_eq_true rfl) (j_fitI rfl rfl) (s_countOf (rA_9 hn) hwh.2.1 (by omega)) ?_
                have qcb : 0 ≤ r_cnt σ 9 30 b ∧ r_cnt σ 9 30 b ≤ 16 := r_cnt_in hwh.2.1 b
                show j_at _ _ _ [(0, .ref 5), (1, j_i a), (2, j_i i), (3, j_i b), (4, j_i j), (5, j_i m)] [j_i (r_cnt σ 9 30 b), j_i m, j_i j] _ _ _ _
                refine b_callS (pc := 74) (c' := 0) (sl' := 0) [j_i j, j_i m, j_i (r_cnt σ 9 30 b)] [] ml_X11_116 (by decide +kernel) rfl rfl (Nat.le_of_ble_eq_true rfl) (j_fitI rfl rfl) (s_isWithin (by omega) (by omega) (by omega)) (fun v n' σ' hq => ?_)
                obtain ⟨x, rfl, e1, e2, hx⟩ := hq
                rw [e1, e2]; clear e1 e2
                rcases hx with ⟨rfl, p74⟩ | ⟨rfl, p74⟩
                · show j_at _ _ _ [(0, .ref 5), (1, j_i a), (2, j_i i), (3, j_i b), (4, j_i j), (5, j_i m)] [j_i 1] _ _ _ _
                  refine a_if_ne (pc := 77) (off := 9) (tgt := 86) (by decide +kernel) (by decide) (by omega) (fun c77 => ?_) (fun c77 => ?_)
                  · refine a_aload_n (pc := 86) (i := 0) (by decide +kernel) rfl ?_
                    refine a_iconst (pc := 87) (n := 0) (by decide +kernel) ?_
                    refine b_putI (pc := 88) fl_X11_82 (by decide +kernel) (sh_5 hn) rfl rfl rfl ?_
                    obtain ⟨σ1, hσ1⟩ : ∃ z, z = k_sI σ 5 12 0 := ⟨_, rfl⟩
                    rw [← hσ1]
                    refine a_iconst (pc := 91) (n := 0) (by decide +kernel) ?_
                    refine a_istore (pc := 92) (i := 6) (lv' := [(0, .ref 5), (1, j_i a), (2, j_i i), (3, j_i b), (4, j_i j), (5, j_i m), (6, j_i 0)]) (by decide +kernel) (Nat.le_of_ble_eq_true rfl) rfl ?_
                    have hrt : ∀ x k, r_sgn σ1 9 30 x k = r_sgn σ 9 30 x k := fun x k => by rw [hσ1]; rfl
                    have hme : mt_E σ1 a i b j m ↔ mt_E σ a i b j m := by unfold mt_E; simp only [hrt]
                    have h30 := hwh.1
                    refine k_mono (fun v n' σ' hq => ?_) (l_cmatch hn (r_wf_congr (σ := σ) (by rw [hσ1]; rfl) (by rw [hσ1]; rfl) hwh.2.1) ⟨by omega, by omega⟩ ⟨by omega, by omega⟩ (by omega) (by omega) (by omega) 17 0 (by omega) (by omega) (by omega) (fun x x0 x1 => absurd x0 (by omega)))
                    obtain ⟨q1, q2, q3⟩ := hq
                    rcases q3 with ⟨q3, q4⟩ | ⟨q3, q4⟩
                    · have q5 := bi_y (hme.mp q4)
                      rw [q3, q1, q2]
                      refine ⟨_, rfl, rfl, ⟨by rw [hσ1]; rfl, fun c j hc => by rw [hσ1, k_IN (by omega)], by rw [hσ1]; rfl⟩, ?_⟩
                      rw [show σ1.2.1 5 11 = σ.2.1 5 11 by rw [hσ1, k_IN (by omega)]]
                      rw [show σ1.2.1 5 12 = 0 by rw [hσ1, k_II]]
                      rw [show σ1.2.1 5 13 = σ.2.1 5 13 by rw [hσ1, k_IN (by omega)]]
                      rw [show σ1.2.1 5 14 = σ.2.1 5 14 by rw [hσ1, k_IN (by omega)]]
                      unfold mt_P
                      first | exact Or.inl (by omega) | exact Or.inr (Or.inl (by omega)) | exact Or.inr (Or.inr (Or.inl (by omega))) | exact Or.inr (Or.inr (Or.inr (Or.inl (by omega)))) | exact Or.inr (Or.inr (Or.inr (Or.inr (Or.inl (by omega))))) | exact Or.inr (Or.inr (Or.inr (Or.inr (Or.inr (by omega)))))
                    · have q5 := bi_n (fun g => q4 (hme.mpr g))
                      rw [q3, q1, q2]
                      refine ⟨_, rfl, rfl, ⟨by rw [hσ1]; rfl, fun c j hc => by rw [hσ1, k_IN (by omega)], by rw [hσ1]; rfl⟩, ?_⟩
                      rw [show σ1.2.1 5 11 = σ.2.1 5 11 by rw [hσ1, k_IN (by omega)]]
                      rw [show σ1.2.1 5 12 = 0 by rw [hσ1, k_II]]
                      rw [show σ1.2.1 5 13 = σ.2.1 5 13 by rw [hσ1, k_IN (by omega)]]
                      rw [show σ1.2.1 5 14 = σ.2.1 5 14 by rw [hσ1, k_IN (by omega)]]
                      unfold mt_P
                      first | exact Or.inl (by omega) | exact Or.inr (Or.inl (by omega)) | exact Or.inr (Or.inr (Or.inl (by omega))) | exact Or.inr (Or.inr (Or.inr (Or.inl (by omega)))) | exact Or.inr (Or.inr (Or.inr (Or.inr (Or.inl (by omega))))) | exact Or.inr (Or.inr (Or.inr (Or.inr (Or.inr (by omega)))))
                  · exact absurd c77 (by decide)
                · show j_at _ _ _ [(0, .ref 5), (1, j_i a), (2, j_i i), (3, j_i b), (4, j_i j), (5, j_i m)] [j_i 0] _ _ _ _
                  refine a_if_ne (pc := 77) (off := 9) (tgt := 86) (by decide +kernel) (by decide) (by omega) (fun c77 => ?_) (fun c77 => ?_)
                  · exact absurd c77 (by decide)
                  · refine a_aload_n (pc := 80) (i := 0) (by decide +kernel) rfl ?_
                    refine a_iconst (pc := 81) (n := 3) (by decide +kernel) ?_
                    refine b_callV (pc := 82) (c' := 0) (sl' := 0) [j_i 3] [] ml_X11_113 (by decide +kernel) rfl rfl (sh_5 hn) rfl rfl (Nat.le_of_ble_eq_true rfl) (j_fitI rfl rfl) (c_failed hn) (fun v n' σ' hq => ?_)
                    obtain ⟨rfl, e1, e2⟩ := hq
                    rw [e1, e2]; clear e1 e2
                    obtain ⟨σ2, hσ2⟩ : ∃ z, z = k_sI σ 5 12 3 := ⟨_, rfl⟩
                    rw [← hσ2]
                    show j_at _ _ _ [(0, .ref 5), (1, j_i a), (2, j_i i), (3, j_i b), (4, j_i j), (5, j_i m)] [j_i (-10 - 3)] _ _ _ _
                    refine a_ireturn (pc := 85) (by decide +kernel) rfl ?_
                    refine k_ret ?_
                    refine ⟨_, rfl, rfl, ⟨by rw [hσ2]; rfl, fun c j hc => by rw [hσ2, k_IN (by omega)], by rw [hσ2]; rfl⟩, ?_⟩
                    rw [show σ2.2.1 5 11 = σ.2.1 5 11 by rw [hσ2, k_IN (by omega)]]
                    rw [show σ2.2.1 5 12 = 3 by rw [hσ2, k_II]]
                    rw [show σ2.2.1 5 13 = σ.2.1 5 13 by rw [hσ2, k_IN (by omega)]]
                    rw [show σ2.2.1 5 14 = σ.2.1 5 14 by rw [hσ2, k_IN (by omega)]]
                    unfold mt_P
                    first | exact Or.inl (by omega) | exact Or.inr (Or.inl (by omega)) | exact Or.inr (Or.inr (Or.inl (by omega))) | exact Or.inr (Or.inr (Or.inr (Or.inl (by omega)))) | exact Or.inr (Or.inr (Or.inr (Or.inr (Or.inl (by omega))))) | exact Or.inr (Or.inr (Or.inr (Or.inr (Or.inr (by omega)))))
            · show j_at _ _ _ [(0, .ref 5), (1, j_i a), (2, j_i i), (3, j_i b), (4, j_i j), (5, j_i m)] [j_i 0] _ _ _ _
              refine a_if_eq (pc := 56) (off := 24) (tgt := 80) (by decide +kernel) (by decide) (by omega) (fun c56 => ?_) (fun c56 => ?_)
              · refine a_aload_n (pc := 80) (i := 0) (by decide +kernel) rfl ?_
                refine a_iconst (pc := 81) (n := 3) (by decide +kernel) ?_
                refine b_callV (pc := 82) (c' := 0) (sl' := 0) [j_i 3] [] ml_X11_113 (by decide +kernel) rfl rfl (sh_5 hn) rfl rfl (Nat.le_of_ble_eq_true rfl) (j_fitI rfl rfl) (c_failed hn) (fun v n' σ' hq => ?_)
                obtain ⟨rfl, e1, e2⟩ := hq
                rw [e1, e2]; clear e1 e2
                obtain ⟨σ3, hσ3⟩ : ∃ z, z = k_sI σ 5 12 3 := ⟨_, rfl⟩
                rw [← hσ3]
                show j_at _ _ _ [(0, .ref 5), (1, j_i a), (2, j_i i), (3, j_i b), (4, j_i j), (5, j_i m)] [j_i (-10 - 3)] _ _ _ _
                refine a_ireturn (pc := 85) (by decide +kernel) rfl ?_
                refine k_ret ?_
                refine ⟨_, rfl, rfl, ⟨by rw [hσ3]; rfl, fun c j hc => by rw [hσ3, k_IN (by omega)], by rw [hσ3]; rfl⟩, ?_⟩
                rw [show σ3.2.1 5 11 = σ.2.1 5 11 by rw [hσ3, k_IN (by omega)]]
                rw [show σ3.2.1 5 12 = 3 by rw [hσ3, k_II]]
                rw [show σ3.2.1 5 13 = σ.2.1 5 13 by rw [hσ3, k_IN (by omega)]]
                rw [show σ3.2.1 5 14 = σ.2.1 5 14 by rw [hσ3, k_IN (by omega)]]
                unfold mt_P
                first | exact Or.inl (by omega) | exact Or.inr (Or.inl (by omega)) | exact Or.inr (Or.inr (Or.inl (by omega))) | exact Or.inr (Or.inr (Or.inr (Or.inl (by omega)))) | exact Or.inr (Or.inr (Or.inr (Or.inr (Or.inl (by omega))))) | exact Or.inr (Or.inr (Or.inr (Or.inr (Or.inr (by omega)))))
              · exact absurd c56 (by decide)
          · refine a_aload_n (pc := 33) (i := 0) (by decide +kernel) rfl ?_
            refine a_iconst (pc := 34) (n := 4) (by decide +kernel) ?_
            refine b_callV (pc := 35) (c' := 0) (sl' := 0) [j_i 4] [] ml_X11_113 (by decide +kernel) rfl rfl (sh_5 hn) rfl rfl (Nat.le_of_ble_eq_true rfl) (j_fitI rfl rfl) (c_failed hn) (fun v n' σ' hq => ?_)
            obtain ⟨rfl, e1, e2⟩ := hq
            rw [e1, e2]; clear e1 e2
            obtain ⟨σ4, hσ4⟩ : ∃ z, z = k_sI σ 5 12 4 := ⟨_, rfl⟩
            rw [← hσ4]
            show j_at _ _ _ [(0, .ref 5), (1, j_i a), (2, j_i i), (3, j_i b), (4, j_i j), (5, j_i m)] [j_i (-10 - 4)] _ _ _ _
            refine a_ireturn (pc := 38) (by decide +kernel) rfl ?_
            refine k_ret ?_
            refine ⟨_, rfl, rfl, ⟨by rw [hσ4]; rfl, fun c j hc => by rw [hσ4, k_IN (by omega)], by rw [hσ4]; rfl⟩, ?_⟩
            rw [show σ4.2.1 5 11 = σ.2.1 5 11 by rw [hσ4, k_IN (by omega)]]
            rw [show σ4.2.1 5 12 = 4 by rw [hσ4, k_II]]
            rw [show σ4.2.1 5 13 = σ.2.1 5 13 by rw [hσ4, k_IN (by omega)]]
            rw [show σ4.2.1 5 14 = σ.2.1 5 14 by rw [hσ4, k_IN (by omega)]]
            unfold mt_P
            first | exact Or.inl (by omega) | exact Or.inr (Or.inl (by omega)) | exact Or.inr (Or.inr (Or.inl (by omega))) | exact Or.inr (Or.inr (Or.inr (Or.inl (by omega)))) | exact Or.inr (Or.inr (Or.inr (Or.inr (Or.inl (by omega))))) | exact Or.inr (Or.inr (Or.inr (Or.inr (Or.inr (by omega)))))
        · exact absurd c19 (by decide)
      · show j_at _ _ _ [(0, .ref 5), (1, j_i a), (2, j_i i), (3, j_i b), (4, j_i j), (5, j_i m)] [j_i 0] _ _ _ _
        have i16 := bi_n p16
        refine a_if_ne (pc := 19) (off := 9) (tgt := 28) (by decide +kernel) (by decide) (by omega) (fun c19 => ?_) (fun c19 => ?_)
        · exact absurd c19 (by decide)
        · refine a_aload_n (pc := 22) (i := 0) (by decide +kernel) rfl ?_
          refine a_iconst (pc := 23) (n := (-1)) (by decide +kernel) ?_
          refine b_callV (pc := 24) (c' := 0) (sl' := 0) [j_i (-1)] [] ml_X11_272 (by decide +kernel) rfl rfl (sh_5 hn) rfl rfl (Nat.le_of_ble_eq_true rfl) (j_fitI rfl rfl) (c_refused hn) (fun v n' σ' hq => ?_)
          obtain ⟨rfl, e1, e2⟩ := hq
          rw [e1, e2]; clear e1 e2
          obtain ⟨σ5, hσ5⟩ : ∃ z, z = k_sI σ 5 12 0 := ⟨_, rfl⟩
          rw [← hσ5]
          show j_at _ _ _ [(0, .ref 5), (1, j_i a), (2, j_i i), (3, j_i b), (4, j_i j), (5, j_i m)] [j_i (-1)] _ _ _ _
          refine a_ireturn (pc := 27) (by decide +kernel) rfl ?_
          refine k_ret ?_
          refine ⟨_, rfl, rfl, ⟨by rw [hσ5]; rfl, fun c j hc => by rw [hσ5, k_IN (by omega)], by rw [hσ5]; rfl⟩, ?_⟩
          rw [show σ5.2.1 5 11 = σ.2.1 5 11 by rw [hσ5, k_IN (by omega)]]
          rw [show σ5.2.1 5 12 = 0 by rw [hσ5, k_II]]
          rw [show σ5.2.1 5 13 = σ.2.1 5 13 by rw [hσ5, k_IN (by omega)]]
          rw [show σ5.2.1 5 14 = σ.2.1 5 14 by rw [hσ5, k_IN (by omega)]]
          unfold mt_P
          first | exact Or.inl (by omega) | exact Or.inr (Or.inl (by omega)) | exact Or.inr (Or.inr (Or.inl (by omega))) | exact Or.inr (Or.inr (Or.inr (Or.inl (by omega)))) | exact Or.inr (Or.inr (Or.inr (Or.inr (Or.inl (by omega))))) | exact Or.inr (Or.inr (Or.inr (Or.inr (Or.inr (by omega)))))
  · show j_at _ _ _ [(0, .ref 5), (1, j_i a), (2, j_i i), (3, j_i b), (4, j_i j), (5, j_i m)] [j_i 0] _ _ _ _
    have i5 := bi_n p5
    refine a_if_eq (pc := 8) (off := 14) (tgt := 22) (by decide +kernel) (by decide) (by omega) (fun c8 => ?_) (fun c8 => ?_)
    · refine a_aload_n (pc := 22) (i := 0) (by decide +kernel) rfl ?_
      refine a_iconst (pc := 23) (n := (-1)) (by decide +kernel) ?_
      refine b_callV (pc := 24) (c' := 0) (sl' := 0) [j_i (-1)] [] ml_X11_272 (by decide +kernel) rfl rfl (sh_5 hn) rfl rfl (Nat.le_of_ble_eq_true rfl) (j_fitI rfl rfl) (c_refused hn) (fun v n' σ' hq => ?_)
      obtain ⟨rfl, e1, e2⟩ := hq
      rw [e1, e2]; clear e1 e2
      obtain ⟨σ6, hσ6⟩ : ∃ z, z = k_sI σ 5 12 0 := ⟨_, rfl⟩
      rw [← hσ6]
      show j_at _ _ _ [(0, .ref 5), (1, j_i a), (2, j_i i), (3, j_i b), (4, j_i j), (5, j_i m)] [j_i (-1)] _ _ _ _
      refine a_ireturn (pc := 27) (by decide +kernel) rfl ?_
      refine k_ret ?_
      refine ⟨_, rfl, rfl, ⟨by rw [hσ6]; rfl, fun c j hc => by rw [hσ6, k_IN (by omega)], by rw [hσ6]; rfl⟩, ?_⟩
      rw [show σ6.2.1 5 11 = σ.2.1 5 11 by rw [hσ6, k_IN (by omega)]]
      rw [show σ6.2.1 5 12 = 0 by rw [hσ6, k_II]]
      rw [show σ6.2.1 5 13 = σ.2.1 5 13 by rw [hσ6, k_IN (by omega)]]
      rw [show σ6.2.1 5 14 = σ.2.1 5 14 by rw [hσ6, k_IN (by omega)]]
      unfold mt_P
      first | exact Or.inl (by omega) | exact Or.inr (Or.inl (by omega)) | exact Or.inr (Or.inr (Or.inl (by omega))) | exact Or.inr (Or.inr (Or.inr (Or.inl (by omega)))) | exact Or.inr (Or.inr (Or.inr (Or.inr (Or.inl (by omega))))) | exact Or.inr (Or.inr (Or.inr (Or.inr (Or.inr (by omega)))))
    · exact absurd c8 (by decide)
set_option maxHeartbeats 4000000 in
theorem l_dmatch {G : j_G} {X : k_X} {n : Nat} {τ : k_St} (hn : 101 ≤ n) (hgt : ∀ i : Int, -128 ≤ τ.1 69 i ∧ τ.1 69 i ≤ 9999) {a i b j m : Int} (ha : 0 ≤ a ∧ a < 30) (hb : 0 ≤ b ∧ b < 30) (hi : 0 ≤ i ∧ i + m ≤ 16) (hj : 0 ≤ j ∧ j + m ≤ 16) (hm : 0 ≤ m)  : ∀ (y : Nat) (k z : Int), 16 - k < (y : Int) → 0 ≤ k → k ≤ m → (z = 0 ∨ z = 1) → (z = 1 ↔ ∀ x, 0 ≤ x → x < k → τ.1 69 (302 + 36 * a + 3 + (i + x)) = τ.1 69 (302 + 36 * b + 3 + (j + x))) → j_at G mX12_match 99 [(0, .ref 68), (1, j_i a), (2, j_i i), (3, j_i b), (4, j_i j), (5, j_i m), (6, j_i z), (7, j_i k)] [] (k_h X n τ) 0 0 (k_Q X (fun v n' σ' => n' = n ∧ σ' = τ ∧ (v = some (j_i 1) ∧ mt_D (τ.1 69) a i b j m ∨ v = some (j_i 0) ∧ ¬ mt_D (τ.1 69) a i b j m))) := by
  intro y
  induction y with
  | zero => intro k z h1 h2 h3; exact absurd h1 (by omega)
  | succ y ih =>
    intro k z hy h0 hN hz01 hz
    refine a_iload (pc := 99) (i := 7) (by decide +kernel) rfl ?_
    refine a_iload (pc := 101) (i := 5) (by decide +kernel) rfl ?_
    refine a_icmp_ge (pc := 103) (off := 41) (tgt := 144) (by decide +kernel) (by decide) (by omega) (by omega) (fun c103 => ?_) (fun c103 => ?_)
    · refine a_iload (pc := 144) (i := 6) (by decide +kernel) rfl ?_
      refine a_if_eq (pc := 146) (off := 7) (tgt := 153) (by decide +kernel) (by decide) (by omega) (fun c146 => ?_) (fun c146 => ?_)
      · refine a_iconst (pc := 153) (n := 0) (by decide +kernel) ?_
        refine a_ireturn (pc := 154) (by decide +kernel) rfl ?_
        refine k_ret ?_
        rw [show k = m by omega] at hz
        exact ⟨rfl, rfl, Or.inr ⟨rfl, fun g => by have := hz.mpr g; omega⟩⟩
      · refine a_iconst (pc := 149) (n := 1) (by decide +kernel) ?_
        refine a_goto (pc := 150) (off := 4) (tgt := 154) (by decide +kernel) (by decide) ?_
        refine a_ireturn (pc := 154) (by decide +kernel) rfl ?_
        refine k_ret ?_
        rw [show k = m by omega] at hz
        exact ⟨rfl, rfl, Or.inl ⟨rfl, hz.mp (by omega)⟩⟩
    · refine a_iload (pc := 106) (i := 6) (by decide +kernel) rfl ?_
      refine a_aload_n (pc := 108) (i := 0) (by decide +kernel) rfl ?_
      refine a_iload_n (pc := 109) (i := 1) (by decide +kernel) rfl ?_
      refine a_iload_n (pc := 110) (i := 2) (by decide +kernel) rfl ?_
      refine a_iload (pc := 111) (i := 7) (by decide +kernel) rfl ?_
      refine a_iadd (pc := 113) (by decide +kernel) ?_
      refine b_pureV (pc := 114) [j_i a, j_i (i + k)] [j_i z] ml_X12_189 (by decide +kernel) rfl rfl (sh_68 hn) rfl rfl (Nat.le_of_ble_eq_true rfl) (j_fitI rfl rfl) (s_dsignOf hn (by omega) (by omega)) ?_
      have q1 := hgt (302 + 36 * a + 3 + (i + k))
      show j_at _ _ _ [(0, .ref 68), (1, j_i a), (2, j_i i), (3, j_i b), (4, j_i j), (5, j_i m), (6, j_i z), (7, j_i k)] [j_i (τ.1 69 (302 + 36 * a + 3 + (i + k))), j_i z] _ _ _ _
      refine a_aload_n (pc := 117) (i := 0) (by decide +kernel) rfl ?_
      refine a_iload_n (pc := 118) (i := 3) (by decide +kernel) rfl ?_
      refine a_iload (pc := 119) (i := 4) (by decide +kernel) rfl ?_
      refine a_iload (pc := 121) (i := 7) (by decide +kernel) rfl ?_
      refine a_iadd (pc := 123) (by decide +kernel) ?_
      refine b_pureV (pc := 124) [j_i b, j_i (j + k)] [j_i (τ.1 69 (302 + 36 * a + 3 + (i + k))), j_i z] ml_X12_189 (by decide +kernel) rfl rfl (sh_68 hn) rfl rfl (Nat.le_of_ble_eq_true rfl) (j_fitI rfl rfl) (s_dsignOf hn (by omega) (by omega)) ?_
      have q2 := hgt (302 + 36 * b + 3 + (j + k))
      show j_at _ _ _ [(0, .ref 68), (1, j_i a), (2, j_i i), (3, j_i b), (4, j_i j), (5, j_i m), (6, j_i z), (7, j_i k)] [j_i (τ.1 69 (302 + 36 * b + 3 + (j + k))), j_i (τ.1 69 (302 + 36 * a + 3 + (i + k))), j_i z] _ _ _ _
      refine a_icmp_ne (pc := 127) (off := 7) (tgt := 134) (by decide +kernel) (by decide) (by omega) (by omega) (fun c127 => ?_) (fun c127 => ?_)
      · refine a_iconst (pc := 134) (n := 0) (by decide +kernel) ?_
        refine a_iand (pc := 135) (by decide +kernel) ?_
        rw [and_b0 hz01]
        refine a_istore (pc := 136) (i := 6) (lv' := [(0, .ref 68), (1, j_i a), (2, j_i i), (3, j_i b), (4, j_i j), (5, j_i m), (6, j_i 0), (7, j_i k)]) (by decide +kernel) (Nat.le_of_ble_eq_true rfl) rfl ?_
        refine a_iinc (pc := 138) (i := 7) (n := 1) (x := k) (lv' := [(0, .ref 68), (1, j_i a), (2, j_i i), (3, j_i b), (4, j_i j), (5, j_i m), (6, j_i 0), (7, j_i (k + 1))]) (by decide +kernel) rfl (Nat.le_of_ble_eq_true rfl) rfl ?_
        refine a_goto (pc := 141) (off := -42) (tgt := 99) (by decide +kernel) (by decide) ?_
        exact ih (k + 1) 0 (by omega) (by omega) (by omega) (Or.inl rfl) ⟨fun g => absurd g (by omega), fun g => absurd (g k h0 (by omega)) c127⟩
      · refine a_iconst (pc := 130) (n := 1) (by decide +kernel) ?_
        refine a_goto (pc := 131) (off := 4) (tgt := 135) (by decide +kernel) (by decide) ?_
        refine a_iand (pc := 135) (by decide +kernel) ?_
        rw [and_b1 hz01]
        refine a_istore (pc := 136) (i := 6) (lv' := [(0, .ref 68), (1, j_i a), (2, j_i i), (3, j_i b), (4, j_i j), (5, j_i m), (6, j_i z), (7, j_i k)]) (by decide +kernel) (Nat.le_of_ble_eq_true rfl) rfl ?_
        refine a_iinc (pc := 138) (i := 7) (n := 1) (x := k) (lv' := [(0, .ref 68), (1, j_i a), (2, j_i i), (3, j_i b), (4, j_i j), (5, j_i m), (6, j_i z), (7, j_i (k + 1))]) (by decide +kernel) rfl (Nat.le_of_ble_eq_true rfl) rfl ?_
        refine a_goto (pc := 141) (off := -42) (tgt := 99) (by decide +kernel) (by decide) ?_
        exact ih (k + 1) z (by omega) (by omega) (by omega) hz01 (hz.trans ⟨fun g x x0 x1 => by by_cases e : x = k; rw [e]; exact c127; exact g x x0 (by omega), fun g x x0 x1 => g x x0 (by omega)⟩)
set_option maxHeartbeats 4000000 in
theorem d_match {G : j_G} {X : k_X} {n : Nat} {ρ σ : k_St} (hR : RR n ρ) (hC : CS ρ σ) {a : Int} (ha : -2147483648 ≤ a ∧ a ≤ 2147483647) {i : Int} (hi : -2147483648 ≤ i ∧ i ≤ 2147483647) {b : Int} (hb : -2147483648 ≤ b ∧ b ≤ 2147483647) {j : Int} (hj : -2147483648 ≤ j ∧ j ≤ 2147483647) {m : Int} (hm : -2147483648 ≤ m ∧ m ≤ 2147483647) {r : Int} (hP : mt_P ρ a i b j m r (σ.2.1 5 11) (σ.2.1 5 12) (σ.2.1 5 13) (σ.2.1 5 14))  : k_run G X mX12_match [.ref 68, j_i a, j_i i, j_i b, j_i j, j_i m] n σ 0 0 (fun v2 n2 σ2 => v2 = some (j_i r) ∧ RR n2 σ2) := by
  have hR0 := CS_R hC hR
  obtain ⟨hK, hAc, hNm, hPs, hPt, hSm, hIx⟩ := id hR0
  have hn := RR_n hR
  have hk := hK.1
  have hwh : h_wf σ 8 := hk.2.1
  have hwm : m_wf σ 16 := hk.2.2
  have hW : 0 ≤ σ.2.1 6 1 ∧ σ.2.1 6 1 ≤ 300 := hk.1
  have hg := hK.2.2.2
  obtain ⟨⟨hgW, hgE, hgM⟩, hgh, hgm⟩ := KR_rg hk hK.2.1
  have hW0 : σ.2.1 6 1 = σ.1 69 0 := hK.2.1.1.1
  have hE0 : σ.2.1 8 3 = σ.1 69 301 := hK.2.1.2.1.1
  have hM0 : σ.2.1 16 5 = σ.1 69 1382 := hK.2.1.2.2.1
  obtain ⟨s1, s2, s3, s4, s5, s6, s7⟩ := hSm
  have e2 : bi (h_is ρ a) = bi (d_is σ a) := bi_c (by rw [RK_h' hK]; unfold h_is; rw [hC.1, hC.2.1 8 3 (by omega)])
  have e3 : bi (h_is ρ b) = bi (d_is σ b) := bi_c (by rw [RK_h' hK]; unfold h_is; rw [hC.1, hC.2.1 8 3 (by omega)])
  have e4 : r_cnt ρ 9 30 a = r_cnt σ 9 30 a := by unfold r_cnt; rw [hC.1]
  have e5 : r_cnt ρ 9 30 b = r_cnt σ 9 30 b := by unfold r_cnt; rw [hC.1]
  have hra : ∀ k, r_sgn ρ 9 30 a k = r_sgn σ 9 30 a k := fun k => by unfold r_sgn; rw [hC.1]
  have hrb : ∀ k, r_sgn ρ 9 30 b k = r_sgn σ 9 30 b k := fun k => by unfold r_sgn; rw [hC.1]
  refine k_enter (by decide +kernel) (Nat.le_of_ble_eq_true rfl) ?_
  show j_at _ _ _ [(0, .ref 68), (1, j_i a), (2, j_i i), (3, j_i b), (4, j_i j), (5, j_i m)] [] _ _ _ _
  refine a_aload_n (pc := 0) (i := 0) (by decide +kernel) rfl ?_
  refine a_iconst (pc := 1) (n := 0) (by decide +kernel) ?_
  refine b_putI (pc := 2) fl_X12_115 (by decide +kernel) (sh_68 hn) rfl rfl rfl ?_
  obtain ⟨σ1, hσ1⟩ : ∃ z, z = k_sI σ 68 0 0 := ⟨_, rfl⟩
  rw [← hσ1]
  refine a_aload_n (pc := 5) (i := 0) (by decide +kernel) rfl ?_
  refine a_iload_n (pc := 6) (i := 1) (by decide +kernel) rfl ?_
  refine b_callV (pc := 7) (c' := 0) (sl' := 0) [j_i a] [] ml_X12_202 (by decide +kernel) rfl rfl (sh_68 hn) rfl rfl (Nat.le_of_ble_eq_true rfl) (j_fitI rfl rfl) (s_disHead hn (by rw [hσ1]; exact hg) (by omega) (by rw [hσ1]; exact hgE)) (fun v n' σ' hq => ?_)
  obtain ⟨x, rfl, e1, e2, hx⟩ := hq
  rw [e1, e2]; clear e1 e2
  rcases hx with ⟨rfl, p7⟩ | ⟨rfl, p7⟩
  · show j_at _ _ _ [(0, .ref 68), (1, j_i a), (2, j_i i), (3, j_i b), (4, j_i j), (5, j_i m)] [j_i 1] _ _ _ _
    rw [show d_is σ1 a = d_is σ a by unfold d_is; rw [hσ1]; rfl] at p7
    have i7 := bi_y p7
    have u7 := p7.1
    have w7 := p7.2.1
    have hca := (KR_own hK u7 w7).1
    have hqa := hgh a u7 w7
    refine a_if_eq (pc := 10) (off := 11) (tgt := 21) (by decide +kernel) (by decide) (by omega) (fun c10 => ?_) (fun c10 => ?_)
    · exact absurd c10 (by decide)
    · refine a_aload_n (pc := 13) (i := 0) (by decide +kernel) rfl ?_
      refine a_iload_n (pc := 14) (i := 3) (by decide +kernel) rfl ?_
      refine b_callV (pc := 15) (c' := 0) (sl' := 0) [j_i b] [] ml_X12_202 (by decide +kernel) rfl rfl (sh_68 hn) rfl rfl (Nat.le_of_ble_eq_true rfl) (j_fitI rfl rfl) (s_disHead hn (by rw [hσ1]; exact hg) (by omega) (by rw [hσ1]; exact hgE)) (fun v n' σ' hq => ?_)
      obtain ⟨x, rfl, e1, e2, hx⟩ := hq
      rw [e1, e2]; clear e1 e2
      rcases hx with ⟨rfl, p15⟩ | ⟨rfl, p15⟩
      · show j_at _ _ _ [(0, .ref 68), (1, j_i a), (2, j_i i), (3, j_i b), (4, j_i j), (5, j_i m)] [j_i 1] _ _ _ _
        rw [show d_is σ1 b = d_is σ b by unfold d_is; rw [hσ1]; rfl] at p15
        have i15 := bi_y p15
        have u15 := p15.1
        have w15 := p15.2.1
        have hcb := (KR_own hK u15 w15).1
        have hqb := hgh b u15 w15
        refine a_if_ne (pc := 18) (off := 5) (tgt := 23) (by decide +kernel) (by decide) (by omega) (fun c18 => ?_) (fun c18 => ?_)
        · refine a_iload (pc := 23) (i := 5) (by decide +kernel) rfl ?_
          refine a_if_ge (pc := 25) (off := 9) (tgt := 34) (by decide +kernel) (by decide) (by omega) (fun c25 => ?_) (fun c25 => ?_)
          · refine a_iload_n (pc := 34) (i := 2) (by decide +kernel) rfl ?_
            refine a_if_lt (pc := 35) (off := 52) (tgt := 87) (by decide +kernel) (by decide) (by omega) (fun c35 => ?_) (fun c35 => ?_)
            · refine a_aload_n (pc := 87) (i := 0) (by decide +kernel) rfl ?_
              refine a_iconst (pc := 88) (n := 3) (by decide +kernel) ?_
              refine b_callV (pc := 89) (c' := 0) (sl' := 0) [j_i 3] [] ml_X12_142 (by decide +kernel) rfl rfl (sh_68 hn) rfl rfl (Nat.le_of_ble_eq_true rfl) (j_fitI rfl rfl) (s_dfails hn) (fun v n' σ' hq => ?_)
              obtain ⟨rfl, e1, e2⟩ := hq
              rw [e1, e2]; clear e1 e2
              obtain ⟨σ2, hσ2⟩ : ∃ z, z = k_sI σ1 68 0 3 := ⟨_, rfl⟩
              rw [← hσ2]
              show j_at _ _ _ [(0, .ref 68), (1, j_i a), (2, j_i i), (3, j_i b), (4, j_i j), (5, j_i m)] [j_i (-10 - 3)] _ _ _ _
              refine a_ireturn (pc := 92) (by decide +kernel) rfl ?_
              refine k_ret ?_
              unfold mt_P at hP
              rw [e2, e3, e4, e5] at hP
              have hr : (-10 - 3 : Int) = r := by rcases hP with hP | hP | hP | hP | hP | hP <;> omega
              refine ⟨by rw [hr], RR_scs (σ := ρ) ⟨fun c _ => by rw [hσ2, hσ1]; show σ.1 c = _; rw [hC.1], fun c j _ g1 g2 => by rw [hσ2, k_IN (by omega), hσ1, k_IN (by omega)]; exact hC.2.1 c j (by omega), by rw [hσ2, hσ1]; exact hC.2.2⟩ ?_ hR⟩
              unfold RSmall
              rw [show σ2.2.1 5 10 = σ.2.1 5 10 by rw [hσ2, k_IN (by omega), hσ1, k_IN (by omega)]]
              rw [show σ2.2.1 5 11 = σ.2.1 5 11 by rw [hσ2, k_IN (by omega), hσ1, k_IN (by omega)]]
              rw [show σ2.2.1 5 12 = σ.2.1 5 12 by rw [hσ2, k_IN (by omega), hσ1, k_IN (by omega)]]
              rw [show σ2.2.1 5 13 = σ.2.1 5 13 by rw [hσ2, k_IN (by omega), hσ1, k_IN (by omega)]]
              rw [show σ2.2.1 5 14 = σ.2.1 5 14 by rw [hσ2, k_IN (by omega), hσ1, k_IN (by omega)]]
              rw [show σ2.2.1 68 11 = σ.2.1 68 11 by rw [hσ2, k_IN (by omega), hσ1, k_IN (by omega)]]
              rw [show σ2.2.1 68 1 = σ.2.1 68 1 by rw [hσ2, k_IN (by omega), hσ1, k_IN (by omega)]]
              rw [show σ2.2.1 68 0 = 3 by rw [hσ2, k_II]]
              rw [show σ2.2.1 68 52 = σ.2.1 68 52 by rw [hσ2, k_IN (by omega), hσ1, k_IN (by omega)]]
              rw [show σ2.2.1 68 53 = σ.2.1 68 53 by rw [hσ2, k_IN (by omega), hσ1, k_IN (by omega)]]
              rcases hP with hP | hP | hP | hP | hP | hP <;> omega
            · refine a_iload (pc := 38) (i := 4) (by decide +kernel) rfl ?_
              refine a_if_lt (pc := 40) (off := 47) (tgt := 87) (by decide +kernel) (by decide) (by omega) (fun c40 => ?_) (fun c40 => ?_)
              · refine a_aload_n (pc := 87) (i := 0) (by decide +kernel) rfl ?_
                refine a_iconst (pc := 88) (n := 3) (by decide +kernel) ?_
                refine b_callV (pc := 89) (c' := 0) (sl' := 0) [j_i 3] [] ml_X12_142 (by decide +kernel) rfl rfl (sh_68 hn) rfl rfl (Nat.le_of_ble_eq_true rfl) (j_fitI rfl rfl) (s_dfails hn) (fun v n' σ' hq => ?_)
                obtain ⟨rfl, e1, e2⟩ := hq
                rw [e1, e2]; clear e1 e2
                obtain ⟨σ3, hσ3⟩ : ∃ z, z = k_sI σ1 68 0 3 := ⟨_, rfl⟩
                rw [← hσ3]
                show j_at _ _ _ [(0, .ref 68), (1, j_i a), (2, j_i i), (3, j_i b), (4, j_i j), (5, j_i m)] [j_i (-10 - 3)] _ _ _ _
                refine a_ireturn (pc := 92) (by decide +kernel) rfl ?_
                refine k_ret ?_
                unfold mt_P at hP
                rw [e2, e3, e4, e5] at hP
                have hr : (-10 - 3 : Int) = r := by rcases hP with hP | hP | hP | hP | hP | hP <;> omega
                refine ⟨by rw [hr], RR_scs (σ := ρ) ⟨fun c _ => by rw [hσ3, hσ1]; show σ.1 c = _; rw [hC.1], fun c j _ g1 g2 => by rw [hσ3, k_IN (by omega), hσ1, k_IN (by omega)]; exact hC.2.1 c j (by omega), by rw [hσ3, hσ1]; exact hC.2.2⟩ ?_ hR⟩
                unfold RSmall
                rw [show σ3.2.1 5 10 = σ.2.1 5 10 by rw [hσ3, k_IN (by omega), hσ1, k_IN (by omega)]]
                rw [show σ3.2.1 5 11 = σ.2.1 5 11 by rw [hσ3, k_IN (by omega), hσ1, k_IN (by omega)]]
                rw [show σ3.2.1 5 12 = σ.2.1 5 12 by rw [hσ3, k_IN (by omega), hσ1, k_IN (by omega)]]
                rw [show σ3.2.1 5 13 = σ.2.1 5 13 by rw [hσ3, k_IN (by omega), hσ1, k_IN (by omega)]]
                rw [show σ3.2.1 5 14 = σ.2.1 5 14 by rw [hσ3, k_IN (by omega), hσ1, k_IN (by omega)]]
                rw [show σ3.2.1 68 11 = σ.2.1 68 11 by rw [hσ3, k_IN (by omega), hσ1, k_IN (by omega)]]
                rw [show σ3.2.1 68 1 = σ.2.1 68 1 by rw [hσ3, k_IN (by omega), hσ1, k_IN (by omega)]]
                rw [show σ3.2.1 68 0 = 3 by rw [hσ3, k_II]]
                rw [show σ3.2.1 68 52 = σ.2.1 68 52 by rw [hσ3, k_IN (by omega), hσ1, k_IN (by omega)]]
                rw [show σ3.2.1 68 53 = σ.2.1 68 53 by rw [hσ3, k_IN (by omega), hσ1, k_IN (by omega)]]
                rcases hP with hP | hP | hP | hP | hP | hP <;> omega
              · refine a_iload_n (pc := 43) (i := 2) (by decide +kernel) rfl ?_
                refine a_aload_n (pc := 44) (i := 0) (by decide +kernel) rfl ?_
                refine a_iload_n (pc := 45) (i := 1) (by decide +kernel) rfl ?_
                refine b_pureV (pc := 46) [j_i a] [j_i i] ml_X12_186 (by decide +kernel) rfl rfl (sh_68 hn) rfl rfl (Nat.le_of_ble_eq_true rfl) (j_fitI rfl rfl) (s_dsignsOf hn (by omega)) ?_
                rw [show σ1.1 = σ.1 by rw [hσ1]; rfl]
                have q4 := hg (302 + 36 * a + 1)
                show j_at _ _ _ [(0, .ref 68), (1, j_i a), (2, j_i i), (3, j_i b), (4, j_i j), (5, j_i m)] [j_i (σ.1 69 (302 + 36 * a + 1)), j_i i] _ _ _ _
                refine a_icmp_gt (pc := 49) (off := 38) (tgt := 87) (by decide +kernel) (by decide) (by omega) (by omega) (fun c49 => ?_) (fun c49 => ?_)
                · refine a_aload_n (pc := 87) (i := 0) (by decide +kernel) rfl ?_
                  refine a_iconst (pc := 88) (n := 3) (by decide +kernel) ?_
                  refine b_callV (pc := 89) (c' := 0) (sl' := 0) [j_i 3] [] ml_X12_142 (by decide +kernel) rfl rfl (sh_68 hn) rfl rfl (Nat.le_of_ble_eq_true rfl) (j_fitI rfl rfl) (s_dfails hn) (fun v n' σ' hq => ?_)
                  obtain ⟨rfl, e1, e2⟩ := hq
                  rw [e1, e2]; clear e1 e2
                  obtain ⟨σ5, hσ5⟩ : ∃ z, z = k_sI σ1 68 0 3 := ⟨_, rfl⟩
                  rw [← hσ5]
                  show j_at _ _ _ [(0, .ref 68), (1, j_i a), (2, j_i i), (3, j_i b), (4, j_i j), (5, j_i m)] [j_i (-10 - 3)] _ _ _ _
                  refine a_ireturn (pc := 92) (by decide +kernel) rfl ?_
                  refine k_ret ?_
                  unfold mt_P at hP
                  rw [e2, e3, e4, e5] at hP
                  have hr : (-10 - 3 : Int) = r := by rcases hP with hP | hP | hP | hP | hP | hP <;> omega
                  refine ⟨by rw [hr], RR_scs (σ := ρ) ⟨fun c _ => by rw [hσ5, hσ1]; show σ.1 c = _; rw [hC.1], fun c j _ g1 g2 => by rw [hσ5, k_IN (by omega), hσ1, k_IN (by omega)]; exact hC.2.1 c j (by omega), by rw [hσ5, hσ1]; exact hC.2.2⟩ ?_ hR⟩
                  unfold RSmall
                  rw [show σ5.2.1 5 10 = σ.2.1 5 10 by rw [hσ5, k_IN (by omega), hσ1, k_IN (by omega)]]
                  rw [show σ5.2.1 5 11 = σ.2.1 5 11 by rw [hσ5, k_IN (by omega), hσ1, k_IN (by omega)]]
                  rw [show σ5.2.1 5 12 = σ.2.1 5 12 by rw [hσ5, k_IN (by omega), hσ1, k_IN (by omega)]]
                  rw [show σ5.2.1 5 13 = σ.2.1 5 13 by rw [hσ5, k_IN (by omega), hσ1, k_IN (by omega)]]
                  rw [show σ5.2.1 5 14 = σ.2.1 5 14 by rw [hσ5, k_IN (by omega), hσ1, k_IN (by omega)]]
                  rw [show σ5.2.1 68 11 = σ.2.1 68 11 by rw [hσ5, k_IN (by omega), hσ1, k_IN (by omega)]]
                  rw [show σ5.2.1 68 1 = σ.2.1 68 1 by rw [hσ5, k_IN (by omega), hσ1, k_IN (by omega)]]
                  rw [show σ5.2.1 68 0 = 3 by rw [hσ5, k_II]]
                  rw [show σ5.2.1 68 52 = σ.2.1 68 52 by rw [hσ5, k_IN (by omega), hσ1, k_IN (by omega)]]
                  rw [show σ5.2.1 68 53 = σ.2.1 68 53 by rw [hσ5, k_IN (by omega), hσ1, k_IN (by omega)]]
                  rcases hP with hP | hP | hP | hP | hP | hP <;> omega
                · refine a_iload (pc := 52) (i := 4) (by decide +kernel) rfl ?_
                  refine a_aload_n (pc := 54) (i := 0) (by decide +kernel) rfl ?_
                  refine a_iload_n (pc := 55) (i := 3) (by decide +kernel) rfl ?_
                  refine b_pureV (pc := 56) [j_i b] [j_i j] ml_X12_186 (by decide +kernel) rfl rfl (sh_68 hn) rfl rfl (Nat.le_of_ble_eq_true rfl) (j_fitI rfl rfl) (s_dsignsOf hn (by omega)) ?_
                  rw [show σ1.1 = σ.1 by rw [hσ1]; rfl]
                  have q6 := hg (302 + 36 * b + 1)
                  show j_at _ _ _ [(0, .ref 68), (1, j_i a), (2, j_i i), (3, j_i b), (4, j_i j), (5, j_i m)] [j_i (σ.1 69 (302 + 36 * b + 1)), j_i j] _ _ _ _
                  refine a_icmp_gt (pc := 59) (off := 28) (tgt := 87) (by decide +kernel) (by decide) (by omega) (by omega) (fun c59 => ?_) (fun c59 => ?_)
                  · refine a_aload_n (pc := 87) (i := 0) (by decide +kernel) rfl ?_
                    refine a_iconst (pc := 88) (n := 3) (by decide +kernel) ?_
                    refine b_callV (pc := 89) (c' := 0) (sl' := 0) [j_i 3] [] ml_X12_142 (by decide +kernel) rfl rfl (sh_68 hn) rfl rfl (Nat.le_of_ble_eq_true rfl) (j_fitI rfl rfl) (s_dfails hn) (fun v n' σ' hq => ?_)
                    obtain ⟨rfl, e1, e2⟩ := hq
                    rw [e1, e2]; clear e1 e2
                    obtain ⟨σ7, hσ7⟩ : ∃ z, z = k_sI σ1 68 0 3 := ⟨_, rfl⟩
                    rw [← hσ7]
                    show j_at _ _ _ [(0, .ref 68), (1, j_i a), (2, j_i i), (3, j_i b), (4, j_i j), (5, j_i m)] [j_i (-10 - 3)] _ _ _ _
                    refine a_ireturn (pc := 92) (by decide +kernel) rfl ?_
                    refine k_ret ?_
                    unfold mt_P at hP
                    rw [e2, e3, e4, e5] at hP
                    have hr : (-10 - 3 : Int) = r := by rcases hP with hP | hP | hP | hP | hP | hP <;> omega
                    refine ⟨by rw [hr], RR_scs (σ := ρ) ⟨fun c _ => by rw [hσ7, hσ1]; show σ.1 c = _; rw [hC.1], fun c j _ g1 g2 => by rw [hσ7, k_IN (by omega), hσ1, k_IN (by omega)]; exact hC.2.1 c j (by omega), by rw [hσ7, hσ1]; exact hC.2.2⟩ ?_ hR⟩
                    unfold RSmall
                    rw [show σ7.2.1 5 10 = σ.2.1 5 10 by rw [hσ7, k_IN (by omega), hσ1, k_IN (by omega)]]
                    rw [show σ7.2.1 5 11 = σ.2.1 5 11 by rw [hσ7, k_IN (by omega), hσ1, k_IN (by omega)]]
                    rw [show σ7.2.1 5 12 = σ.2.1 5 12 by rw [hσ7, k_IN (by omega), hσ1, k_IN (by omega)]]
                    rw [show σ7.2.1 5 13 = σ.2.1 5 13 by rw [hσ7, k_IN (by omega), hσ1, k_IN (by omega)]]
                    rw [show σ7.2.1 5 14 = σ.2.1 5 14 by rw [hσ7, k_IN (by omega), hσ1, k_IN (by omega)]]
                    rw [show σ7.2.1 68 11 = σ.2.1 68 11 by rw [hσ7, k_IN (by omega), hσ1, k_IN (by omega)]]
                    rw [show σ7.2.1 68 1 = σ.2.1 68 1 by rw [hσ7, k_IN (by omega), hσ1, k_IN (by omega)]]
                    rw [show σ7.2.1 68 0 = 3 by rw [hσ7, k_II]]
                    rw [show σ7.2.1 68 52 = σ.2.1 68 52 by rw [hσ7, k_IN (by omega), hσ1, k_IN (by omega)]]
                    rw [show σ7.2.1 68 53 = σ.2.1 68 53 by rw [hσ7, k_IN (by omega), hσ1, k_IN (by omega)]]
                    rcases hP with hP | hP | hP | hP | hP | hP <;> omega
                  · refine a_iload (pc := 62) (i := 5) (by decide +kernel) rfl ?_
                    refine a_aload_n (pc := 64) (i := 0) (by decide +kernel) rfl ?_
                    refine a_iload_n (pc := 65) (i := 1) (by decide +kernel) rfl ?_
                    refine b_pureV (pc := 66) [j_i a] [j_i m] ml_X12_186 (by decide +kernel) rfl rfl (sh_68 hn) rfl rfl (Nat.le_of_ble_eq_true rfl) (j_fitI rfl rfl) (s_dsignsOf hn (by omega)) ?_
                    rw [show σ1.1 = σ.1 by rw [hσ1]; rfl]
                    have q8 := hg (302 + 36 * a + 1)
                    show j_at _ _ _ [(0, .ref 68), (1, j_i a), (2, j_i i), (3, j_i b), (4, j_i j), (5, j_i m)] [j_i (σ.1 69 (302 + 36 * a + 1)), j_i m] _ _ _ _
                    refine a_iload_n (pc := 69) (i := 2) (by decide +kernel) rfl ?_
                    refine a_isub (pc := 70) (by decide +kernel) ?_
                    refine a_icmp_gt (pc := 71) (off := 16) (tgt := 87) (by decide +kernel) (by decide) (by omega) (by omega) (fun c71 => ?_) (fun c71 => ?_)
                    · refine a_aload_n (pc := 87) (i := 0) (by decide +kernel) rfl ?_
                      refine a_iconst (pc := 88) (n := 3) (by decide +kernel) ?_
                      refine b_callV (pc := 89) (c' := 0) (sl' := 0) [j_i 3] [] ml_X12_142 (by decide +kernel) rfl rfl (sh_68 hn) rfl rfl (Nat.le_of_ble_eq_true rfl) (j_fitI rfl rfl) (s_dfails hn) (fun v n' σ' hq => ?_)
                      obtain ⟨rfl, e1, e2⟩ := hq
                      rw [e1, e2]; clear e1 e2
                      obtain ⟨σ9, hσ9⟩ : ∃ z, z = k_sI σ1 68 0 3 := ⟨_, rfl⟩
                      rw [← hσ9]
                      show j_at _ _ _ [(0, .ref 68), (1, j_i a), (2, j_i i), (3, j_i b), (4, j_i j), (5, j_i m)] [j_i (-10 - 3)] _ _ _ _
                      refine a_ireturn (pc := 92) (by decide +kernel) rfl ?_
                      refine k_ret ?_
                      unfold mt_P at hP
                      rw [e2, e3, e4, e5] at hP
                      have hr : (-10 - 3 : Int) = r := by rcases hP with hP | hP | hP | hP | hP | hP <;> omega
                      refine ⟨by rw [hr], RR_scs (σ := ρ) ⟨fun c _ => by rw [hσ9, hσ1]; show σ.1 c = _; rw [hC.1], fun c j _ g1 g2 => by rw [hσ9, k_IN (by omega), hσ1, k_IN (by omega)]; exact hC.2.1 c j (by omega), by rw [hσ9, hσ1]; exact hC.2.2⟩ ?_ hR⟩
                      unfold RSmall
                      rw [show σ9.2.1 5 10 = σ.2.1 5 10 by rw [hσ9, k_IN (by omega), hσ1, k_IN (by omega)]]
                      rw [show σ9.2.1 5 11 = σ.2.1 5 11 by rw [hσ9, k_IN (by omega), hσ1, k_IN (by omega)]]
                      rw [show σ9.2.1 5 12 = σ.2.1 5 12 by rw [hσ9, k_IN (by omega), hσ1, k_IN (by omega)]]
                      rw [show σ9.2.1 5 13 = σ.2.1 5 13 by rw [hσ9, k_IN (by omega), hσ1, k_IN (by omega)]]
                      rw [show σ9.2.1 5 14 = σ.2.1 5 14 by rw [hσ9, k_IN (by omega), hσ1, k_IN (by omega)]]
                      rw [show σ9.2.1 68 11 = σ.2.1 68 11 by rw [hσ9, k_IN (by omega), hσ1, k_IN (by omega)]]
                      rw [show σ9.2.1 68 1 = σ.2.1 68 1 by rw [hσ9, k_IN (by omega), hσ1, k_IN (by omega)]]
                      rw [show σ9.2.1 68 0 = 3 by rw [hσ9, k_II]]
                      rw [show σ9.2.1 68 52 = σ.2.1 68 52 by rw [hσ9, k_IN (by omega), hσ1, k_IN (by omega)]]
                      rw [show σ9.2.1 68 53 = σ.2.1 68 53 by rw [hσ9, k_IN (by omega), hσ1, k_IN (by omega)]]
                      rcases hP with hP | hP | hP | hP | hP | hP <;> omega
                    · refine a_iload (pc := 74) (i := 5) (by decide +kernel) rfl ?_
                      refine a_aload_n (pc := 76) (i := 0) (by decide +kernel) rfl ?_
                      refine a_iload_n (pc := 77) (i := 3) (by decide +kernel) rfl ?_
                      refine b_pureV (pc := 78) [j_i b] [j_i m] ml_X12_186 (by decide +kernel) rfl rfl (sh_68 hn) rfl rfl (Nat.le_of_ble_eq_true rfl) (j_fitI rfl rfl) (s_dsignsOf hn (by omega)) ?_
                      rw [show σ1.1 = σ.1 by rw [hσ1]; rfl]
                      have q10 := hg (302 + 36 * b + 1)
                      show j_at _ _ _ [(0, .ref 68), (1, j_i a), (2, j_i i), (3, j_i b), (4, j_i j), (5, j_i m)] [j_i (σ.1 69 (302 + 36 * b + 1)), j_i m] _ _ _ _
                      refine a_iload (pc := 81) (i := 4) (by decide +kernel) rfl ?_
                      refine a_isub (pc := 83) (by decide +kernel) ?_
                      refine a_icmp_le (pc := 84) (off := 9) (tgt := 93) (by decide +kernel) (by decide) (by omega) (by omega) (fun c84 => ?_) (fun c84 => ?_)
                      · refine a_iconst (pc := 93) (n := 1) (by decide +kernel) ?_
                        refine a_istore (pc := 94) (i := 6) (lv' := [(0, .ref 68), (1, j_i a), (2, j_i i), (3, j_i b), (4, j_i j), (5, j_i m), (6, j_i 1)]) (by decide +kernel) (Nat.le_of_ble_eq_true rfl) rfl ?_
                        refine a_iconst (pc := 96) (n := 0) (by decide +kernel) ?_
                        refine a_istore (pc := 97) (i := 7) (lv' := [(0, .ref 68), (1, j_i a), (2, j_i i), (3, j_i b), (4, j_i j), (5, j_i m), (6, j_i 1), (7, j_i 0)]) (by decide +kernel) (Nat.le_of_ble_eq_true rfl) rfl ?_
                        have h69 : σ1.1 69 = σ.1 69 := by rw [hσ1]; rfl
                        refine k_mono (fun v n' σ' hq => ?_) (l_dmatch hn (by rw [h69]; exact hg) ⟨by omega, by omega⟩ ⟨by omega, by omega⟩ (by omega) (by omega) (by omega) 17 0 1 (by omega) (by omega) (by omega) (Or.inr rfl) ⟨fun _ x x0 x1 => absurd x0 (by omega), fun _ => rfl⟩)
                        obtain ⟨q1, q2, q3⟩ := hq
                        rw [h69] at q3
                        have hme : mt_E ρ a i b j m ↔ mt_D (σ.1 69) a i b j m := by
                          unfold mt_E mt_D
                          refine forall_congr' (fun k => ?_)
                          refine forall_congr' (fun k0 => ?_)
                          refine forall_congr' (fun k1 => ?_)
                          rw [hra, hrb, (KR_own hK (by omega) (by omega)).2, (KR_own hK (by omega) (by omega)).2]
                          unfold e_own
                          rw [if_pos (by omega), if_pos (by omega)]
                        rcases q3 with ⟨q3, q4⟩ | ⟨q3, q4⟩
                        · have q5 := bi_y (hme.mpr q4)
                          rw [q3, q1, q2]
                          unfold mt_P at hP
                          rw [e2, e3, e4, e5] at hP
                          have hr : (1 : Int) = r := by rcases hP with hP | hP | hP | hP | hP | hP <;> omega
                          refine ⟨by rw [hr], RR_scs (σ := ρ) ⟨fun c _ => by rw [hσ1]; show σ.1 c = _; rw [hC.1], fun c j _ g1 g2 => by rw [hσ1, k_IN (by omega)]; exact hC.2.1 c j (by omega), by rw [hσ1]; exact hC.2.2⟩ ?_ hR⟩
                          unfold RSmall
                          rw [show σ1.2.1 5 10 = σ.2.1 5 10 by rw [hσ1, k_IN (by omega)]]
                          rw [show σ1.2.1 5 11 = σ.2.1 5 11 by rw [hσ1, k_IN (by omega)]]
                          rw [show σ1.2.1 5 12 = σ.2.1 5 12 by rw [hσ1, k_IN (by omega)]]
                          rw [show σ1.2.1 5 13 = σ.2.1 5 13 by rw [hσ1, k_IN (by omega)]]
                          rw [show σ1.2.1 5 14 = σ.2.1 5 14 by rw [hσ1, k_IN (by omega)]]
                          rw [show σ1.2.1 68 11 = σ.2.1 68 11 by rw [hσ1, k_IN (by omega)]]
                          rw [show σ1.2.1 68 1 = σ.2.1 68 1 by rw [hσ1, k_IN (by omega)]]
                          rw [show σ1.2.1 68 0 = 0 by rw [hσ1, k_II]]
                          rw [show σ1.2.1 68 52 = σ.2.1 68 52 by rw [hσ1, k_IN (by omega)]]
                          rw [show σ1.2.1 68 53 = σ.2.1 68 53 by rw [hσ1, k_IN (by omega)]]
                          rcases hP with hP | hP | hP | hP | hP | hP <;> omega
                        · have q5 := bi_n (fun g => q4 (hme.mp g))
                          rw [q3, q1, q2]
                          unfold mt_P at hP
                          rw [e2, e3, e4, e5] at hP
                          have hr : (0 : Int) = r := by rcases hP with hP | hP | hP | hP | hP | hP <;> omega
                          refine ⟨by rw [hr], RR_scs (σ := ρ) ⟨fun c _ => by rw [hσ1]; show σ.1 c = _; rw [hC.1], fun c j _ g1 g2 => by rw [hσ1, k_IN (by omega)]; exact hC.2.1 c j (by omega), by rw [hσ1]; exact hC.2.2⟩ ?_ hR⟩
                          unfold RSmall
                          rw [show σ1.2.1 5 10 = σ.2.1 5 10 by rw [hσ1, k_IN (by omega)]]
                          rw [show σ1.2.1 5 11 = σ.2.1 5 11 by rw [hσ1, k_IN (by omega)]]
                          rw [show σ1.2.1 5 12 = σ.2.1 5 12 by rw [hσ1, k_IN (by omega)]]
                          rw [show σ1.2.1 5 13 = σ.2.1 5 13 by rw [hσ1, k_IN (by omega)]]
                          rw [show σ1.2.1 5 14 = σ.2.1 5 14 by rw [hσ1, k_IN (by omega)]]
                          rw [show σ1.2.1 68 11 = σ.2.1 68 11 by rw [hσ1, k_IN (by omega)]]
                          rw [show σ1.2.1 68 1 = σ.2.1 68 1 by rw [hσ1, k_IN (by omega)]]
                          rw [show σ1.2.1 68 0 = 0 by rw [hσ1, k_II]]
                          rw [show σ1.2.1 68 52 = σ.2.1 68 52 by rw [hσ1, k_IN (by omega)]]
                          rw [show σ1.2.1 68 53 = σ.2.1 68 53 by rw [hσ1, k_IN (by omega)]]
                          rcases hP with hP | hP | hP | hP | hP | hP <;> omega
                      · refine a_aload_n (pc := 87) (i := 0) (by decide +kernel) rfl ?_
                        refine a_iconst (pc := 88) (n := 3) (by decide +kernel) ?_
                        refine b_callV (pc := 89) (c' := 0) (sl' := 0) [j_i 3] [] ml_X12_142 (by decide +kernel) rfl rfl (sh_68 hn) rfl rfl (Nat.le_of_ble_eq_true rfl) (j_fitI rfl rfl) (s_dfails hn) (fun v n' σ' hq => ?_)
                        obtain ⟨rfl, e1, e2⟩ := hq
                        rw [e1, e2]; clear e1 e2
                        obtain ⟨σ11, hσ11⟩ : ∃ z, z = k_sI σ1 68 0 3 := ⟨_, rfl⟩
                        rw [← hσ11]
                        show j_at _ _ _ [(0, .ref 68), (1, j_i a), (2, j_i i), (3, j_i b), (4, j_i j), (5, j_i m)] [j_i (-10 - 3)] _ _ _ _
                        refine a_ireturn (pc := 92) (by decide +kernel) rfl ?_
                        refine k_ret ?_
                        unfold mt_P at hP
                        rw [e2, e3, e4, e5] at hP
                        have hr : (-10 - 3 : Int) = r := by rcases hP with hP | hP | hP | hP | hP | hP <;> omega
                        refine ⟨by rw [hr], RR_scs (σ := ρ) ⟨fun c _ => by rw [hσ11, hσ1]; show σ.1 c = _; rw [hC.1], fun c j _ g1 g2 => by rw [hσ11, k_IN (by omega), hσ1, k_IN (by omega)]; exact hC.2.1 c j (by omega), by rw [hσ11, hσ1]; exact hC.2.2⟩ ?_ hR⟩
                        unfold RSmall
                        rw [show σ11.2.1 5 10 = σ.2.1 5 10 by rw [hσ11, k_IN (by omega), hσ1, k_IN (by omega)]]
                        rw [show σ11.2.1 5 11 = σ.2.1 5 11 by rw [hσ11, k_IN (by omega), hσ1, k_IN (by omega)]]
                        rw [show σ11.2.1 5 12 = σ.2.1 5 12 by rw [hσ11, k_IN (by omega), hσ1, k_IN (by omega)]]
                        rw [show σ11.2.1 5 13 = σ.2.1 5 13 by rw [hσ11, k_IN (by omega), hσ1, k_IN (by omega)]]
                        rw [show σ11.2.1 5 14 = σ.2.1 5 14 by rw [hσ11, k_IN (by omega), hσ1, k_IN (by omega)]]
                        rw [show σ11.2.1 68 11 = σ.2.1 68 11 by rw [hσ11, k_IN (by omega), hσ1, k_IN (by omega)]]
                        rw [show σ11.2.1 68 1 = σ.2.1 68 1 by rw [hσ11, k_IN (by omega), hσ1, k_IN (by omega)]]
                        rw [show σ11.2.1 68 0 = 3 by rw [hσ11, k_II]]
                        rw [show σ11.2.1 68 52 = σ.2.1 68 52 by rw [hσ11, k_IN (by omega), hσ1, k_IN (by omega)]]
                        rw [show σ11.2.1 68 53 = σ.2.1 68 53 by rw [hσ11, k_IN (by omega), hσ1, k_IN (by omega)]]
                        rcases hP with hP | hP | hP | hP | hP | hP <;> omega
          · refine a_aload_n (pc := 28) (i := 0) (by decide +kernel) rfl ?_
            refine a_iconst (pc := 29) (n := 4) (by decide +kernel) ?_
            refine b_callV (pc := 30) (c' := 0) (sl' := 0) [j_i 4] [] ml_X12_142 (by decide +kernel) rfl rfl (sh_68 hn) rfl rfl (Nat.le_of_ble_eq_true rfl) (j_fitI rfl rfl) (s_dfails hn) (fun v n' σ' hq => ?_)
            obtain ⟨rfl, e1, e2⟩ := hq
            rw [e1, e2]; clear e1 e2
            obtain ⟨σ12, hσ12⟩ : ∃ z, z = k_sI σ1 68 0 4 := ⟨_, rfl⟩
            rw [← hσ12]
            show j_at _ _ _ [(0, .ref 68), (1, j_i a), (2, j_i i), (3, j_i b), (4, j_i j), (5, j_i m)] [j_i (-10 - 4)] _ _ _ _
            refine a_ireturn (pc := 33) (by decide +kernel) rfl ?_
            refine k_ret ?_
            unfold mt_P at hP
            rw [e2, e3, e4, e5] at hP
            have hr : (-10 - 4 : Int) = r := by rcases hP with hP | hP | hP | hP | hP | hP <;> omega
            refine ⟨by rw [hr], RR_scs (σ := ρ) ⟨fun c _ => by rw [hσ12, hσ1]; show σ.1 c = _; rw [hC.1], fun c j _ g1 g2 => by rw [hσ12, k_IN (by omega), hσ1, k_IN (by omega)]; exact hC.2.1 c j (by omega), by rw [hσ12, hσ1]; exact hC.2.2⟩ ?_ hR⟩
            unfold RSmall
            rw [show σ12.2.1 5 10 = σ.2.1 5 10 by rw [hσ12, k_IN (by omega), hσ1, k_IN (by omega)]]
            rw [show σ12.2.1 5 11 = σ.2.1 5 11 by rw [hσ12, k_IN (by omega), hσ1, k_IN (by omega)]]
            rw [show σ12.2.1 5 12 = σ.2.1 5 12 by rw [hσ12, k_IN (by omega), hσ1, k_IN (by omega)]]
            rw [show σ12.2.1 5 13 = σ.2.1 5 13 by rw [hσ12, k_IN (by omega), hσ1, k_IN (by omega)]]
            rw [show σ12.2.1 5 14 = σ.2.1 5 14 by rw [hσ12, k_IN (by omega), hσ1, k_IN (by omega)]]
            rw [show σ12.2.1 68 11 = σ.2.1 68 11 by rw [hσ12, k_IN (by omega), hσ1, k_IN (by omega)]]
            rw [show σ12.2.1 68 1 = σ.2.1 68 1 by rw [hσ12, k_IN (by omega), hσ1, k_IN (by omega)]]
            rw [show σ12.2.1 68 0 = 4 by rw [hσ12, k_II]]
            rw [show σ12.2.1 68 52 = σ.2.1 68 52 by rw [hσ12, k_IN (by omega), hσ1, k_IN (by omega)]]
            rw [show σ12.2.1 68 53 = σ.2.1 68 53 by rw [hσ12, k_IN (by omega), hσ1, k_IN (by omega)]]
            rcases hP with hP | hP | hP | hP | hP | hP <;> omega
        · exact absurd c18 (by decide)
      · show j_at _ _ _ [(0, .ref 68), (1, j_i a), (2, j_i i), (3, j_i b), (4, j_i j), (5, j_i m)] [j_i 0] _ _ _ _
        rw [show d_is σ1 b = d_is σ b by unfold d_is; rw [hσ1]; rfl] at p15
        have i15 := bi_n p15
        refine a_if_ne (pc := 18) (off := 5) (tgt := 23) (by decide +kernel) (by decide) (by omega) (fun c18 => ?_) (fun c18 => ?_)
        · exact absurd c18 (by decide)
        · refine a_iconst (pc := 21) (n := (-1)) (by decide +kernel) ?_
          refine a_ireturn (pc := 22) (by decide +kernel) rfl ?_
          refine k_ret ?_
          unfold mt_P at hP
          rw [e2, e3, e4, e5] at hP
          have hr : ((-1) : Int) = r := by rcases hP with hP | hP | hP | hP | hP | hP <;> omega
          refine ⟨by rw [hr], RR_scs (σ := ρ) ⟨fun c _ => by rw [hσ1]; show σ.1 c = _; rw [hC.1], fun c j _ g1 g2 => by rw [hσ1, k_IN (by omega)]; exact hC.2.1 c j (by omega), by rw [hσ1]; exact hC.2.2⟩ ?_ hR⟩
          unfold RSmall
          rw [show σ1.2.1 5 10 = σ.2.1 5 10 by rw [hσ1, k_IN (by omega)]]
          rw [show σ1.2.1 5 11 = σ.2.1 5 11 by rw [hσ1, k_IN (by omega)]]
          rw [show σ1.2.1 5 12 = σ.2.1 5 12 by rw [hσ1, k_IN (by omega)]]
          rw [show σ1.2.1 5 13 = σ.2.1 5 13 by rw [hσ1, k_IN (by omega)]]
          rw [show σ1.2.1 5 14 = σ.2.1 5 14 by rw [hσ1, k_IN (by omega)]]
          rw [show σ1.2.1 68 11 = σ.2.1 68 11 by rw [hσ1, k_IN (by omega)]]
          rw [show σ1.2.1 68 1 = σ.2.1 68 1 by rw [hσ1, k_IN (by omega)]]
          rw [show σ1.2.1 68 0 = 0 by rw [hσ1, k_II]]
          rw [show σ1.2.1 68 52 = σ.2.1 68 52 by rw [hσ1, k_IN (by omega)]]
          rw [show σ1.2.1 68 53 = σ.2.1 68 53 by rw [hσ1, k_IN (by omega)]]
          rcases hP with hP | hP | hP | hP | hP | hP <;> omega
  · show j_at _ _ _ [(0, .ref 68), (1, j_i a), (2, j_i i), (3, j_i b), (4, j_i j), (5, j_i m)] [j_i 0] _ _ _ _
    rw [show d_is σ1 a = d_is σ a by unfold d_is; rw [hσ1]; rfl] at p7
    have i7 := bi_n p7
    refine a_if_eq (pc := 10) (off := 11) (tgt := 21) (by decide +kernel) (by decide) (by omega) (fun c10 => ?_) (fun c10 => ?_)
    · refine a_iconst (pc := 21) (n := (-1)) (by decide +kernel) ?_
      refine a_ireturn (pc := 22) (by decide +kernel) rfl ?_
      refine k_ret ?_
      unfold mt_P at hP
      rw [e2, e3, e4, e5] at hP
      have hr : ((-1) : Int) = r := by rcases hP with hP | hP | hP | hP | hP | hP <;> omega
      refine ⟨by rw [hr], RR_scs (σ := ρ) ⟨fun c _ => by rw [hσ1]; show σ.1 c = _; rw [hC.1], fun c j _ g1 g2 => by rw [hσ1, k_IN (by omega)]; exact hC.2.1 c j (by omega), by rw [hσ1]; exact hC.2.2⟩ ?_ hR⟩
      unfold RSmall
      rw [show σ1.2.1 5 10 = σ.2.1 5 10 by rw [hσ1, k_IN (by omega)]]
      rw [show σ1.2.1 5 11 = σ.2.1 5 11 by rw [hσ1, k_IN (by omega)]]
      rw [show σ1.2.1 5 12 = σ.2.1 5 12 by rw [hσ1, k_IN (by omega)]]
      rw [show σ1.2.1 5 13 = σ.2.1 5 13 by rw [hσ1, k_IN (by omega)]]
      rw [show σ1.2.1 5 14 = σ.2.1 5 14 by rw [hσ1, k_IN (by omega)]]
      rw [show σ1.2.1 68 11 = σ.2.1 68 11 by rw [hσ1, k_IN (by omega)]]
      rw [show σ1.2.1 68 1 = σ.2.1 68 1 by rw [hσ1, k_IN (by omega)]]
      rw [show σ1.2.1 68 0 = 0 by rw [hσ1, k_II]]
      rw [show σ1.2.1 68 52 = σ.2.1 68 52 by rw [hσ1, k_IN (by omega)]]
      rw [show σ1.2.1 68 53 = σ.2.1 68 53 by rw [hσ1, k_IN (by omega)]]
      rcases hP with hP | hP | hP | hP | hP | hP <;> omega
    · exact absurd c10 (by decide)
set_option maxHeartbeats 4000000 in
theorem p_match {G : j_G} {X : k_X} {n : Nat} {σ : k_St} (hR : RR n σ) {a : Int} (ha : -2147483648 ≤ a ∧ a ≤ 2147483647) {i : Int} (hi : -2147483648 ≤ i ∧ i ≤ 2147483647) {b : Int} (hb : -2147483648 ≤ b ∧ b ≤ 2147483647) {j : Int} (hj : -2147483648 ≤ j ∧ j ≤ 2147483647) {m : Int} (hm : -2147483648 ≤ m ∧ m ≤ 2147483647)  : pr_ok G X mX11_match mX12_match [j_i a, j_i i, j_i b, j_i j, j_i m] n σ 0 0 := by
  refine ⟨_, c_match hR ha hi hb hj hm , fun v n' σ' hq => ?_⟩
  obtain ⟨r, hv, rfl, hC, hP⟩ := hq
  exact ⟨RR_n hR, r, hv, d_match hR hC ha hi hb hj hm  hP⟩
