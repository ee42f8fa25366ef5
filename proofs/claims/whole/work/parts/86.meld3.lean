def ml_wr (σ : k_St) (a b k : Int) : Prop := a = b ∨ ∃ x, 0 ≤ x ∧ x < k ∧ ml_w (σ.1 69) a b x
theorem ml_wr_n {σ : k_St} {a b k : Int} (h : ¬ ml_w (σ.1 69) a b k) : ml_wr σ a b k ↔ ml_wr σ a b (k + 1) :=
  ⟨fun q => q.imp id (fun ⟨x, x0, x1, x2⟩ => ⟨x, x0, by omega, x2⟩), fun q => q.imp id (fun ⟨x, x0, x1, x2⟩ => ⟨x, x0, by have : x ≠ k := fun e => h (by rw [← e]; exact x2); omega, x2⟩)⟩
set_option maxHeartbeats 4000000 in
theorem l_dmeld32 {G : j_G} {X : k_X} {n : Nat} {σ : k_St} (hn : 101 ≤ n) (hg : ∀ i : Int, -128 ≤ σ.1 69 i ∧ σ.1 69 i ≤ 9999) (hgr : (0 ≤ σ.1 69 0 ∧ σ.1 69 0 ≤ 300) ∧ (0 ≤ σ.1 69 301 ∧ σ.1 69 301 ≤ 30) ∧ (0 ≤ σ.1 69 1382 ∧ σ.1 69 1382 ≤ 50)) (hf4 : 0 ≤ σ.2.1 68 4 ∧ σ.2.1 68 4 < 40) (hm5 : 0 ≤ σ.2.1 68 5 ∧ σ.2.1 68 5 ≤ 40) {a b : Int} (hda : d_is σ a) (hdb : d_is σ b)  : ∀ (z : Nat) (k w : Int), 50 - k < (z : Int) → 0 ≤ k → k ≤ σ.1 69 1382 → (w = 0 ∨ w = 1) → (w = 1 ↔ ml_wr σ a b k) → j_at G mX12_meld 32 [(0, .ref 68), (1, j_i a), (2, j_i b), (3, j_i w), (4, j_i k)] [] (k_h X n σ) 0 0 (k_Q X (fun v n' σ' => (¬ (d_is σ a ∧ d_is σ b) ∧ v = some (j_i (-1)) ∧ n' = n ∧ σ' = σ) ∨ ((d_is σ a ∧ d_is σ b) ∧ ml_wr σ a b (σ.1 69 1382) ∧ v = some (j_i (-3)) ∧ n' = n ∧ σ' = σ) ∨ ((d_is σ a ∧ d_is σ b) ∧ ¬ ml_wr σ a b (σ.1 69 1382) ∧ v = some (j_i (f_count (ml_B a (σ.1 69)) (σ.1 69 1382).toNat)) ∧ n' = n ∧ σ' = k_sA (d_kp σ) 69 (j_up (ml_N a b (σ.1 69) (1383 + 7 * σ.1 69 1382)) (302 + 36 * a) 0)))) := by
  obtain ⟨hgW, hgE, hgM⟩ := hgr
  have ra : 0 ≤ a ∧ a < 30 := by have := hda.1; have := hda.2.1; omega
  have rb : 0 ≤ b ∧ b < 30 := by have := hdb.1; have := hdb.2.1; omega
  intro z
  induction z with
  | zero => intro k w h1 h2 h3; exact absurd h1 (by omega)
  | succ z ih =>
    intro k w hz h0 hkN hw01 hw
    refine a_iload (pc := 32) (i := 4) (by decide +kernel) rfl ?_
    refine a_aload_n (pc := 34) (i := 0) (by decide +kernel) rfl ?_
    refine b_pureV (pc := 35) [] [j_i k] ml_X12_135 (by decide +kernel) rfl rfl (sh_68 hn) rfl rfl (Nat.le_of_ble_eq_true rfl) (j_fitI rfl rfl) (s_dmarksEver hn) ?_
    have q1 := hg 1382
    show j_at _ _ _ [(0, .ref 68), (1, j_i a), (2, j_i b), (3, j_i w), (4, j_i k)] [j_i (σ.1 69 1382), j_i k] _ _ _ _
    refine a_icmp_ge (pc := 38) (off := 92) (tgt := 130) (by decide +kernel) (by decide) (by omega) (by omega) (fun c38 => ?_) (fun c38 => ?_)
    · refine a_iload_n (pc := 130) (i := 3) (by decide +kernel) rfl ?_
      refine a_if_eq (pc := 131) (off := 6) (tgt := 137) (by decide +kernel) (by decide) (by omega) (fun c131 => ?_) (fun c131 => ?_)
      · refine a_aload_n (pc := 137) (i := 0) (by decide +kernel) rfl ?_
        refine b_callV (pc := 138) (c' := 0) (sl' := 0) [] [] ml_X12_132 (by decide +kernel) rfl rfl (sh_68 hn) rfl rfl (Nat.le_of_ble_eq_true rfl) (j_fitI rfl rfl) (s_dkeep hn hf4 hm5) (fun v n' σ' hq => ?_)
        obtain ⟨rfl, e1, e2⟩ := hq
        rw [e1, e2]; clear e1 e2
        obtain ⟨σ2, hσ2⟩ : ∃ z, z = d_kp σ := ⟨_, rfl⟩
        rw [← hσ2]
        show j_at _ _ _ [(0, .ref 68), (1, j_i a), (2, j_i b), (3, j_i w), (4, j_i k)] [] _ _ _ _
        refine a_iconst (pc := 141) (n := 0) (by decide +kernel) ?_
        refine a_istore (pc := 142) (i := 4) (lv' := [(0, .ref 68), (1, j_i a), (2, j_i b), (3, j_i w), (4, j_i 0)]) (by decide +kernel) (Nat.le_of_ble_eq_true rfl) rfl ?_
        refine a_iconst (pc := 144) (n := 0) (by decide +kernel) ?_
        refine a_istore (pc := 145) (i := 5) (lv' := [(0, .ref 68), (1, j_i a), (2, j_i b), (3, j_i w), (4, j_i 0), (5, j_i 0)]) (by decide +kernel) (Nat.le_of_ble_eq_true rfl) rfl ?_
        have hk69 : σ2.1 69 = σ.1 69 := by rw [hσ2]; exact d_kp_69 (by omega)
        have hnw : ¬ ml_wr σ a b (σ.1 69 1382) := fun q => absurd (hw.mpr (by rw [show k = σ.1 69 1382 by omega]; exact q)) (by omega)
        have d1 := hda.1
        have d2 := hda.2.1
        have d3 := hdb.1
        have d4 := hdb.2.1
        refine a_sub (pc := 147) (lv' := [(0, .ref 68), (1, j_i a), (2, j_i b), (4, j_i 0), (5, j_i 0)]) (fun q hq => by simp only [List.mem_cons, List.not_mem_nil, or_false] at hq ⊢; rcases hq with rfl | rfl | rfl | rfl | rfl <;> simp) (l_dmeld147 (ρ := σ2) (g := σ.1 69) (N := σ.1 69 1382) hn (by omega) (by omega) hg rfl hgM (fun τ1 hτ1 k' => ?_) 51 0 0 σ2 (by omega) (by omega) (by omega) rfl (by rw [show (1383 : Int) + 7 * 0 = 1383 by omega, ml_N_0, ← hk69, k_sA0]))
        refine a_aload_n (pc := 236) (i := 0) (by decide +kernel) rfl ?_
        refine b_getR (pc := 237) (b := 69) fl_X12_7 (by decide +kernel) (sh_68 hn) rfl ?_
        refine a_aload_n (pc := 240) (i := 0) (by decide +kernel) rfl ?_
        refine a_iload_n (pc := 241) (i := 1) (by decide +kernel) rfl ?_
        refine b_pureV (pc := 242) [j_i a] [.ref 69] ml_X12_183 (by decide +kernel) rfl rfl (sh_68 hn) rfl rfl (Nat.le_of_ble_eq_true rfl) (j_fitI rfl rfl) (s_dheadAt) ?_
        show j_at _ _ _ [(0, .ref 68), (1, j_i a), (2, j_i b), (4, j_i (f_count (ml_B a (σ.1 69)) (σ.1 69 1382).toNat)), (5, j_i k')] [j_i (302 + 36 * a), .ref 69] _ _ _ _
        refine a_iconst (pc := 245) (n := 0) (by decide +kernel) ?_
        refine b_iastore (pc := 246) (by decide +kernel) (sh_69 hn) (by omega) (by omega) (by omega) ?_
        obtain ⟨σ61, hσ61⟩ : ∃ z, z = k_sA τ1 69 (j_up (τ1.1 69) (302 + 36 * a) 0) := ⟨_, rfl⟩
        rw [← hσ61]
        refine a_iload (pc := 247) (i := 4) (by decide +kernel) rfl ?_
        refine a_ireturn (pc := 249) (by decide +kernel) rfl ?_
        refine k_ret ?_
        exact Or.inr (Or.inr ⟨⟨hda, hdb⟩, hnw, rfl, rfl, by rw [hσ61, hτ1, k_AA, k_sA2, hσ2]⟩)
      · refine a_bipush (pc := 134) (n := (-3)) (by decide +kernel) rfl ?_
        refine a_ireturn (pc := 136) (by decide +kernel) rfl ?_
        refine k_ret ?_
        exact Or.inr (Or.inl ⟨⟨hda, hdb⟩, by rw [show σ.1 69 1382 = k by omega]; exact hw.mp (by omega), rfl, rfl, rfl⟩)
    · refine a_aload_n (pc := 41) (i := 0) (by decide +kernel) rfl ?_
      refine a_iload (pc := 42) (i := 4) (by decide +kernel) rfl ?_
      refine b_callV (pc := 44) (c' := 0) (sl' := 0) [j_i k] [] ml_X12_254 (by decide +kernel) rfl rfl (sh_68 hn) rfl rfl (Nat.le_of_ble_eq_true rfl) (j_fitI rfl rfl) (s_disMark hn hg (by omega) hgM) (fun v n' σ' hq => ?_)
      obtain ⟨x, rfl, e1, e2, hx⟩ := hq
      rw [e1, e2]; clear e1 e2
      rcases hx with ⟨rfl, p44⟩ | ⟨rfl, p44⟩
      · show j_at _ _ _ [(0, .ref 68), (1, j_i a), (2, j_i b), (3, j_i w), (4, j_i k)] [j_i 1] _ _ _ _
        refine a_if_eq (pc := 47) (off := 77) (tgt := 124) (by decide +kernel) (by decide) (by omega) (fun c47 => ?_) (fun c47 => ?_)
        · exact absurd c47 (by decide)
        · refine a_aload_n (pc := 50) (i := 0) (by decide +kernel) rfl ?_
          refine a_iload (pc := 51) (i := 4) (by decide +kernel) rfl ?_
          refine b_pureV (pc := 53) [j_i k] [] ml_X12_257 (by decide +kernel) rfl rfl (sh_68 hn) rfl rfl (Nat.le_of_ble_eq_true rfl) (j_fitI rfl rfl) (s_dkindOf hn (by omega)) ?_
          have q3 := hg (1383 + 7 * k + 1)
          show j_at _ _ _ [(0, .ref 68), (1, j_i a), (2, j_i b), (3, j_i w), (4, j_i k)] [j_i (σ.1 69 (1383 + 7 * k + 1))] _ _ _ _
          refine a_bipush (pc := 56) (n := 6) (by decide +kernel) rfl ?_
          refine a_icmp_lt (pc := 58) (off := 66) (tgt := 124) (by decide +kernel) (by decide) (by omega) (by omega) (fun c58 => ?_) (fun c58 => ?_)
          · refine a_iinc (pc := 124) (i := 4) (n := 1) (x := k) (lv' := [(0, .ref 68), (1, j_i a), (2, j_i b), (3, j_i w), (4, j_i (k + 1))]) (by decide +kernel) rfl (Nat.le_of_ble_eq_true rfl) rfl ?_
            refine a_goto (pc := 127) (off := -95) (tgt := 32) (by decide +kernel) (by decide) ?_
            have hx : ¬ ml_w (σ.1 69) a b k := fun q => by first | exact p44 ⟨h0, by omega, q.1⟩ | (have := q.2.1; omega)
            exact a_sub (lv' := [(0, .ref 68), (1, j_i a), (2, j_i b), (3, j_i w), (4, j_i (k + 1))]) (fun q hq => by simp only [List.mem_cons, List.not_mem_nil, or_false] at hq ⊢; rcases hq with rfl | rfl | rfl | rfl | rfl <;> simp) (ih (k + 1) w (by omega) (by omega) (by omega) hw01 (hw.trans (ml_wr_n hx)))
          · refine a_aload_n (pc := 61) (i := 0) (by decide +kernel) rfl ?_
            refine a_iload (pc := 62) (i := 4) (by decide +kernel) rfl ?_
            refine a_iconst (pc := 64) (n := 0) (by decide +kernel) ?_
            refine b_pureV (pc := 65) [j_i k, j_i 0] [] ml_X12_260 (by decide +kernel) rfl rfl (sh_68 hn) rfl rfl (Nat.le_of_ble_eq_true rfl) (j_fitI rfl rfl) (s_dheadOf hn (by omega) (by omega)) ?_
            have q4 := hg (1383 + 7 * k + 3 + 0)
            show j_at _ _ _ [(0, .ref 68), (1, j_i a), (2, j_i b), (3, j_i w), (4, j_i k)] [j_i (σ.1 69 (1383 + 7 * k + 3 + 0))] _ _ _ _
            refine a_iload_n (pc := 68) (i := 1) (by decide +kernel) rfl ?_
            refine a_icmp_ne (pc := 69) (off := 7) (tgt := 76) (by decide +kernel) (by decide) (by omega) (by omega) (fun c69 => ?_) (fun c69 => ?_)
            · refine a_aload_n (pc := 76) (i := 0) (by decide +kernel) rfl ?_
              refine a_iload (pc := 77) (i := 4) (by decide +kernel) rfl ?_
              refine a_iconst (pc := 79) (n := 0) (by decide +kernel) ?_
              refine b_pureV (pc := 80) [j_i k, j_i 0] [] ml_X12_260 (by decide +kernel) rfl rfl (sh_68 hn) rfl rfl (Nat.le_of_ble_eq_true rfl) (j_fitI rfl rfl) (s_dheadOf hn (by omega) (by omega)) ?_
              have q5 := hg (1383 + 7 * k + 3 + 0)
              show j_at _ _ _ [(0, .ref 68), (1, j_i a), (2, j_i b), (3, j_i w), (4, j_i k)] [j_i (σ.1 69 (1383 + 7 * k + 3 + 0))] _ _ _ _
              refine a_istore (pc := 83) (i := 5) (lv' := [(0, .ref 68), (1, j_i a), (2, j_i b), (3, j_i w), (4, j_i k), (5, j_i (σ.1 69 (1383 + 7 * k + 3 + 0)))]) (by decide +kernel) (Nat.le_of_ble_eq_true rfl) rfl ?_
              refine a_aload_n (pc := 85) (i := 0) (by decide +kernel) rfl ?_
              refine a_iload (pc := 86) (i := 4) (by decide +kernel) rfl ?_
              refine a_iconst (pc := 88) (n := 1) (by decide +kernel) ?_
              refine b_pureV (pc := 89) [j_i k, j_i 1] [] ml_X12_260 (by decide +kernel) rfl rfl (sh_68 hn) rfl rfl (Nat.le_of_ble_eq_true rfl) (j_fitI rfl rfl) (s_dheadOf hn (by omega) (by omega)) ?_
              have q6 := hg (1383 + 7 * k + 3 + 1)
              show j_at _ _ _ [(0, .ref 68), (1, j_i a), (2, j_i b), (3, j_i w), (4, j_i k), (5, j_i (σ.1 69 (1383 + 7 * k + 3 + 0)))] [j_i (σ.1 69 (1383 + 7 * k + 3 + 1))] _ _ _ _
              refine a_iload_n (pc := 92) (i := 1) (by decide +kernel) rfl ?_
              refine a_icmp_ne (pc := 93) (off := 7) (tgt := 100) (by decide +kernel) (by decide) (by omega) (by omega) (fun c93 => ?_) (fun c93 => ?_)
              · refine a_aload_n (pc := 100) (i := 0) (by decide +kernel) rfl ?_
                refine a_iload (pc := 101) (i := 4) (by decide +kernel) rfl ?_
                refine a_iconst (pc := 103) (n := 1) (by decide +kernel) ?_
                refine b_pureV (pc := 104) [j_i k, j_i 1] [] ml_X12_260 (by decide +kernel) rfl rfl (sh_68 hn) rfl rfl (Nat.le_of_ble_eq_true rfl) (j_fitI rfl rfl) (s_dheadOf hn (by omega) (by omega)) ?_
                have q7 := hg (1383 + 7 * k + 3 + 1)
                show j_at _ _ _ [(0, .ref 68), (1, j_i a), (2, j_i b), (3, j_i w), (4, j_i k), (5, j_i (σ.1 69 (1383 + 7 * k + 3 + 0)))] [j_i (σ.1 69 (1383 + 7 * k + 3 + 1))] _ _ _ _
                refine a_istore (pc := 107) (i := 6) (lv' := [(0, .ref 68), (1, j_i a), (2, j_i b), (3, j_i w), (4, j_i k), (5, j_i (σ.1 69 (1383 + 7 * k + 3 + 0))), (6, j_i (σ.1 69 (1383 + 7 * k + 3 + 1)))]) (by decide +kernel) (Nat.le_of_ble_eq_true rfl) rfl ?_
                refine a_iload_n (pc := 109) (i := 3) (by decide +kernel) rfl ?_
                refine a_iload (pc := 110) (i := 5) (by decide +kernel) rfl ?_
                refine a_iload (pc := 112) (i := 6) (by decide +kernel) rfl ?_
                refine a_icmp_ne (pc := 114) (off := 7) (tgt := 121) (by decide +kernel) (by decide) (by omega) (by omega) (fun c114 => ?_) (fun c114 => ?_)
                · refine a_iconst (pc := 121) (n := 0) (by decide +kernel) ?_
                  refine a_ior (pc := 122) (by decide +kernel) ?_
                  rw [or_b0 hw01]
                  refine a_istore_n (pc := 123) (i := 3) (lv' := [(0, .ref 68), (1, j_i a), (2, j_i b), (3, j_i w), (4, j_i k), (5, j_i (σ.1 69 (1383 + 7 * k + 3 + 0))), (6, j_i (σ.1 69 (1383 + 7 * k + 3 + 1)))]) (by decide +kernel) (Nat.le_of_ble_eq_true rfl) rfl ?_
                  refine a_iinc (pc := 124) (i := 4) (n := 1) (x := k) (lv' := [(0, .ref 68), (1, j_i a), (2, j_i b), (3, j_i w), (4, j_i (k + 1)), (5, j_i (σ.1 69 (1383 + 7 * k + 3 + 0))), (6, j_i (σ.1 69 (1383 + 7 * k + 3 + 1)))]) (by decide +kernel) rfl (Nat.le_of_ble_eq_true rfl) rfl ?_
                  refine a_goto (pc := 127) (off := -95) (tgt := 32) (by decide +kernel) (by decide) ?_
                  have hx : ¬ ml_w (σ.1 69) a b k := fun q => by
                    have q3 := q.2.2
                    unfold f_re at q3
                    first | (rw [if_pos c69, if_neg c93] at q3; exact c114 q3) | (rw [if_neg c69, if_pos c93] at q3; exact c114 q3) | (rw [if_neg c69, if_neg c93] at q3; exact c114 q3) | exact absurd rfl c114
                  exact a_sub (lv' := [(0, .ref 68), (1, j_i a), (2, j_i b), (3, j_i w), (4, j_i (k + 1))]) (fun q hq => by simp only [List.mem_cons, List.not_mem_nil, or_false] at hq ⊢; rcases hq with rfl | rfl | rfl | rfl | rfl <;> simp) (ih (k + 1) w (by omega) (by omega) (by omega) hw01 (hw.trans (ml_wr_n hx)))
                · refine a_iconst (pc := 117) (n := 1) (by decide +kernel) ?_
                  refine a_goto (pc := 118) (off := 4) (tgt := 122) (by decide +kernel) (by decide) ?_
                  refine a_ior (pc := 122) (by decide +kernel) ?_
                  rw [or_b1 hw01]
                  refine a_istore_n (pc := 123) (i := 3) (lv' := [(0, .ref 68), (1, j_i a), (2, j_i b), (3, j_i 1), (4, j_i k), (5, j_i (σ.1 69 (1383 + 7 * k + 3 + 0))), (6, j_i (σ.1 69 (1383 + 7 * k + 3 + 1)))]) (by decide +kernel) (Nat.le_of_ble_eq_true rfl) rfl ?_
                  refine a_iinc (pc := 124) (i := 4) (n := 1) (x := k) (lv' := [(0, .ref 68), (1, j_i a), (2, j_i b), (3, j_i 1), (4, j_i (k + 1)), (5, j_i (σ.1 69 (1383 + 7 * k + 3 + 0))), (6, j_i (σ.1 69 (1383 + 7 * k + 3 + 1)))]) (by decide +kernel) rfl (Nat.le_of_ble_eq_true rfl) rfl ?_
                  refine a_goto (pc := 127) (off := -95) (tgt := 32) (by decide +kernel) (by decide) ?_
                  have hx : ml_w (σ.1 69) a b k := ⟨p44.2.2, by omega, by unfold f_re; first | (rw [if_pos c69, if_pos c93]) | (rw [if_pos c69, if_neg c93]; exact c114) | (rw [if_neg c69, if_pos c93]; exact c114) | (rw [if_neg c69, if_neg c93]; exact c114)⟩
                  exact a_sub (lv' := [(0, .ref 68), (1, j_i a), (2, j_i b), (3, j_i 1), (4, j_i (k + 1))]) (fun q hq => by simp only [List.mem_cons, List.not_mem_nil, or_false] at hq ⊢; rcases hq with rfl | rfl | rfl | rfl | rfl <;> simp) (ih (k + 1) 1 (by omega) (by omega) (by omega) (Or.inr rfl) ⟨fun _ => Or.inr ⟨k, h0, by omega, hx⟩, fun _ => rfl⟩)
              · refine a_iload_n (pc := 96) (i := 2) (by decide +kernel) rfl ?_
                refine a_goto (pc := 97) (off := 10) (tgt := 107) (by decide +kernel) (by decide) ?_
                refine a_istore (pc := 107) (i := 6) (lv' := [(0, .ref 68), (1, j_i a), (2, j_i b), (3, j_i w), (4, j_i k), (5, j_i (σ.1 69 (1383 + 7 * k + 3 + 0))), (6, j_i b)]) (by decide +kernel) (Nat.le_of_ble_eq_true rfl) rfl ?_
                refine a_iload_n (pc := 109) (i := 3) (by decide +kernel) rfl ?_
                refine a_iload (pc := 110) (i := 5) (by decide +kernel) rfl ?_
                refine a_iload (pc := 112) (i := 6) (by decide +kernel) rfl ?_
                refine a_icmp_ne (pc := 114) (off := 7) (tgt := 121) (by decide +kernel) (by decide) (by omega) (by omega) (fun c114 => ?_) (fun c114 => ?_)
                · refine a_iconst (pc := 121) (n := 0) (by decide +kernel) ?_
                  refine a_ior (pc := 122) (by decide +kernel) ?_
                  rw [or_b0 hw01]
                  refine a_istore_n (pc := 123) (i := 3) (lv' := [(0, .ref 68), (1, j_i a), (2, j_i b), (3, j_i w), (4, j_i k), (5, j_i (σ.1 69 (1383 + 7 * k + 3 + 0))), (6, j_i b)]) (by decide +kernel) (Nat.le_of_ble_eq_true rfl) rfl ?_
                  refine a_iinc (pc := 124) (i := 4) (n := 1) (x := k) (lv' := [(0, .ref 68), (1, j_i a), (2, j_i b), (3, j_i w), (4, j_i (k + 1)), (5, j_i (σ.1 69 (1383 + 7 * k + 3 + 0))), (6, j_i b)]) (by decide +kernel) rfl (Nat.le_of_ble_eq_true rfl) rfl ?_
                  refine a_goto (pc := 127) (off := -95) (tgt := 32) (by decide +kernel) (by decide) ?_
                  have hx : ¬ ml_w (σ.1 69) a b k := fun q => by
                    have q3 := q.2.2
                    unfold f_re at q3
                    first | (rw [if_pos c69, if_neg c93] at q3; exact c114 q3) | (rw [if_neg c69, if_pos c93] at q3; exact c114 q3) | (rw [if_neg c69, if_neg c93] at q3; exact c114 q3) | exact absurd rfl c114
                  exact a_sub (lv' := [(0, .ref 68), (1, j_i a), (2, j_i b), (3, j_i w), (4, j_i (k + 1))]) (fun q hq => by simp only [List.mem_cons, List.not_mem_nil, or_false] at hq ⊢; rcases hq with rfl | rfl | rfl | rfl | rfl <;> simp) (ih (k + 1) w (by omega) (by omega) (by omega) hw01 (hw.trans (ml_wr_n hx)))
                · refine a_iconst (pc := 117) (n := 1) (by decide +kernel) ?_
                  refine a_goto (pc := 118) (off := 4) (tgt := 122) (by decide +kernel) (by decide) ?_
                  refine a_ior (pc := 122) (by decide +kernel) ?_
                  rw [or_b1 hw01]
                  refine a_istore_n (pc := 123) (i := 3) (lv' := [(0, .ref 68), (1, j_i a), (2, j_i b), (3, j_i 1), (4, j_i k), (5, j_i (σ.1 69 (1383 + 7 * k + 3 + 0))), (6, j_i b)]) (by decide +kernel) (Nat.le_of_ble_eq_true rfl) rfl ?_
                  refine a_iinc (pc := 124) (i := 4) (n := 1) (x := k) (lv' := [(0, .ref 68), (1, j_i a), (2, j_i b), (3, j_i 1), (4, j_i (k + 1)), (5, j_i (σ.1 69 (1383 + 7 * k + 3 + 0))), (6, j_i b)]) (by decide +kernel) rfl (Nat.le_of_ble_eq_true rfl) rfl ?_
                  refine a_goto (pc := 127) (off := -95) (tgt := 32) (by decide +kernel) (by decide) ?_
                  have hx : ml_w (σ.1 69) a b k := ⟨p44.2.2, by omega, by unfold f_re; first | (rw [if_pos c69, if_pos c93]) | (rw [if_pos c69, if_neg c93]; exact c114) | (rw [if_neg c69, if_pos c93]; exact c114) | (rw [if_neg c69, if_neg c93]; exact c114)⟩
                  exact a_sub (lv' := [(0, .ref 68), (1, j_i a), (2, j_i b), (3, j_i 1), (4, j_i (k + 1))]) (fun q hq => by simp only [List.mem_cons, List.not_mem_nil, or_false] at hq ⊢; rcases hq with rfl | rfl | rfl | rfl | rfl <;> simp) (ih (k + 1) 1 (by omega) (by omega) (by omega) (Or.inr rfl) ⟨fun _ => Or.inr ⟨k, h0, by omega, hx⟩, fun _ => rfl⟩)
            · refine a_iload_n (pc := 72) (i := 2) (by decide +kernel) rfl ?_
              refine a_goto (pc := 73) (off := 10) (tgt := 83) (by decide +kernel) (by decide) ?_
              refine a_istore (pc := 83) (i := 5) (lv' := [(0, .ref 68), (1, j_i a), (2, j_i b), (3, j_i w), (4, j_i k), (5, j_i b)]) (by decide +kernel) (Nat.le_of_ble_eq_true rfl) rfl ?_
              refine a_aload_n (pc := 85) (i := 0) (by decide +kernel) rfl ?_
              refine a_iload (pc := 86) (i := 4) (by decide +kernel) rfl ?_
              refine a_iconst (pc := 88) (n := 1) (by decide +kernel) ?_
              refine b_pureV (pc := 89) [j_i k, j_i 1] [] ml_X12_260 (by decide +kernel) rfl rfl (sh_68 hn) rfl rfl (Nat.le_of_ble_eq_true rfl) (j_fitI rfl rfl) (s_dheadOf hn (by omega) (by omega)) ?_
              have q8 := hg (1383 + 7 * k + 3 + 1)
              show j_at _ _ _ [(0, .ref 68), (1, j_i a), (2, j_i b), (3, j_i w), (4, j_i k), (5, j_i b)] [j_i (σ.1 69 (1383 + 7 * k + 3 + 1))] _ _ _ _
              refine a_iload_n (pc := 92) (i := 1) (by decide +kernel) rfl ?_
              refine a_icmp_ne (pc := 93) (off := 7) (tgt := 100) (by decide +kernel) (by decide) (by omega) (by omega) (fun c93 => ?_) (fun c93 => ?_)
              · refine a_aload_n (pc := 100) (i := 0) (by decide +kernel) rfl ?_
                refine a_iload (pc := 101) (i := 4) (by decide +kernel) rfl ?_
                refine a_iconst (pc := 103) (n := 1) (by decide +kernel) ?_
                refine b_pureV (pc := 104) [j_i k, j_i 1] [] ml_X12_260 (by decide +kernel) rfl rfl (sh_68 hn) rfl rfl (Nat.le_of_ble_eq_true rfl) (j_fitI rfl rfl) (s_dheadOf hn (by omega) (by omega)) ?_
                have q9 := hg (1383 + 7 * k + 3 + 1)
                show j_at _ _ _ [(0, .ref 68), (1, j_i a), (2, j_i b), (3, j_i w), (4, j_i k), (5, j_i b)] [j_i (σ.1 69 (1383 + 7 * k + 3 + 1))] _ _ _ _
                refine a_istore (pc := 107) (i := 6) (lv' := [(0, .ref 68), (1, j_i a), (2, j_i b), (3, j_i w), (4, j_i k), (5, j_i b), (6, j_i (σ.1 69 (1383 + 7 * k + 3 + 1)))]) (by decide +kernel) (Nat.le_of_ble_eq_true rfl) rfl ?_
                refine a_iload_n (pc := 109) (i := 3) (by decide +kernel) rfl ?_
                refine a_iload (pc := 110) (i := 5) (by decide +kernel) rfl ?_
                refine a_iload (pc := 112) (i := 6) (by decide +kernel) rfl ?_
                refine a_icmp_ne (pc := 114) (off := 7) (tgt := 121) (by decide +kernel) (by decide) (by omega) (by omega) (fun c114 => ?_) (fun c114 => ?_)
                · refine a_iconst (pc := 121) (n := 0) (by decide +kernel) ?_
                  refine a_ior (pc := 122) (by decide +kernel) ?_
                  rw [or_b0 hw01]
                  refine a_istore_n (pc := 123) (i := 3) (lv' := [(0, .ref 68), (1, j_i a), (2, j_i b), (3, j_i w), (4, j_i k), (5, j_i b), (6, j_i (σ.1 69 (1383 + 7 * k + 3 + 1)))]) (by decide +kernel) (Nat.le_of_ble_eq_true rfl) rfl ?_
                  refine a_iinc (pc := 124) (i := 4) (n := 1) (x := k) (lv' := [(0, .ref 68), (1, j_i a), (2, j_i b), (3, j_i w), (4, j_i (k + 1)), (5, j_i b), (6, j_i (σ.1 69 (1383 + 7 * k + 3 + 1)))]) (by decide +kernel) rfl (Nat.le_of_ble_eq_true rfl) rfl ?_
                  refine a_goto (pc := 127) (off := -95) (tgt := 32) (by decide +kernel) (by decide) ?_
                  have hx : ¬ ml_w (σ.1 69) a b k := fun q => by
                    have q3 := q.2.2
                    unfold f_re at q3
                    first | (rw [if_pos c69, if_neg c93] at q3; exact c114 q3) | (rw [if_neg c69, if_pos c93] at q3; exact c114 q3) | (rw [if_neg c69, if_neg c93] at q3; exact c114 q3) | exact absurd rfl c114
                  exact a_sub (lv' := [(0, .ref 68), (1, j_i a), (2, j_i b), (3, j_i w), (4, j_i (k + 1))]) (fun q hq => by simp only [List.mem_cons, List.not_mem_nil, or_false] at hq ⊢; rcases hq with rfl | rfl | rfl | rfl | rfl <;> simp) (ih (k + 1) w (by omega) (by omega) (by omega) hw01 (hw.trans (ml_wr_n hx)))
                · refine a_iconst (pc := 117) (n := 1) (by decide +kernel) ?_
                  refine a_goto (pc := 118) (off := 4) (tgt := 122) (by decide +kernel) (by decide) ?_
                  refine a_ior (pc := 122) (by decide +kernel) ?_
                  rw [or_b1 hw01]
                  refine a_istore_n (pc := 123) (i := 3) (lv' := [(0, .ref 68), (1, j_i a), (2, j_i b), (3, j_i 1), (4, j_i k), (5, j_i b), (6, j_i (σ.1 69 (1383 + 7 * k + 3 + 1)))]) (by decide +kernel) (Nat.le_of_ble_eq_true rfl) rfl ?_
                  refine a_iinc (pc := 124) (i := 4) (n := 1) (x := k) (lv' := [(0, .ref 68), (1, j_i a), (2, j_i b), (3, j_i 1), (4, j_i (k + 1)), (5, j_i b), (6, j_i (σ.1 69 (1383 + 7 * k + 3 + 1)))]) (by decide +kernel) rfl (Nat.le_of_ble_eq_true rfl) rfl ?_
                  refine a_goto (pc := 127) (off := -95) (tgt := 32) (by decide +kernel) (by decide) ?_
                  have hx : ml_w (σ.1 69) a b k := ⟨p44.2.2, by omega, by unfold f_re; first | (rw [if_pos c69, if_pos c93]) | (rw [if_pos c69, if_neg c93]; exact c114) | (rw [if_neg c69, if_pos c93]; exact c114) | (rw [if_neg c69, if_neg c93]; exact c114)⟩
                  exact a_sub (lv' := [(0, .ref 68), (1, j_i a), (2, j_i b), (3, j_i 1), (4, j_i (k + 1))]) (fun q hq => by simp only [List.mem_cons, List.not_mem_nil, or_false] at hq ⊢; rcases hq with rfl | rfl | rfl | rfl | rfl <;> simp) (ih (k + 1) 1 (by omega) (by omega) (by omega) (Or.inr rfl) ⟨fun _ => Or.inr ⟨k, h0, by omega, hx⟩, fun _ => rfl⟩)
              · refine a_iload_n (pc := 96) (i := 2) (by decide +kernel) rfl ?_
                refine a_goto (pc := 97) (off := 10) (tgt := 107) (by decide +kernel) (by decide) ?_
                refine a_istore (pc := 107) (i := 6) (lv' := [(0, .ref 68), (1, j_i a), (2, j_i b), (3, j_i w), (4, j_i k), (5, j_i b), (6, j_i b)]) (by decide +kernel) (Nat.le_of_ble_eq_true rfl) rfl ?_
                refine a_iload_n (pc := 109) (i := 3) (by decide +kernel) rfl ?_
                refine a_iload (pc := 110) (i := 5) (by decide +kernel) rfl ?_
                refine a_iload (pc := 112) (i := 6) (by decide +kernel) rfl ?_
                refine a_icmp_ne (pc := 114) (off := 7) (tgt := 121) (by decide +kernel) (by decide) (by omega) (by omega) (fun c114 => ?_) (fun c114 => ?_)
                · refine a_iconst (pc := 121) (n := 0) (by decide +kernel) ?_
                  refine a_ior (pc := 122) (by decide +kernel) ?_
                  rw [or_b0 hw01]
                  refine a_istore_n (pc := 123) (i := 3) (lv' := [(0, .ref 68), (1, j_i a), (2, j_i b), (3, j_i w), (4, j_i k), (5, j_i b), (6, j_i b)]) (by decide +kernel) (Nat.le_of_ble_eq_true rfl) rfl ?_
                  refine a_iinc (pc := 124) (i := 4) (n := 1) (x := k) (lv' := [(0, .ref 68), (1, j_i a), (2, j_i b), (3, j_i w), (4, j_i (k + 1)), (5, j_i b), (6, j_i b)]) (by decide +kernel) rfl (Nat.le_of_ble_eq_true rfl) rfl ?_
                  refine a_goto (pc := 127) (off := -95) (tgt := 32) (by decide +kernel) (by decide) ?_
                  have hx : ¬ ml_w (σ.1 69) a b k := fun q => by
                    have q3 := q.2.2
                    unfold f_re at q3
                    first | (rw [if_pos c69, if_neg c93] at q3; exact c114 q3) | (rw [if_neg c69, if_pos c93] at q3; exact c114 q3) | (rw [if_neg c69, if_neg c93] at q3; exact c114 q3) | exact absurd rfl c114
                  exact a_sub (lv' := [(0, .ref 68), (1, j_i a), (2, j_i b), (3, j_i w), (4, j_i (k + 1))]) (fun q hq => by simp only [List.mem_cons, List.not_mem_nil, or_false] at hq ⊢; rcases hq with rfl | rfl | rfl | rfl | rfl <;> simp) (ih (k + 1) w (by omega) (by omega) (by omega) hw01 (hw.trans (ml_wr_n hx)))
                · refine a_iconst (pc := 117) (n := 1) (by decide +kernel) ?_
                  refine a_goto (pc := 118) (off := 4) (tgt := 122) (by decide +kernel) (by decide) ?_
                  refine a_ior (pc := 122) (by decide +kernel) ?_
                  rw [or_b1 hw01]
                  refine a_istore_n (pc := 123) (i := 3) (lv' := [(0, .ref 68), (1, j_i a), (2, j_i b), (3, j_i 1), (4, j_i k), (5, j_i b), (6, j_i b)]) (by decide +kernel) (Nat.le_of_ble_eq_true rfl) rfl ?_
                  refine a_iinc (pc := 124) (i := 4) (n := 1) (x := k) (lv' := [(0, .ref 68), (1, j_i a), (2, j_i b), (3, j_i 1), (4, j_i (k + 1)), (5, j_i b), (6, j_i b)]) (by decide +kernel) rfl (Nat.le_of_ble_eq_true rfl) rfl ?_
                  refine a_goto (pc := 127) (off := -95) (tgt := 32) (by decide +kernel) (by decide) ?_
                  have hx : ml_w (σ.1 69) a b k := ⟨p44.2.2, by omega, by unfold f_re; first | (rw [if_pos c69, if_pos c93]) | (rw [if_pos c69, if_neg c93]; exact c114) | (rw [if_neg c69, if_pos c93]; exact c114) | (rw [if_neg c69, if_neg c93]; exact c114)⟩
                  exact a_sub (lv' := [(0, .ref 68), (1, j_i a), (2, j_i b), (3, j_i 1), (4, j_i (k + 1))]) (fun q hq => by simp only [List.mem_cons, List.not_mem_nil, or_false] at hq ⊢; rcases hq with rfl | rfl | rfl | rfl | rfl <;> simp) (ih (k + 1) 1 (by omega) (by omega) (by omega) (Or.inr rfl) ⟨fun _ => Or.inr ⟨k, h0, by omega, hx⟩, fun _ => rfl⟩)
      · show j_at _ _ _ [(0, .ref 68), (1, j_i a), (2, j_i b), (3, j_i w), (4, j_i k)] [j_i 0] _ _ _ _
        refine a_if_eq (pc := 47) (off := 77) (tgt := 124) (by decide +kernel) (by decide) (by omega) (fun c47 => ?_) (fun c47 => ?_)
        · refine a_iinc (pc := 124) (i := 4) (n := 1) (x := k) (lv' := [(0, .ref 68), (1, j_i a), (2, j_i b), (3, j_i w), (4, j_i (k + 1))]) (by decide +kernel) rfl (Nat.le_of_ble_eq_true rfl) rfl ?_
          refine a_goto (pc := 127) (off := -95) (tgt := 32) (by decide +kernel) (by decide) ?_
          have hx : ¬ ml_w (σ.1 69) a b k := fun q => by first | exact p44 ⟨h0, by omega, q.1⟩ | (have := q.2.1; omega)
          exact a_sub (lv' := [(0, .ref 68), (1, j_i a), (2, j_i b), (3, j_i w), (4, j_i (k + 1))]) (fun q hq => by simp only [List.mem_cons, List.not_mem_nil, or_false] at hq ⊢; rcases hq with rfl | rfl | rfl | rfl | rfl <;> simp) (ih (k + 1) w (by omega) (by omega) (by omega) hw01 (hw.trans (ml_wr_n hx)))
        · exact absurd c47 (by decide)
set_option maxHeartbeats 4000000 in
theorem e_meld {G : j_G} {X : k_X} {n : Nat} {σ : k_St} (hn : 101 ≤ n) (hg : ∀ i : Int, -128 ≤ σ.1 69 i ∧ σ.1 69 i ≤ 9999) (hgr : (0 ≤ σ.1 69 0 ∧ σ.1 69 0 ≤ 300) ∧ (0 ≤ σ.1 69 301 ∧ σ.1 69 301 ≤ 30) ∧ (0 ≤ σ.1 69 1382 ∧ σ.1 69 1382 ≤ 50)) (hf4 : 0 ≤ σ.2.1 68 4 ∧ σ.2.1 68 4 < 40) (hm5 : 0 ≤ σ.2.1 68 5 ∧ σ.2.1 68 5 ≤ 40) {a : Int} (ha : -2147483648 ≤ a ∧ a ≤ 2147483647) {b : Int} (hb : -2147483648 ≤ b ∧ b ≤ 2147483647)  : k_run G X mX12_meld [.ref 68, j_i a, j_i b] n σ 0 0 (fun v n' σ' => (¬ (d_is σ a ∧ d_is σ b) ∧ v = some (j_i (-1)) ∧ n' = n ∧ σ' = σ) ∨ ((d_is σ a ∧ d_is σ b) ∧ ml_wr σ a b (σ.1 69 1382) ∧ v = some (j_i (-3)) ∧ n' = n ∧ σ' = σ) ∨ ((d_is σ a ∧ d_is σ b) ∧ ¬ ml_wr σ a b (σ.1 69 1382) ∧ v = some (j_i (f_count (ml_B a (σ.1 69)) (σ.1 69 1382).toNat)) ∧ n' = n ∧ σ' = k_sA (d_kp σ) 69 (j_up (ml_N a b (σ.1 69) (1383 + 7 * σ.1 69 1382)) (302 + 36 * a) 0))) := by
  obtain ⟨hgW, hgE, hgM⟩ := hgr
  refine k_enter (by decide +kernel) (Nat.le_of_ble_eq_true rfl) ?_
  show j_at _ _ _ [(0, .ref 68), (1, j_i a), (2, j_i b)] [] _ _ _ _
  refine a_aload_n (pc := 0) (i := 0) (by decide +kernel) rfl ?_
  refine a_iload_n (pc := 1) (i := 1) (by decide +kernel) rfl ?_
  refine b_callV (pc := 2) (c' := 0) (sl' := 0) [j_i a] [] ml_X12_202 (by decide +kernel) rfl rfl (sh_68 hn) rfl rfl (Nat.le_of_ble_eq_true rfl) (j_fitI rfl rfl) (s_disHead hn hg (by omega) hgE) (fun v n' σ' hq => ?_)
  obtain ⟨x, rfl, e1, e2, hx⟩ := hq
  rw [e1, e2]; clear e1 e2
  rcases hx with ⟨rfl, p2⟩ | ⟨rfl, p2⟩
  · show j_at _ _ _ [(0, .ref 68), (1, j_i a), (2, j_i b)] [j_i 1] _ _ _ _
    refine a_if_eq (pc := 5) (off := 11) (tgt := 16) (by decide +kernel) (by decide) (by omega) (fun c5 => ?_) (fun c5 => ?_)
    · exact absurd c5 (by decide)
    · refine a_aload_n (pc := 8) (i := 0) (by decide +kernel) rfl ?_
      refine a_iload_n (pc := 9) (i := 2) (by decide +kernel) rfl ?_
      refine b_callV (pc := 10) (c' := 0) (sl' := 0) [j_i b] [] ml_X12_202 (by decide +kernel) rfl rfl (sh_68 hn) rfl rfl (Nat.le_of_ble_eq_true rfl) (j_fitI rfl rfl) (s_disHead hn hg (by omega) hgE) (fun v n' σ' hq => ?_)
      obtain ⟨x, rfl, e1, e2, hx⟩ := hq
      rw [e1, e2]; clear e1 e2
      rcases hx with ⟨rfl, p10⟩ | ⟨rfl, p10⟩
      · show j_at _ _ _ [(0, .ref 68), (1, j_i a), (2, j_i b)] [j_i 1] _ _ _ _
        refine a_if_ne (pc := 13) (off := 5) (tgt := 18) (by decide +kernel) (by decide) (by omega) (fun c13 => ?_) (fun c13 => ?_)
        · refine a_iload_n (pc := 18) (i := 1) (by decide +kernel) rfl ?_
          refine a_iload_n (pc := 19) (i := 2) (by decide +kernel) rfl ?_
          refine a_icmp_ne (pc := 20) (off := 7) (tgt := 27) (by decide +kernel) (by decide) (by omega) (by omega) (fun c20 => ?_) (fun c20 => ?_)
          · refine a_iconst (pc := 27) (n := 0) (by decide +kernel) ?_
            refine a_istore_n (pc := 28) (i := 3) (lv' := [(0, .ref 68), (1, j_i a), (2, j_i b), (3, j_i 0)]) (by decide +kernel) (Nat.le_of_ble_eq_true rfl) rfl ?_
            refine a_iconst (pc := 29) (n := 0) (by decide +kernel) ?_
            refine a_istore (pc := 30) (i := 4) (lv' := [(0, .ref 68), (1, j_i a), (2, j_i b), (3, j_i 0), (4, j_i 0)]) (by decide +kernel) (Nat.le_of_ble_eq_true rfl) rfl ?_
            exact l_dmeld32 hn hg ⟨hgW, hgE, hgM⟩ hf4 hm5 p2 p10 51 0 0 (by omega) (by omega) (by omega) (Or.inl rfl) ⟨fun q => absurd q (by omega), fun q => q.elim (fun e => absurd e c20) (fun ⟨x, x0, x1, _⟩ => absurd x0 (by omega))⟩
          · refine a_iconst (pc := 23) (n := 1) (by decide +kernel) ?_
            refine a_goto (pc := 24) (off := 4) (tgt := 28) (by decide +kernel) (by decide) ?_
            refine a_istore_n (pc := 28) (i := 3) (lv' := [(0, .ref 68), (1, j_i a), (2, j_i b), (3, j_i 1)]) (by decide +kernel) (Nat.le_of_ble_eq_true rfl) rfl ?_
            refine a_iconst (pc := 29) (n := 0) (by decide +kernel) ?_
            refine a_istore (pc := 30) (i := 4) (lv' := [(0, .ref 68), (1, j_i a), (2, j_i b), (3, j_i 1), (4, j_i 0)]) (by decide +kernel) (Nat.le_of_ble_eq_true rfl) rfl ?_
            exact l_dmeld32 hn hg ⟨hgW, hgE, hgM⟩ hf4 hm5 p2 p10 51 0 1 (by omega) (by omega) (by omega) (Or.inr rfl) ⟨fun _ => Or.inl c20, fun _ => rfl⟩
        · exact absurd c13 (by decide)
      · show j_at _ _ _ [(0, .ref 68), (1, j_i a), (2, j_i b)] [j_i 0] _ _ _ _
        refine a_if_ne (pc := 13) (off := 5) (tgt := 18) (by decide +kernel) (by decide) (by omega) (fun c13 => ?_) (fun c13 => ?_)
        · exact absurd c13 (by decide)
        · refine a_iconst (pc := 16) (n := (-1)) (by decide +kernel) ?_
          refine a_ireturn (pc := 17) (by decide +kernel) rfl ?_
          refine k_ret ?_
          first | exact Or.inl ⟨fun q => p2 q.1, rfl, rfl, rfl⟩ | exact Or.inl ⟨fun q => p10 q.2, rfl, rfl, rfl⟩
  · show j_at _ _ _ [(0, .ref 68), (1, j_i a), (2, j_i b)] [j_i 0] _ _ _ _
    refine a_if_eq (pc := 5) (off := 11) (tgt := 16) (by decide +kernel) (by decide) (by omega) (fun c5 => ?_) (fun c5 => ?_)
    · refine a_iconst (pc := 16) (n := (-1)) (by decide +kernel) ?_
      refine a_ireturn (pc := 17) (by decide +kernel) rfl ?_
      refine k_ret ?_
      first | exact Or.inl ⟨fun q => p2 q.1, rfl, rfl, rfl⟩ | exact Or.inl ⟨fun q => p10 q.2, rfl, rfl, rfl⟩
    · exact absurd c5 (by decide)
