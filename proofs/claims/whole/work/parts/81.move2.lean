def mv_F (ρ τ : k_St) : Prop := (∀ c, c ≠ 78 → c ≠ 79 → τ.1 c = ρ.1 c) ∧ τ.2 = ρ.2
def mv_I (ρ τ : k_St) (i m j k : Int) : Prop := ∀ x, 0 ≤ x → x < k → τ.1 79 x = mv_to i m j x ∧ τ.1 78 (mv_to i m j x) = ρ.1 69 (1 + x)
theorem mv_s {ρ τ σ1 σ2 : k_St} {i m j k t : Int} (hm : 0 ≤ m) (hF : mv_F ρ τ) (hI : mv_I ρ τ i m j k) (ht : mv_to i m j k = t) (h1 : σ1 = k_sA τ 79 (j_up (τ.1 79) k t)) (h2 : σ2 = k_sA σ1 78 (j_up (σ1.1 78) t (τ.1 69 (1 + k)))) : mv_F ρ σ2 ∧ mv_I ρ σ2 i m j (k + 1) := by
  refine ⟨⟨fun c c1 c2 => by rw [h2, k_AN c1, h1, k_AN c2]; exact hF.1 c c1 c2, by rw [h2]; show σ1.2 = _; rw [h1]; exact hF.2⟩, fun x x0 x1 => ?_⟩
  have e79 : σ2.1 79 = j_up (τ.1 79) k t := by rw [h2, k_AN (by omega), h1, k_AA]
  have e78 : σ2.1 78 = j_up (τ.1 78) t (ρ.1 69 (1 + k)) := by rw [h2, k_AA, h1, k_AN (by omega), hF.1 69 (by omega) (by omega)]
  rw [e79, e78]
  by_cases q : x = k
  · rw [q, ht, j_upS, j_upS]; exact ⟨rfl, rfl⟩
  · have z := hI x x0 (by omega)
    rw [j_upN q, j_upN (fun e => q (mv_inj hm (by rw [e, ht])))]
    exact z
set_option maxHeartbeats 4000000 in
theorem l_dmove73 {G : j_G} {X : k_X} {n : Nat} {ρ : k_St} (hn : 101 ≤ n) {i m j W : Int} (hW : 0 ≤ W ∧ W ≤ 300) (hm : 0 ≤ m) (hi : 0 ≤ i) (hi1 : i + m ≤ W) (hj : 0 ≤ j) (hj1 : j + m ≤ W) (hw : ρ.1 69 0 = W) {Q : k_P} (kk : ∀ τ, mv_F ρ τ → mv_I ρ τ i m j W → j_at G mX12_move 185 [(0, .ref 68), (1, j_i i), (2, j_i m), (3, j_i j), (4, j_i W), (5, j_i W)] [] (k_h X n τ) 0 0 (k_Q X Q))  : ∀ (z : Nat) (k : Int) (τ : k_St), W - k < (z : Int) → 0 ≤ k → k ≤ W → mv_F ρ τ → mv_I ρ τ i m j k → j_at G mX12_move 73 [(0, .ref 68), (1, j_i i), (2, j_i m), (3, j_i j), (4, j_i k), (5, j_i k)] [] (k_h X n τ) 0 0 (k_Q X Q) := by
  intro z
  induction z with
  | zero => intro k τ h1 h2 h3; exact absurd h1 (by omega)
  | succ z ih =>
    intro k τ hz h0 hN hF hI
    refine a_iload (pc := 73) (i := 5) (by decide +kernel) rfl ?_
    refine a_aload_n (pc := 75) (i := 0) (by decide +kernel) rfl ?_
    refine b_pureV (pc := 76) [] [j_i k] ml_X12_124 (by decide +kernel) rfl rfl (sh_68 hn) rfl rfl (Nat.le_of_ble_eq_true rfl) (j_fitI rfl rfl) (s_dwords hn) ?_
    rw [show τ.1 69 0 = W by rw [hF.1 69 (by omega) (by omega)]; exact hw]
    show j_at _ _ _ [(0, .ref 68), (1, j_i i), (2, j_i m), (3, j_i j), (4, j_i k), (5, j_i k)] [j_i W, j_i k] _ _ _ _
    refine a_icmp_ge (pc := 79) (off := 106) (tgt := 185) (by decide +kernel) (by decide) (by omega) (by omega) (fun c79 => ?_) (fun c79 => ?_)
    · rw [show k = W by omega] at hI ⊢
      exact kk τ hF hI
    · refine a_iload (pc := 82) (i := 5) (by decide +kernel) rfl ?_
      refine a_iload_n (pc := 84) (i := 1) (by decide +kernel) rfl ?_
      refine a_icmp_lt (pc := 85) (off := 15) (tgt := 100) (by decide +kernel) (by decide) (by omega) (by omega) (fun c85 => ?_) (fun c85 => ?_)
      · refine a_iconst (pc := 100) (n := 0) (by decide +kernel) ?_
        refine a_istore (pc := 101) (i := 6) (lv' := [(0, .ref 68), (1, j_i i), (2, j_i m), (3, j_i j), (4, j_i k), (5, j_i k), (6, j_i 0)]) (by decide +kernel) (Nat.le_of_ble_eq_true rfl) rfl ?_
        refine a_iload (pc := 103) (i := 5) (by decide +kernel) rfl ?_
        refine a_iload_n (pc := 105) (i := 1) (by decide +kernel) rfl ?_
        refine a_icmp_ge (pc := 106) (off := 8) (tgt := 114) (by decide +kernel) (by decide) (by omega) (by omega) (fun c106 => ?_) (fun c106 => ?_)
        · refine a_iload (pc := 114) (i := 5) (by decide +kernel) rfl ?_
          refine a_iload_n (pc := 116) (i := 2) (by decide +kernel) rfl ?_
          refine a_isub (pc := 117) (by decide +kernel) ?_
          refine a_istore (pc := 118) (i := 7) (lv' := [(0, .ref 68), (1, j_i i), (2, j_i m), (3, j_i j), (4, j_i k), (5, j_i k), (6, j_i 0), (7, j_i (k - m))]) (by decide +kernel) (Nat.le_of_ble_eq_true rfl) rfl ?_
          refine a_iload (pc := 120) (i := 6) (by decide +kernel) rfl ?_
          refine a_if_eq (pc := 122) (off := 12) (tgt := 134) (by decide +kernel) (by decide) (by omega) (fun c122 => ?_) (fun c122 => ?_)
          · refine a_iload (pc := 134) (i := 7) (by decide +kernel) rfl ?_
            refine a_iload_n (pc := 136) (i := 3) (by decide +kernel) rfl ?_
            refine a_icmp_ge (pc := 137) (off := 8) (tgt := 145) (by decide +kernel) (by decide) (by omega) (by omega) (fun c137 => ?_) (fun c137 => ?_)
            · refine a_iload (pc := 145) (i := 7) (by decide +kernel) rfl ?_
              refine a_iload_n (pc := 147) (i := 2) (by decide +kernel) rfl ?_
              refine a_iadd (pc := 148) (by decide +kernel) ?_
              refine a_istore (pc := 149) (i := 8) (lv' := [(0, .ref 68), (1, j_i i), (2, j_i m), (3, j_i j), (4, j_i k), (5, j_i k), (6, j_i 0), (7, j_i (k - m)), (8, j_i ((k - m) + m))]) (by decide +kernel) (Nat.le_of_ble_eq_true rfl) rfl ?_
              refine a_aload_n (pc := 151) (i := 0) (by decide +kernel) rfl ?_
              refine b_getR (pc := 152) (b := 79) fl_X12_45 (by decide +kernel) (sh_68 hn) rfl ?_
              refine a_iload (pc := 155) (i := 5) (by decide +kernel) rfl ?_
              refine a_iload (pc := 157) (i := 8) (by decide +kernel) rfl ?_
              refine b_iastore (pc := 159) (by decide +kernel) (sh_79 hn) (by omega) (by omega) (by omega) ?_
              obtain ⟨σ1, hσ1⟩ : ∃ z, z = k_sA τ 79 (j_up (τ.1 79) k ((k - m) + m)) := ⟨_, rfl⟩
              rw [← hσ1]
              refine a_aload_n (pc := 160) (i := 0) (by decide +kernel) rfl ?_
              refine b_getR (pc := 161) (b := 78) fl_X12_42 (by decide +kernel) (sh_68 hn) rfl ?_
              refine a_iload (pc := 164) (i := 8) (by decide +kernel) rfl ?_
              refine a_aload_n (pc := 166) (i := 0) (by decide +kernel) rfl ?_
              refine b_getR (pc := 167) (b := 69) fl_X12_7 (by decide +kernel) (sh_68 hn) rfl ?_
              refine a_iconst (pc := 170) (n := 1) (by decide +kernel) ?_
              refine a_iload (pc := 171) (i := 5) (by decide +kernel) rfl ?_
              refine a_iadd (pc := 173) (by decide +kernel) ?_
              refine b_iaload (pc := 174) (by decide +kernel) (sh_69 hn) (by omega) (by omega) (by omega) ?_
              rw [show σ1.1 69 = τ.1 69 by rw [hσ1]; exact k_AN (by omega)]
              refine b_iastore (pc := 175) (by decide +kernel) (sh_78 hn) (by omega) (by omega) (by omega) ?_
              obtain ⟨σ2, hσ2⟩ : ∃ z, z = k_sA σ1 78 (j_up (σ1.1 78) ((k - m) + m) (τ.1 69 (1 + k))) := ⟨_, rfl⟩
              rw [← hσ2]
              refine a_iinc (pc := 176) (i := 4) (n := 1) (x := k) (lv' := [(0, .ref 68), (1, j_i i), (2, j_i m), (3, j_i j), (4, j_i (k + 1)), (5, j_i k), (6, j_i 0), (7, j_i (k - m)), (8, j_i ((k - m) + m))]) (by decide +kernel) rfl (Nat.le_of_ble_eq_true rfl) rfl ?_
              refine a_iinc (pc := 179) (i := 5) (n := 1) (x := k) (lv' := [(0, .ref 68), (1, j_i i), (2, j_i m), (3, j_i j), (4, j_i (k + 1)), (5, j_i (k + 1)), (6, j_i 0), (7, j_i (k - m)), (8, j_i ((k - m) + m))]) (by decide +kernel) rfl (Nat.le_of_ble_eq_true rfl) rfl ?_
              refine a_goto (pc := 182) (off := -109) (tgt := 73) (by decide +kernel) (by decide) ?_
              have ht : mv_to i m j k = (k - m) + m := by
                rcases mv_c (i := i) (j := j) (k := k) hm with a | a | a | a | a <;> omega
              obtain ⟨f1, f2⟩ := mv_s hm hF hI ht hσ1 hσ2
              exact a_sub (lv' := [(0, .ref 68), (1, j_i i), (2, j_i m), (3, j_i j), (4, j_i (k + 1)), (5, j_i (k + 1))]) (fun q hq => by simp only [List.mem_cons, List.not_mem_nil, or_false] at hq ⊢; rcases hq with rfl | rfl | rfl | rfl | rfl | rfl <;> simp) (ih (k + 1) σ2 (by omega) (by omega) (by omega) f1 f2)
            · refine a_iload (pc := 140) (i := 7) (by decide +kernel) rfl ?_
              refine a_goto (pc := 142) (off := 7) (tgt := 149) (by decide +kernel) (by decide) ?_
              refine a_istore (pc := 149) (i := 8) (lv' := [(0, .ref 68), (1, j_i i), (2, j_i m), (3, j_i j), (4, j_i k), (5, j_i k), (6, j_i 0), (7, j_i (k - m)), (8, j_i (k - m))]) (by decide +kernel) (Nat.le_of_ble_eq_true rfl) rfl ?_
              refine a_aload_n (pc := 151) (i := 0) (by decide +kernel) rfl ?_
              refine b_getR (pc := 152) (b := 79) fl_X12_45 (by decide +kernel) (sh_68 hn) rfl ?_
              refine a_iload (pc := 155) (i := 5) (by decide +kernel) rfl ?_
              refine a_iload (pc := 157) (i := 8) (by decide +kernel) rfl ?_
              refine b_iastore (pc := 159) (by decide +kernel) (sh_79 hn) (by omega) (by omega) (by omega) ?_
              obtain ⟨σ3, hσ3⟩ : ∃ z, z = k_sA τ 79 (j_up (τ.1 79) k (k - m)) := ⟨_, rfl⟩
              rw [← hσ3]
              refine a_aload_n (pc := 160) (i := 0) (by decide +kernel) rfl ?_
              refine b_getR (pc := 161) (b := 78) fl_X12_42 (by decide +kernel) (sh_68 hn) rfl ?_
              refine a_iload (pc := 164) (i := 8) (by decide +kernel) rfl ?_
              refine a_aload_n (pc := 166) (i := 0) (by decide +kernel) rfl ?_
              refine b_getR (pc := 167) (b := 69) fl_X12_7 (by decide +kernel) (sh_68 hn) rfl ?_
              refine a_iconst (pc := 170) (n := 1) (by decide +kernel) ?_
              refine a_iload (pc := 171) (i := 5) (by decide +kernel) rfl ?_
              refine a_iadd (pc := 173) (by decide +kernel) ?_
              refine b_iaload (pc := 174) (by decide +kernel) (sh_69 hn) (by omega) (by omega) (by omega) ?_
              rw [show σ3.1 69 = τ.1 69 by rw [hσ3]; exact k_AN (by omega)]
              refine b_iastore (pc := 175) (by decide +kernel) (sh_78 hn) (by omega) (by omega) (by omega) ?_
              obtain ⟨σ4, hσ4⟩ : ∃ z, z = k_sA σ3 78 (j_up (σ3.1 78) (k - m) (τ.1 69 (1 + k))) := ⟨_, rfl⟩
              rw [← hσ4]
              refine a_iinc (pc := 176) (i := 4) (n := 1) (x := k) (lv' := [(0, .ref 68), (1, j_i i), (2, j_i m), (3, j_i j), (4, j_i (k + 1)), (5, j_i k), (6, j_i 0), (7, j_i (k - m)), (8, j_i (k - m))]) (by decide +kernel) rfl (Nat.le_of_ble_eq_true rfl) rfl ?_
              refine a_iinc (pc := 179) (i := 5) (n := 1) (x := k) (lv' := [(0, .ref 68), (1, j_i i), (2, j_i m), (3, j_i j), (4, j_i (k + 1)), (5, j_i (k + 1)), (6, j_i 0), (7, j_i (k - m)), (8, j_i (k - m))]) (by decide +kernel) rfl (Nat.le_of_ble_eq_true rfl) rfl ?_
              refine a_goto (pc := 182) (off := -109) (tgt := 73) (by decide +kernel) (by decide) ?_
              have ht : mv_to i m j k = k - m := by
                rcases mv_c (i := i) (j := j) (k := k) hm with a | a | a | a | a <;> omega
              obtain ⟨f1, f2⟩ := mv_s hm hF hI ht hσ3 hσ4
              exact a_sub (lv' := [(0, .ref 68), (1, j_i i), (2, j_i m), (3, j_i j), (4, j_i (k + 1)), (5, j_i (k + 1))]) (fun q hq => by simp only [List.mem_cons, List.not_mem_nil, or_false] at hq ⊢; rcases hq with rfl | rfl | rfl | rfl | rfl | rfl <;> simp) (ih (k + 1) σ4 (by omega) (by omega) (by omega) f1 f2)
          · exact absurd c122 (by decide)
        · refine a_iload (pc := 109) (i := 5) (by decide +kernel) rfl ?_
          refine a_goto (pc := 111) (off := 7) (tgt := 118) (by decide +kernel) (by decide) ?_
          refine a_istore (pc := 118) (i := 7) (lv' := [(0, .ref 68), (1, j_i i), (2, j_i m), (3, j_i j), (4, j_i k), (5, j_i k), (6, j_i 0), (7, j_i k)]) (by decide +kernel) (Nat.le_of_ble_eq_true rfl) rfl ?_
          refine a_iload (pc := 120) (i := 6) (by decide +kernel) rfl ?_
          refine a_if_eq (pc := 122) (off := 12) (tgt := 134) (by decide +kernel) (by decide) (by omega) (fun c122 => ?_) (fun c122 => ?_)
          · refine a_iload (pc := 134) (i := 7) (by decide +kernel) rfl ?_
            refine a_iload_n (pc := 136) (i := 3) (by decide +kernel) rfl ?_
            refine a_icmp_ge (pc := 137) (off := 8) (tgt := 145) (by decide +kernel) (by decide) (by omega) (by omega) (fun c137 => ?_) (fun c137 => ?_)
            · refine a_iload (pc := 145) (i := 7) (by decide +kernel) rfl ?_
              refine a_iload_n (pc := 147) (i := 2) (by decide +kernel) rfl ?_
              refine a_iadd (pc := 148) (by decide +kernel) ?_
              refine a_istore (pc := 149) (i := 8) (lv' := [(0, .ref 68), (1, j_i i), (2, j_i m), (3, j_i j), (4, j_i k), (5, j_i k), (6, j_i 0), (7, j_i k), (8, j_i (k + m))]) (by decide +kernel) (Nat.le_of_ble_eq_true rfl) rfl ?_
              refine a_aload_n (pc := 151) (i := 0) (by decide +kernel) rfl ?_
              refine b_getR (pc := 152) (b := 79) fl_X12_45 (by decide +kernel) (sh_68 hn) rfl ?_
              refine a_iload (pc := 155) (i := 5) (by decide +kernel) rfl ?_
              refine a_iload (pc := 157) (i := 8) (by decide +kernel) rfl ?_
              refine b_iastore (pc := 159) (by decide +kernel) (sh_79 hn) (by omega) (by omega) (by omega) ?_
              obtain ⟨σ5, hσ5⟩ : ∃ z, z = k_sA τ 79 (j_up (τ.1 79) k (k + m)) := ⟨_, rfl⟩
              rw [← hσ5]
              refine a_aload_n (pc := 160) (i := 0) (by decide +kernel) rfl ?_
              refine b_getR (pc := 161) (b := 78) fl_X12_42 (by decide +kernel) (sh_68 hn) rfl ?_
              refine a_iload (pc := 164) (i := 8) (by decide +kernel) rfl ?_
              refine a_aload_n (pc := 166) (i := 0) (by decide +kernel) rfl ?_
              refine b_getR (pc := 167) (b := 69) fl_X12_7 (by decide +kernel) (sh_68 hn) rfl ?_
              refine a_iconst (pc := 170) (n := 1) (by decide +kernel) ?_
              refine a_iload (pc := 171) (i := 5) (by decide +kernel) rfl ?_
              refine a_iadd (pc := 173) (by decide +kernel) ?_
              refine b_iaload (pc := 174) (by decide +kernel) (sh_69 hn) (by omega) (by omega) (by omega) ?_
              rw [show σ5.1 69 = τ.1 69 by rw [hσ5]; exact k_AN (by omega)]
              refine b_iastore (pc := 175) (by decide +kernel) (sh_78 hn) (by omega) (by omega) (by omega) ?_
              obtain ⟨σ6, hσ6⟩ : ∃ z, z = k_sA σ5 78 (j_up (σ5.1 78) (k + m) (τ.1 69 (1 + k))) := ⟨_, rfl⟩
              rw [← hσ6]
              refine a_iinc (pc := 176) (i := 4) (n := 1) (x := k) (lv' := [(0, .ref 68), (1, j_i i), (2, j_i m), (3, j_i j), (4, j_i (k + 1)), (5, j_i k), (6, j_i 0), (7, j_i k), (8, j_i (k + m))]) (by decide +kernel) rfl (Nat.le_of_ble_eq_true rfl) rfl ?_
              refine a_iinc (pc := 179) (i := 5) (n := 1) (x := k) (lv' := [(0, .ref 68), (1, j_i i), (2, j_i m), (3, j_i j), (4, j_i (k + 1)), (5, j_i (k + 1)), (6, j_i 0), (7, j_i k), (8, j_i (k + m))]) (by decide +kernel) rfl (Nat.le_of_ble_eq_true rfl) rfl ?_
              refine a_goto (pc := 182) (off := -109) (tgt := 73) (by decide +kernel) (by decide) ?_
              have ht : mv_to i m j k = k + m := by
                rcases mv_c (i := i) (j := j) (k := k) hm with a | a | a | a | a <;> omega
              obtain ⟨f1, f2⟩ := mv_s hm hF hI ht hσ5 hσ6
              exact a_sub (lv' := [(0, .ref 68), (1, j_i i), (2, j_i m), (3, j_i j), (4, j_i (k + 1)), (5, j_i (k + 1))]) (fun q hq => by simp only [List.mem_cons, List.not_mem_nil, or_false] at hq ⊢; rcases hq with rfl | rfl | rfl | rfl | rfl | rfl <;> simp) (ih (k + 1) σ6 (by omega) (by omega) (by omega) f1 f2)
            · refine a_iload (pc := 140) (i := 7) (by decide +kernel) rfl ?_
              refine a_goto (pc := 142) (off := 7) (tgt := 149) (by decide +kernel) (by decide) ?_
              refine a_istore (pc := 149) (i := 8) (lv' := [(0, .ref 68), (1, j_i i), (2, j_i m), (3, j_i j), (4, j_i k), (5, j_i k), (6, j_i 0), (7, j_i k), (8, j_i k)]) (by decide +kernel) (Nat.le_of_ble_eq_true rfl) rfl ?_
              refine a_aload_n (pc := 151) (i := 0) (by decide +kernel) rfl ?_
              refine b_getR (pc := 152) (b := 79) fl_X12_45 (by decide +kernel) (sh_68 hn) rfl ?_
              refine a_iload (pc := 155) (i := 5) (by decide +kernel) rfl ?_
              refine a_iload (pc := 157) (i := 8) (by decide +kernel) rfl ?_
              refine b_iastore (pc := 159) (by decide +kernel) (sh_79 hn) (by omega) (by omega) (by omega) ?_
              obtain ⟨σ7, hσ7⟩ : ∃ z, z = k_sA τ 79 (j_up (τ.1 79) k k) := ⟨_, rfl⟩
              rw [← hσ7]
              refine a_aload_n (pc := 160) (i := 0) (by decide +kernel) rfl ?_
              refine b_getR (pc := 161) (b := 78) fl_X12_42 (by decide +kernel) (sh_68 hn) rfl ?_
              refine a_iload (pc := 164) (i := 8) (by decide +kernel) rfl ?_
              refine a_aload_n (pc := 166) (i := 0) (by decide +kernel) rfl ?_
              refine b_getR (pc := 167) (b := 69) fl_X12_7 (by decide +kernel) (sh_68 hn) rfl ?_
              refine a_iconst (pc := 170) (n := 1) (by decide +kernel) ?_
              refine a_iload (pc := 171) (i := 5) (by decide +kernel) rfl ?_
              refine a_iadd (pc := 173) (by decide +kernel) ?_
              refine b_iaload (pc := 174) (by decide +kernel) (sh_69 hn) (by omega) (by omega) (by omega) ?_
              rw [show σ7.1 69 = τ.1 69 by rw [hσ7]; exact k_AN (by omega)]
              refine b_iastore (pc := 175) (by decide +kernel) (sh_78 hn) (by omega) (by omega) (by omega) ?_
              obtain ⟨σ8, hσ8⟩ : ∃ z, z = k_sA σ7 78 (j_up (σ7.1 78) k (τ.1 69 (1 + k))) := ⟨_, rfl⟩
              rw [← hσ8]
              refine a_iinc (pc := 176) (i := 4) (n := 1) (x := k) (lv' := [(0, .ref 68), (1, j_i i), (2, j_i m), (3, j_i j), (4, j_i (k + 1)), (5, j_i k), (6, j_i 0), (7, j_i k), (8, j_i k)]) (by decide +kernel) rfl (Nat.le_of_ble_eq_true rfl) rfl ?_
              refine a_iinc (pc := 179) (i := 5) (n := 1) (x := k) (lv' := [(0, .ref 68), (1, j_i i), (2, j_i m), (3, j_i j), (4, j_i (k + 1)), (5, j_i (k + 1)), (6, j_i 0), (7, j_i k), (8, j_i k)]) (by decide +kernel) rfl (Nat.le_of_ble_eq_true rfl) rfl ?_
              refine a_goto (pc := 182) (off := -109) (tgt := 73) (by decide +kernel) (by decide) ?_
              have ht : mv_to i m j k = k := by
                rcases mv_c (i := i) (j := j) (k := k) hm with a | a | a | a | a <;> omega
              obtain ⟨f1, f2⟩ := mv_s hm hF hI ht hσ7 hσ8
              exact a_sub (lv' := [(0, .ref 68), (1, j_i i), (2, j_i m), (3, j_i j), (4, j_i (k + 1)), (5, j_i (k + 1))]) (fun q hq => by simp only [List.mem_cons, List.not_mem_nil, or_false] at hq ⊢; rcases hq with rfl | rfl | rfl | rfl | rfl | rfl <;> simp) (ih (k + 1) σ8 (by omega) (by omega) (by omega) f1 f2)
          · exact absurd c122 (by decide)
      · refine a_iload (pc := 88) (i := 5) (by decide +kernel) rfl ?_
        refine a_iload_n (pc := 90) (i := 1) (by decide +kernel) rfl ?_
        refine a_iload_n (pc := 91) (i := 2) (by decide +kernel) rfl ?_
        refine a_iadd (pc := 92) (by decide +kernel) ?_
        refine a_icmp_ge (pc := 93) (off := 7) (tgt := 100) (by decide +kernel) (by decide) (by omega) (by omega) (fun c93 => ?_) (fun c93 => ?_)
        · refine a_iconst (pc := 100) (n := 0) (by decide +kernel) ?_
          refine a_istore (pc := 101) (i := 6) (lv' := [(0, .ref 68), (1, j_i i), (2, j_i m), (3, j_i j), (4, j_i k), (5, j_i k), (6, j_i 0)]) (by decide +kernel) (Nat.le_of_ble_eq_true rfl) rfl ?_
          refine a_iload (pc := 103) (i := 5) (by decide +kernel) rfl ?_
          refine a_iload_n (pc := 105) (i := 1) (by decide +kernel) rfl ?_
          refine a_icmp_ge (pc := 106) (off := 8) (tgt := 114) (by decide +kernel) (by decide) (by omega) (by omega) (fun c106 => ?_) (fun c106 => ?_)
          · refine a_iload (pc := 114) (i := 5) (by decide +kernel) rfl ?_
            refine a_iload_n (pc := 116) (i := 2) (by decide +kernel) rfl ?_
            refine a_isub (pc := 117) (by decide +kernel) ?_
            refine a_istore (pc := 118) (i := 7) (lv' := [(0, .ref 68), (1, j_i i), (2, j_i m), (3, j_i j), (4, j_i k), (5, j_i k), (6, j_i 0), (7, j_i (k - m))]) (by decide +kernel) (Nat.le_of_ble_eq_true rfl) rfl ?_
            refine a_iload (pc := 120) (i := 6) (by decide +kernel) rfl ?_
            refine a_if_eq (pc := 122) (off := 12) (tgt := 134) (by decide +kernel) (by decide) (by omega) (fun c122 => ?_) (fun c122 => ?_)
            · refine a_iload (pc := 134) (i := 7) (by decide +kernel) rfl ?_
              refine a_iload_n (pc := 136) (i := 3) (by decide +kernel) rfl ?_
              refine a_icmp_ge (pc := 137) (off := 8) (tgt := 145) (by decide +kernel) (by decide) (by omega) (by omega) (fun c137 => ?_) (fun c137 => ?_)
              · refine a_iload (pc := 145) (i := 7) (by decide +kernel) rfl ?_
                refine a_iload_n (pc := 147) (i := 2) (by decide +kernel) rfl ?_
                refine a_iadd (pc := 148) (by decide +kernel) ?_
                refine a_istore (pc := 149) (i := 8) (lv' := [(0, .ref 68), (1, j_i i), (2, j_i m), (3, j_i j), (4, j_i k), (5, j_i k), (6, j_i 0), (7, j_i (k - m)), (8, j_i ((k - m) + m))]) (by decide +kernel) (Nat.le_of_ble_eq_true rfl) rfl ?_
                refine a_aload_n (pc := 151) (i := 0) (by decide +kernel) rfl ?_
                refine b_getR (pc := 152) (b := 79) fl_X12_45 (by decide +kernel) (sh_68 hn) rfl ?_
                refine a_iload (pc := 155) (i := 5) (by decide +kernel) rfl ?_
                refine a_iload (pc := 157) (i := 8) (by decide +kernel) rfl ?_
                refine b_iastore (pc := 159) (by decide +kernel) (sh_79 hn) (by omega) (by omega) (by omega) ?_
                obtain ⟨σ9, hσ9⟩ : ∃ z, z = k_sA τ 79 (j_up (τ.1 79) k ((k - m) + m)) := ⟨_, rfl⟩
                rw [← hσ9]
                refine a_aload_n (pc := 160) (i := 0) (by decide +kernel) rfl ?_
                refine b_getR (pc := 161) (b := 78) fl_X12_42 (by decide +kernel) (sh_68 hn) rfl ?_
                refine a_iload (pc := 164) (i := 8) (by decide +kernel) rfl ?_
                refine a_aload_n (pc := 166) (i := 0) (by decide +kernel) rfl ?_
                refine b_getR (pc := 167) (b := 69) fl_X12_7 (by decide +kernel) (sh_68 hn) rfl ?_
                refine a_iconst (pc := 170) (n := 1) (by decide +kernel) ?_
                refine a_iload (pc := 171) (i := 5) (by decide +kernel) rfl ?_
                refine a_iadd (pc := 173) (by decide +kernel) ?_
                refine b_iaload (pc := 174) (by decide +kernel) (sh_69 hn) (by omega) (by omega) (by omega) ?_
                rw [show σ9.1 69 = τ.1 69 by rw [hσ9]; exact k_AN (by omega)]
                refine b_iastore (pc := 175) (by decide +kernel) (sh_78 hn) (by omega) (by omega) (by omega) ?_
                obtain ⟨σ10, hσ10⟩ : ∃ z, z = k_sA σ9 78 (j_up (σ9.1 78) ((k - m) + m) (τ.1 69 (1 + k))) := ⟨_, rfl⟩
                rw [← hσ10]
                refine a_iinc (pc := 176) (i := 4) (n := 1) (x := k) (lv' := [(0, .ref 68), (1, j_i i), (2, j_i m), (3, j_i j), (4, j_i (k + 1)), (5, j_i k), (6, j_i 0), (7, j_i (k - m)), (8, j_i ((k - m) + m))]) (by decide +kernel) rfl (Nat.le_of_ble_eq_true rfl) rfl ?_
                refine a_iinc (pc := 179) (i := 5) (n := 1) (x := k) (lv' := [(0, .ref 68), (1, j_i i), (2, j_i m), (3, j_i j), (4, j_i (k + 1)), (5, j_i (k + 1)), (6, j_i 0), (7, j_i (k - m)), (8, j_i ((k - m) + m))]) (by decide +kernel) rfl (Nat.le_of_ble_eq_true rfl) rfl ?_
                refine a_goto (pc := 182) (off := -109) (tgt := 73) (by decide +kernel) (by decide) ?_
                have ht : mv_to i m j k = (k - m) + m := by
                  rcases mv_c (i := i) (j := j) (k := k) hm with a | a | a | a | a <;> omega
                obtain ⟨f1, f2⟩ := mv_s hm hF hI ht hσ9 hσ10
                exact a_sub (lv' := [(0, .ref 68), (1, j_i i), (2, j_i m), (3, j_i j), (4, j_i (k + 1)), (5, j_i (k + 1))]) (fun q hq => by simp only [List.mem_cons, List.not_mem_nil, or_false] at hq ⊢; rcases hq with rfl | rfl | rfl | rfl | rfl | rfl <;> simp) (ih (k + 1) σ10 (by omega) (by omega) (by omega) f1 f2)
              · refine a_iload (pc := 140) (i := 7) (by decide +kernel) rfl ?_
                refine a_goto (pc := 142) (off := 7) (tgt := 149) (by decide +kernel) (by decide) ?_
                refine a_istore (pc := 149) (i := 8) (lv' := [(0, .ref 68), (1, j_i i), (2, j_i m), (3, j_i j), (4, j_i k), (5, j_i k), (6, j_i 0), (7, j_i (k - m)), (8, j_i (k - m))]) (by decide +kernel) (Nat.le_of_ble_eq_true rfl) rfl ?_
                refine a_aload_n (pc := 151) (i := 0) (by decide +kernel) rfl ?_
                refine b_getR (pc := 152) (b := 79) fl_X12_45 (by decide +kernel) (sh_68 hn) rfl ?_
                refine a_iload (pc := 155) (i := 5) (by decide +kernel) rfl ?_
                refine a_iload (pc := 157) (i := 8) (by decide +kernel) rfl ?_
                refine b_iastore (pc := 159) (by decide +kernel) (sh_79 hn) (by omega) (by omega) (by omega) ?_
                obtain ⟨σ11, hσ11⟩ : ∃ z, z = k_sA τ 79 (j_up (τ.1 79) k (k - m)) := ⟨_, rfl⟩
                rw [← hσ11]
                refine a_aload_n (pc := 160) (i := 0) (by decide +kernel) rfl ?_
                refine b_getR (pc := 161) (b := 78) fl_X12_42 (by decide +kernel) (sh_68 hn) rfl ?_
                refine a_iload (pc := 164) (i := 8) (by decide +kernel) rfl ?_
                refine a_aload_n (pc := 166) (i := 0) (by decide +kernel) rfl ?_
                refine b_getR (pc := 167) (b := 69) fl_X12_7 (by decide +kernel) (sh_68 hn) rfl ?_
                refine a_iconst (pc := 170) (n := 1) (by decide +kernel) ?_
                refine a_iload (pc := 171) (i := 5) (by decide +kernel) rfl ?_
                refine a_iadd (pc := 173) (by decide +kernel) ?_
                refine b_iaload (pc := 174) (by decide +kernel) (sh_69 hn) (by omega) (by omega) (by omega) ?_
                rw [show σ11.1 69 = τ.1 69 by rw [hσ11]; exact k_AN (by omega)]
                refine b_iastore (pc := 175) (by decide +kernel) (sh_78 hn) (by omega) (by omega) (by omega) ?_
                obtain ⟨σ12, hσ12⟩ : ∃ z, z = k_sA σ11 78 (j_up (σ11.1 78) (k - m) (τ.1 69 (1 + k))) := ⟨_, rfl⟩
                rw [← hσ12]
                refine a_iinc (pc := 176) (i := 4) (n := 1) (x := k) (lv' := [(0, .ref 68), (1, j_i i), (2, j_i m), (3, j_i j), (4, j_i (k + 1)), (5, j_i k), (6, j_i 0), (7, j_i (k - m)), (8, j_i (k - m))]) (by decide +kernel) rfl (Nat.le_of_ble_eq_true rfl) rfl ?_
                refine a_iinc (pc := 179) (i := 5) (n := 1) (x := k) (lv' := [(0, .ref 68), (1, j_i i), (2, j_i m), (3, j_i j), (4, j_i (k + 1)), (5, j_i (k + 1)), (6, j_i 0), (7, j_i (k - m)), (8, j_i (k - m))]) (by decide +kernel) rfl (Nat.le_of_ble_eq_true rfl) rfl ?_
                refine a_goto (pc := 182) (off := -109) (tgt := 73) (by decide +kernel) (by decide) ?_
                have ht : mv_to i m j k = k - m := by
                  rcases mv_c (i := i) (j := j) (k := k) hm with a | a | a | a | a <;> omega
                obtain ⟨f1, f2⟩ := mv_s hm hF hI ht hσ11 hσ12
                exact a_sub (lv' := [(0, .ref 68), (1, j_i i), (2, j_i m), (3, j_i j), (4, j_i (k + 1)), (5, j_i (k + 1))]) (fun q hq => by simp only [List.mem_cons, List.not_mem_nil, or_false] at hq ⊢; rcases hq with rfl | rfl | rfl | rfl | rfl | rfl <;> simp) (ih (k + 1) σ12 (by omega) (by omega) (by omega) f1 f2)
            · exact absurd c122 (by decide)
          · refine a_iload (pc := 109) (i := 5) (by decide +kernel) rfl ?_
            refine a_goto (pc := 111) (off := 7) (tgt := 118) (by decide +kernel) (by decide) ?_
            refine a_istore (pc := 118) (i := 7) (lv' := [(0, .ref 68), (1, j_i i), (2, j_i m), (3, j_i j), (4, j_i k), (5, j_i k), (6, j_i 0), (7, j_i k)]) (by decide +kernel) (Nat.le_of_ble_eq_true rfl) rfl ?_
            refine a_iload (pc := 120) (i := 6) (by decide +kernel) rfl ?_
            refine a_if_eq (pc := 122) (off := 12) (tgt := 134) (by decide +kernel) (by decide) (by omega) (fun c122 => ?_) (fun c122 => ?_)
            · refine a_iload (pc := 134) (i := 7) (by decide +kernel) rfl ?_
              refine a_iload_n (pc := 136) (i := 3) (by decide +kernel) rfl ?_
              refine a_icmp_ge (pc := 137) (off := 8) (tgt := 145) (by decide +kernel) (by decide) (by omega) (by omega) (fun c137 => ?_) (fun c137 => ?_)
              · refine a_iload (pc := 145) (i := 7) (by decide +kernel) rfl ?_
                refine a_iload_n (pc := 147) (i := 2) (by decide +kernel) rfl ?_
                refine a_iadd (pc := 148) (by decide +kernel) ?_
                refine a_istore (pc := 149) (i := 8) (lv' := [(0, .ref 68), (1, j_i i), (2, j_i m), (3, j_i j), (4, j_i k), (5, j_i k), (6, j_i 0), (7, j_i k), (8, j_i (k + m))]) (by decide +kernel) (Nat.le_of_ble_eq_true rfl) rfl ?_
                refine a_aload_n (pc := 151) (i := 0) (by decide +kernel) rfl ?_
                refine b_getR (pc := 152) (b := 79) fl_X12_45 (by decide +kernel) (sh_68 hn) rfl ?_
                refine a_iload (pc := 155) (i := 5) (by decide +kernel) rfl ?_
                refine a_iload (pc := 157) (i := 8) (by decide +kernel) rfl ?_
                refine b_iastore (pc := 159) (by decide +kernel) (sh_79 hn) (by omega) (by omega) (by omega) ?_
                obtain ⟨σ13, hσ13⟩ : ∃ z, z = k_sA τ 79 (j_up (τ.1 79) k (k + m)) := ⟨_, rfl⟩
                rw [← hσ13]
                refine a_aload_n (pc := 160) (i := 0) (by decide +kernel) rfl ?_
                refine b_getR (pc := 161) (b := 78) fl_X12_42 (by decide +kernel) (sh_68 hn) rfl ?_
                refine a_iload (pc := 164) (i := 8) (by decide +kernel) rfl ?_
                refine a_aload_n (pc := 166) (i := 0) (by decide +kernel) rfl ?_
                refine b_getR (pc := 167) (b := 69) fl_X12_7 (by decide +kernel) (sh_68 hn) rfl ?_
                refine a_iconst (pc := 170) (n := 1) (by decide +kernel) ?_
                refine a_iload (pc := 171) (i := 5) (by decide +kernel) rfl ?_
                refine a_iadd (pc := 173) (by decide +kernel) ?_
                refine b_iaload (pc := 174) (by decide +kernel) (sh_69 hn) (by omega) (by omega) (by omega) ?_
                rw [show σ13.1 69 = τ.1 69 by rw [hσ13]; exact k_AN (by omega)]
                refine b_iastore (pc := 175) (by decide +kernel) (sh_78 hn) (by omega) (by omega) (by omega) ?_
                obtain ⟨σ14, hσ14⟩ : ∃ z, z = k_sA σ13 78 (j_up (σ13.1 78) (k + m) (τ.1 69 (1 + k))) := ⟨_, rfl⟩
                rw [← hσ14]
                refine a_iinc (pc := 176) (i := 4) (n := 1) (x := k) (lv' := [(0, .ref 68), (1, j_i i), (2, j_i m), (3, j_i j), (4, j_i (k + 1)), (5, j_i k), (6, j_i 0), (7, j_i k), (8, j_i (k + m))]) (by decide +kernel) rfl (Nat.le_of_ble_eq_true rfl) rfl ?_
                refine a_iinc (pc := 179) (i := 5) (n := 1) (x := k) (lv' := [(0, .ref 68), (1, j_i i), (2, j_i m), (3, j_i j), (4, j_i (k + 1)), (5, j_i (k + 1)), (6, j_i 0), (7, j_i k), (8, j_i (k + m))]) (by decide +kernel) rfl (Nat.le_of_ble_eq_true rfl) rfl ?_
                refine a_goto (pc := 182) (off := -109) (tgt := 73) (by decide +kernel) (by decide) ?_
                have ht : mv_to i m j k = k + m := by
                  rcases mv_c (i := i) (j := j) (k := k) hm with a | a | a | a | a <;> omega
                obtain ⟨f1, f2⟩ := mv_s hm hF hI ht hσ13 hσ14
                exact a_sub (lv' := [(0, .ref 68), (1, j_i i), (2, j_i m), (3, j_i j), (4, j_i (k + 1)), (5, j_i (k + 1))]) (fun q hq => by simp only [List.mem_cons, List.not_mem_nil, or_false] at hq ⊢; rcases hq with rfl | rfl | rfl | rfl | rfl | rfl <;> simp) (ih (k + 1) σ14 (by omega) (by omega) (by omega) f1 f2)
              · refine a_iload (pc := 140) (i := 7) (by decide +kernel) rfl ?_
                refine a_goto (pc := 142) (off := 7) (tgt := 149) (by decide +kernel) (by decide) ?_
                refine a_istore (pc := 149) (i := 8) (lv' := [(0, .ref 68), (1, j_i i), (2, j_i m), (3, j_i j), (4, j_i k), (5, j_i k), (6, j_i 0), (7, j_i k), (8, j_i k)]) (by decide +kernel) (Nat.le_of_ble_eq_true rfl) rfl ?_
                refine a_aload_n (pc := 151) (i := 0) (by decide +kernel) rfl ?_
                refine b_getR (pc := 152) (b := 79) fl_X12_45 (by decide +kernel) (sh_68 hn) rfl ?_
                refine a_iload (pc := 155) (i := 5) (by decide +kernel) rfl ?_
                refine a_iload (pc := 157) (i := 8) (by decide +kernel) rfl ?_
                refine b_iastore (pc := 159) (by decide +kernel) (sh_79 hn) (by omega) (by omega) (by omega) ?_
                obtain ⟨σ15, hσ15⟩ : ∃ z, z = k_sA τ 79 (j_up (τ.1 79) k k) := ⟨_, rfl⟩
                rw [← hσ15]
                refine a_aload_n (pc := 160) (i := 0) (by decide +kernel) rfl ?_
                refine b_getR (pc := 161) (b := 78) fl_X12_42 (by decide +kernel) (sh_68 hn) rfl ?_
                refine a_iload (pc := 164) (i := 8) (by decide +kernel) rfl ?_
                refine a_aload_n (pc := 166) (i := 0) (by decide +kernel) rfl ?_
                refine b_getR (pc := 167) (b := 69) fl_X12_7 (by decide +kernel) (sh_68 hn) rfl ?_
                refine a_iconst (pc := 170) (n := 1) (by decide +kernel) ?_
                refine a_iload (pc := 171) (i := 5) (by decide +kernel) rfl ?_
                refine a_iadd (pc := 173) (by decide +kernel) ?_
                refine b_iaload (pc := 174) (by decide +kernel) (sh_69 hn) (by omega) (by omega) (by omega) ?_
                rw [show σ15.1 69 = τ.1 69 by rw [hσ15]; exact k_AN (by omega)]
                refine b_iastore (pc := 175) (by decide +kernel) (sh_78 hn) (by omega) (by omega) (by omega) ?_
                obtain ⟨σ16, hσ16⟩ : ∃ z, z = k_sA σ15 78 (j_up (σ15.1 78) k (τ.1 69 (1 + k))) := ⟨_, rfl⟩
                rw [← hσ16]
                refine a_iinc (pc := 176) (i := 4) (n := 1) (x := k) (lv' := [(0, .ref 68), (1, j_i i), (2, j_i m), (3, j_i j), (4, j_i (k + 1)), (5, j_i k), (6, j_i 0), (7, j_i k), (8, j_i k)]) (by decide +kernel) rfl (Nat.le_of_ble_eq_true rfl) rfl ?_
                refine a_iinc (pc := 179) (i := 5) (n := 1) (x := k) (lv' := [(0, .ref 68), (1, j_i i), (2, j_i m), (3, j_i j), (4, j_i (k + 1)), (5, j_i (k + 1)), (6, j_i 0), (7, j_i k), (8, j_i k)]) (by decide +kernel) rfl (Nat.le_of_ble_eq_true rfl) rfl ?_
                refine a_goto (pc := 182) (off := -109) (tgt := 73) (by decide +kernel) (by decide) ?_
                have ht : mv_to i m j k = k := by
                  rcases mv_c (i := i) (j := j) (k := k) hm with a | a | a | a | a <;> omega
                obtain ⟨f1, f2⟩ := mv_s hm hF hI ht hσ15 hσ16
                exact a_sub (lv' := [(0, .ref 68), (1, j_i i), (2, j_i m), (3, j_i j), (4, j_i (k + 1)), (5, j_i (k + 1))]) (fun q hq => by simp only [List.mem_cons, List.not_mem_nil, or_false] at hq ⊢; rcases hq with rfl | rfl | rfl | rfl | rfl | rfl <;> simp) (ih (k + 1) σ16 (by omega) (by omega) (by omega) f1 f2)
            · exact absurd c122 (by decide)
        · refine a_iconst (pc := 96) (n := 1) (by decide +kernel) ?_
          refine a_goto (pc := 97) (off := 4) (tgt := 101) (by decide +kernel) (by decide) ?_
          refine a_istore (pc := 101) (i := 6) (lv' := [(0, .ref 68), (1, j_i i), (2, j_i m), (3, j_i j), (4, j_i k), (5, j_i k), (6, j_i 1)]) (by decide +kernel) (Nat.le_of_ble_eq_true rfl) rfl ?_
          refine a_iload (pc := 103) (i := 5) (by decide +kernel) rfl ?_
          refine a_iload_n (pc := 105) (i := 1) (by decide +kernel) rfl ?_
          refine a_icmp_ge (pc := 106) (off := 8) (tgt := 114) (by decide +kernel) (by decide) (by omega) (by omega) (fun c106 => ?_) (fun c106 => ?_)
          · refine a_iload (pc := 114) (i := 5) (by decide +kernel) rfl ?_
            refine a_iload_n (pc := 116) (i := 2) (by decide +kernel) rfl ?_
            refine a_isub (pc := 117) (by decide +kernel) ?_
            refine a_istore (pc := 118) (i := 7) (lv' := [(0, .ref 68), (1, j_i i), (2, j_i m), (3, j_i j), (4, j_i k), (5, j_i k), (6, j_i 1), (7, j_i (k - m))]) (by decide +kernel) (Nat.le_of_ble_eq_true rfl) rfl ?_
            refine a_iload (pc := 120) (i := 6) (by decide +kernel) rfl ?_
            refine a_if_eq (pc := 122) (off := 12) (tgt := 134) (by decide +kernel) (by decide) (by omega) (fun c122 => ?_) (fun c122 => ?_)
            · exact absurd c122 (by decide)
            · refine a_iload_n (pc := 125) (i := 3) (by decide +kernel) rfl ?_
              refine a_iload (pc := 126) (i := 5) (by decide +kernel) rfl ?_
              refine a_iadd (pc := 128) (by decide +kernel) ?_
              refine a_iload_n (pc := 129) (i := 1) (by decide +kernel) rfl ?_
              refine a_isub (pc := 130) (by decide +kernel) ?_
              refine a_goto (pc := 131) (off := 18) (tgt := 149) (by decide +kernel) (by decide) ?_
              refine a_istore (pc := 149) (i := 8) (lv' := [(0, .ref 68), (1, j_i i), (2, j_i m), (3, j_i j), (4, j_i k), (5, j_i k), (6, j_i 1), (7, j_i (k - m)), (8, j_i ((j + k) - i))]) (by decide +kernel) (Nat.le_of_ble_eq_true rfl) rfl ?_
              refine a_aload_n (pc := 151) (i := 0) (by decide +kernel) rfl ?_
              refine b_getR (pc := 152) (b := 79) fl_X12_45 (by decide +kernel) (sh_68 hn) rfl ?_
              refine a_iload (pc := 155) (i := 5) (by decide +kernel) rfl ?_
              refine a_iload (pc := 157) (i := 8) (by decide +kernel) rfl ?_
              refine b_iastore (pc := 159) (by decide +kernel) (sh_79 hn) (by omega) (by omega) (by omega) ?_
              obtain ⟨σ17, hσ17⟩ : ∃ z, z = k_sA τ 79 (j_up (τ.1 79) k ((j + k) - i)) := ⟨_, rfl⟩
              rw [← hσ17]
              refine a_aload_n (pc := 160) (i := 0) (by decide +kernel) rfl ?_
              refine b_getR (pc := 161) (b := 78) fl_X12_42 (by decide +kernel) (sh_68 hn) rfl ?_
              refine a_iload (pc := 164) (i := 8) (by decide +kernel) rfl ?_
              refine a_aload_n (pc := 166) (i := 0) (by decide +kernel) rfl ?_
              refine b_getR (pc := 167) (b := 69) fl_X12_7 (by decide +kernel) (sh_68 hn) rfl ?_
              refine a_iconst (pc := 170) (n := 1) (by decide +kernel) ?_
              refine a_iload (pc := 171) (i := 5) (by decide +kernel) rfl ?_
              refine a_iadd (pc := 173) (by decide +kernel) ?_
              refine b_iaload (pc := 174) (by decide +kernel) (sh_69 hn) (by omega) (by omega) (by omega) ?_
              rw [show σ17.1 69 = τ.1 69 by rw [hσ17]; exact k_AN (by omega)]
              refine b_iastore (pc := 175) (by decide +kernel) (sh_78 hn) (by omega) (by omega) (by omega) ?_
              obtain ⟨σ18, hσ18⟩ : ∃ z, z = k_sA σ17 78 (j_up (σ17.1 78) ((j + k) - i) (τ.1 69 (1 + k))) := ⟨_, rfl⟩
              rw [← hσ18]
              refine a_iinc (pc := 176) (i := 4) (n := 1) (x := k) (lv' := [(0, .ref 68), (1, j_i i), (2, j_i m), (3, j_i j), (4, j_i (k + 1)), (5, j_i k), (6, j_i 1), (7, j_i (k - m)), (8, j_i ((j + k) - i))]) (by decide +kernel) rfl (Nat.le_of_ble_eq_true rfl) rfl ?_
              refine a_iinc (pc := 179) (i := 5) (n := 1) (x := k) (lv' := [(0, .ref 68), (1, j_i i), (2, j_i m), (3, j_i j), (4, j_i (k + 1)), (5, j_i (k + 1)), (6, j_i 1), (7, j_i (k - m)), (8, j_i ((j + k) - i))]) (by decide +kernel) rfl (Nat.le_of_ble_eq_true rfl) rfl ?_
              refine a_goto (pc := 182) (off := -109) (tgt := 73) (by decide +kernel) (by decide) ?_
              have ht : mv_to i m j k = (j + k) - i := by
                rcases mv_c (i := i) (j := j) (k := k) hm with a | a | a | a | a <;> omega
              obtain ⟨f1, f2⟩ := mv_s hm hF hI ht hσ17 hσ18
              exact a_sub (lv' := [(0, .ref 68), (1, j_i i), (2, j_i m), (3, j_i j), (4, j_i (k + 1)), (5, j_i (k + 1))]) (fun q hq => by simp only [List.mem_cons, List.not_mem_nil, or_false] at hq ⊢; rcases hq with rfl | rfl | rfl | rfl | rfl | rfl <;> simp) (ih (k + 1) σ18 (by omega) (by omega) (by omega) f1 f2)
          · refine a_iload (pc := 109) (i := 5) (by decide +kernel) rfl ?_
            refine a_goto (pc := 111) (off := 7) (tgt := 118) (by decide +kernel) (by decide) ?_
            refine a_istore (pc := 118) (i := 7) (lv' := [(0, .ref 68), (1, j_i i), (2, j_i m), (3, j_i j), (4, j_i k), (5, j_i k), (6, j_i 1), (7, j_i k)]) (by decide +kernel) (Nat.le_of_ble_eq_true rfl) rfl ?_
            refine a_iload (pc := 120) (i := 6) (by decide +kernel) rfl ?_
            refine a_if_eq (pc := 122) (off := 12) (tgt := 134) (by decide +kernel) (by decide) (by omega) (fun c122 => ?_) (fun c122 => ?_)
            · exact absurd c122 (by decide)
            · refine a_iload_n (pc := 125) (i := 3) (by decide +kernel) rfl ?_
              refine a_iload (pc := 126) (i := 5) (by decide +kernel) rfl ?_
              refine a_iadd (pc := 128) (by decide +kernel) ?_
              refine a_iload_n (pc := 129) (i := 1) (by decide +kernel) rfl ?_
              refine a_isub (pc := 130) (by decide +kernel) ?_
              refine a_goto (pc := 131) (off := 18) (tgt := 149) (by decide +kernel) (by decide) ?_
              refine a_istore (pc := 149) (i := 8) (lv' := [(0, .ref 68), (1, j_i i), (2, j_i m), (3, j_i j), (4, j_i k), (5, j_i k), (6, j_i 1), (7, j_i k), (8, j_i ((j + k) - i))]) (by decide +kernel) (Nat.le_of_ble_eq_true rfl) rfl ?_
              refine a_aload_n (pc := 151) (i := 0) (by decide +kernel) rfl ?_
              refine b_getR (pc := 152) (b := 79) fl_X12_45 (by decide +kernel) (sh_68 hn) rfl ?_
              refine a_iload (pc := 155) (i := 5) (by decide +kernel) rfl ?_
              refine a_iload (pc := 157) (i := 8) (by decide +kernel) rfl ?_
              refine b_iastore (pc := 159) (by decide +kernel) (sh_79 hn) (by omega) (by omega) (by omega) ?_
              obtain ⟨σ19, hσ19⟩ : ∃ z, z = k_sA τ 79 (j_up (τ.1 79) k ((j + k) - i)) := ⟨_, rfl⟩
              rw [← hσ19]
              refine a_aload_n (pc := 160) (i := 0) (by decide +kernel) rfl ?_
              refine b_getR (pc := 161) (b := 78) fl_X12_42 (by decide +kernel) (sh_68 hn) rfl ?_
              refine a_iload (pc := 164) (i := 8) (by decide +kernel) rfl ?_
              refine a_aload_n (pc := 166) (i := 0) (by decide +kernel) rfl ?_
              refine b_getR (pc := 167) (b := 69) fl_X12_7 (by decide +kernel) (sh_68 hn) rfl ?_
              refine a_iconst (pc := 170) (n := 1) (by decide +kernel) ?_
              refine a_iload (pc := 171) (i := 5) (by decide +kernel) rfl ?_
              refine a_iadd (pc := 173) (by decide +kernel) ?_
              refine b_iaload (pc := 174) (by decide +kernel) (sh_69 hn) (by omega) (by omega) (by omega) ?_
              rw [show σ19.1 69 = τ.1 69 by rw [hσ19]; exact k_AN (by omega)]
              refine b_iastore (pc := 175) (by decide +kernel) (sh_78 hn) (by omega) (by omega) (by omega) ?_
              obtain ⟨σ20, hσ20⟩ : ∃ z, z = k_sA σ19 78 (j_up (σ19.1 78) ((j + k) - i) (τ.1 69 (1 + k))) := ⟨_, rfl⟩
              rw [← hσ20]
              refine a_iinc (pc := 176) (i := 4) (n := 1) (x := k) (lv' := [(0, .ref 68), (1, j_i i), (2, j_i m), (3, j_i j), (4, j_i (k + 1)), (5, j_i k), (6, j_i 1), (7, j_i k), (8, j_i ((j + k) - i))]) (by decide +kernel) rfl (Nat.le_of_ble_eq_true rfl) rfl ?_
              refine a_iinc (pc := 179) (i := 5) (n := 1) (x := k) (lv' := [(0, .ref 68), (1, j_i i), (2, j_i m), (3, j_i j), (4, j_i (k + 1)), (5, j_i (k + 1)), (6, j_i 1), (7, j_i k), (8, j_i ((j + k) - i))]) (by decide +kernel) rfl (Nat.le_of_ble_eq_true rfl) rfl ?_
              refine a_goto (pc := 182) (off := -109) (tgt := 73) (by decide +kernel) (by decide) ?_
              have ht : mv_to i m j k = (j + k) - i := by
                rcases mv_c (i := i) (j := j) (k := k) hm with a | a | a | a | a <;> omega
              obtain ⟨f1, f2⟩ := mv_s hm hF hI ht hσ19 hσ20
              exact a_sub (lv' := [(0, .ref 68), (1, j_i i), (2, j_i m), (3, j_i j), (4, j_i (k + 1)), (5, j_i (k + 1))]) (fun q hq => by simp only [List.mem_cons, List.not_mem_nil, or_false] at hq ⊢; rcases hq with rfl | rfl | rfl | rfl | rfl | rfl <;> simp) (ih (k + 1) σ20 (by omega) (by omega) (by omega) f1 f2)
set_option maxHeartbeats 4000000 in
theorem l_dmove188 {G : j_G} {X : k_X} {n : Nat} {ρ : k_St} (hn : 101 ≤ n) {i m j W : Int} (hW : 0 ≤ W ∧ W ≤ 300) (hm : 0 ≤ m) (hi : 0 ≤ i) (hi1 : i + m ≤ W) (hj : 0 ≤ j) (hj1 : j + m ≤ W) {Q : k_P} (kk : ∀ τ, τ = k_sA ρ 69 (j_cpy (ρ.1 78) (ρ.1 69) 0 1 W) → ∀ k, j_at G mX12_move 217 [(0, .ref 68), (1, j_i i), (2, j_i m), (3, j_i j), (4, j_i W), (5, j_i k)] [] (k_h X n τ) 0 0 (k_Q X Q))  : ∀ (z : Nat) (k : Int) (τ : k_St), W - k < (z : Int) → 0 ≤ k → k ≤ W → τ = k_sA ρ 69 (j_cpy (ρ.1 78) (ρ.1 69) 0 1 k) → j_at G mX12_move 188 [(0, .ref 68), (1, j_i i), (2, j_i m), (3, j_i j), (4, j_i W), (5, j_i k)] [] (k_h X n τ) 0 0 (k_Q X Q) := by
  intro z
  induction z with
  | zero => intro k τ h1 h2 h3; exact absurd h1 (by omega)
  | succ z ih =>
    intro k τ hz h0 hN hτ
    refine a_iload (pc := 188) (i := 5) (by decide +kernel) rfl ?_
    refine a_iload (pc := 190) (i := 4) (by decide +kernel) rfl ?_
    refine a_icmp_ge (pc := 192) (off := 25) (tgt := 217) (by decide +kernel) (by decide) (by omega) (by omega) (fun c192 => ?_) (fun c192 => ?_)
    · exact kk τ (by rw [hτ, show k = W by omega]) k
    · refine a_aload_n (pc := 195) (i := 0) (by decide +kernel) rfl ?_
      refine b_getR (pc := 196) (b := 69) fl_X12_7 (by decide +kernel) (sh_68 hn) rfl ?_
      refine a_iconst (pc := 199) (n := 1) (by decide +kernel) ?_
      refine a_iload (pc := 200) (i := 5) (by decide +kernel) rfl ?_
      refine a_iadd (pc := 202) (by decide +kernel) ?_
      refine a_aload_n (pc := 203) (i := 0) (by decide +kernel) rfl ?_
      refine b_getR (pc := 204) (b := 78) fl_X12_42 (by decide +kernel) (sh_68 hn) rfl ?_
      refine a_iload (pc := 207) (i := 5) (by decide +kernel) rfl ?_
      refine b_iaload (pc := 209) (by decide +kernel) (sh_78 hn) (by omega) (by omega) (by omega) ?_
      rw [show τ.1 78 = ρ.1 78 from (by rw [hτ, k_AN (by omega)])]
      refine b_iastore (pc := 210) (by decide +kernel) (sh_69 hn) (by omega) (by omega) (by omega) ?_
      obtain ⟨σ1, hσ1⟩ : ∃ z, z = k_sA τ 69 (j_up (τ.1 69) (1 + k) (ρ.1 78 k)) := ⟨_, rfl⟩
      rw [← hσ1]
      refine a_iinc (pc := 211) (i := 5) (n := 1) (x := k) (lv' := [(0, .ref 68), (1, j_i i), (2, j_i m), (3, j_i j), (4, j_i W), (5, j_i (k + 1))]) (by decide +kernel) rfl (Nat.le_of_ble_eq_true rfl) rfl ?_
      refine a_goto (pc := 214) (off := -26) (tgt := 188) (by decide +kernel) (by decide) ?_
      exact ih (k + 1) σ1 (by omega) (by omega) (by omega) (by rw [hσ1, hτ, k_AA, k_sA2, j_cpy_up h0 (by rw [show 0 + k = k by omega])])
theorem j_up_self {g : Int → Int} {i : Int} : j_up g i (g i) = g := by
  funext x; unfold j_up; split
  · rename_i h; rw [h]
  · rfl
set_option maxHeartbeats 4000000 in
theorem l_dmove220 {G : j_G} {X : k_X} {n : Nat} {ρ : k_St} (hn : 101 ≤ n) {i m j W : Int} (hW : 0 ≤ W ∧ W ≤ 300) (hm : 0 ≤ m) (hi : 0 ≤ i) (hi1 : i + m ≤ W) (hj : 0 ≤ j) (hj1 : j + m ≤ W) {N : Int} {f : Int → Int} (hN9 : f 1382 = N) (hN5 : 0 ≤ N ∧ N ≤ 50) (hgr : ∀ m, 0 ≤ m → m < N → 0 ≤ f (1383 + 7 * m + 2) ∧ f (1383 + 7 * m + 2) ≤ W) (hI : ∀ x, 0 ≤ x → x < W → ρ.1 79 x = mv_to i m j x) {Q : k_P} (kk : ∀ τ, τ = k_sA ρ 69 (d_gm (mv_g i m j) f N) → ∀ k, j_at G mX12_move 275 [(0, .ref 68), (1, j_i i), (2, j_i m), (3, j_i j), (4, j_i W), (5, j_i k)] [] (k_h X n τ) 0 0 (k_Q X Q))  : ∀ (z : Nat) (k : Int) (τ : k_St), 50 - k < (z : Int) → 0 ≤ k → k ≤ N → τ = k_sA ρ 69 (d_gm (mv_g i m j) f k) → j_at G mX12_move 220 [(0, .ref 68), (1, j_i i), (2, j_i m), (3, j_i j), (4, j_i W), (5, j_i k)] [] (k_h X n τ) 0 0 (k_Q X Q) := by
  intro z
  induction z with
  | zero => intro k τ h1 h2 h3; exact absurd h1 (by omega)
  | succ z ih =>
    intro k τ hz h0 hN hτ
    refine a_iload (pc := 220) (i := 5) (by decide +kernel) rfl ?_
    refine a_aload_n (pc := 222) (i := 0) (by decide +kernel) rfl ?_
    refine b_pureV (pc := 223) [] [j_i k] ml_X12_135 (by decide +kernel) rfl rfl (sh_68 hn) rfl rfl (Nat.le_of_ble_eq_true rfl) (j_fitI rfl rfl) (s_dmarksEver hn) ?_
    rw [show τ.1 69 1382 = N by rw [hτ, k_AA, d_gm_o (by omega), hN9]]
    show j_at _ _ _ [(0, .ref 68), (1, j_i i), (2, j_i m), (3, j_i j), (4, j_i W), (5, j_i k)] [j_i N, j_i k] _ _ _ _
    refine a_icmp_ge (pc := 226) (off := 49) (tgt := 275) (by decide +kernel) (by decide) (by omega) (by omega) (fun c226 => ?_) (fun c226 => ?_)
    · exact kk τ (by rw [hτ, show k = N by omega]) k
    · refine a_aload_n (pc := 229) (i := 0) (by decide +kernel) rfl ?_
      refine b_getR (pc := 230) (b := 69) fl_X12_7 (by decide +kernel) (sh_68 hn) rfl ?_
      refine a_aload_n (pc := 233) (i := 0) (by decide +kernel) rfl ?_
      refine a_iload (pc := 234) (i := 5) (by decide +kernel) rfl ?_
      refine b_pureV (pc := 236) [j_i k] [.ref 69] ml_X12_138 (by decide +kernel) rfl rfl (sh_68 hn) rfl rfl (Nat.le_of_ble_eq_true rfl) (j_fitI rfl rfl) (s_dgapAt hn) ?_
      show j_at _ _ _ [(0, .ref 68), (1, j_i i), (2, j_i m), (3, j_i j), (4, j_i W), (5, j_i k)] [j_i (1383 + 7 * k + 2), .ref 69] _ _ _ _
      refine b_iaload (pc := 239) (by decide +kernel) (sh_69 hn) (by omega) (by omega) (by omega) ?_
      rw [show τ.1 69 (1383 + 7 * k + 2) = f (1383 + 7 * k + 2) by rw [hτ, k_AA, d_gm_n (by omega)]]
      have hx := hgr k h0 (by omega)
      refine a_istore (pc := 240) (i := 6) (lv' := [(0, .ref 68), (1, j_i i), (2, j_i m), (3, j_i j), (4, j_i W), (5, j_i k), (6, j_i (f (1383 + 7 * k + 2)))]) (by decide +kernel) (Nat.le_of_ble_eq_true rfl) rfl ?_
      refine a_iload (pc := 242) (i := 6) (by decide +kernel) rfl ?_
      refine a_if_le (pc := 244) (off := 25) (tgt := 269) (by decide +kernel) (by decide) (by omega) (fun c244 => ?_) (fun c244 => ?_)
      · refine a_iinc (pc := 269) (i := 5) (n := 1) (x := k) (lv' := [(0, .ref 68), (1, j_i i), (2, j_i m), (3, j_i j), (4, j_i W), (5, j_i (k + 1)), (6, j_i (f (1383 + 7 * k + 2)))]) (by decide +kernel) rfl (Nat.le_of_ble_eq_true rfl) rfl ?_
        refine a_goto (pc := 272) (off := -52) (tgt := 220) (by decide +kernel) (by decide) ?_
        have e : τ = k_sA ρ 69 (d_gm (mv_g i m j) f (k + 1)) := by
          rw [hτ, ← d_gm_s h0 (x := f (1383 + 7 * k + 2)) (by unfold mv_g; rw [if_neg (by omega)]), ← d_gm_n (F := mv_g i m j) (h := f) (Int.le_refl k), j_up_self]
        exact a_sub (lv' := [(0, .ref 68), (1, j_i i), (2, j_i m), (3, j_i j), (4, j_i W), (5, j_i (k + 1))]) (fun q hq => by simp only [List.mem_cons, List.not_mem_nil, or_false] at hq ⊢; rcases hq with rfl | rfl | rfl | rfl | rfl | rfl <;> simp) (ih (k + 1) τ (by omega) (by omega) (by omega) e)
      · refine a_aload_n (pc := 247) (i := 0) (by decide +kernel) rfl ?_
        refine b_getR (pc := 248) (b := 69) fl_X12_7 (by decide +kernel) (sh_68 hn) rfl ?_
        refine a_aload_n (pc := 251) (i := 0) (by decide +kernel) rfl ?_
        refine a_iload (pc := 252) (i := 5) (by decide +kernel) rfl ?_
        refine b_pureV (pc := 254) [j_i k] [.ref 69] ml_X12_138 (by decide +kernel) rfl rfl (sh_68 hn) rfl rfl (Nat.le_of_ble_eq_true rfl) (j_fitI rfl rfl) (s_dgapAt hn) ?_
        show j_at _ _ _ [(0, .ref 68), (1, j_i i), (2, j_i m), (3, j_i j), (4, j_i W), (5, j_i k), (6, j_i (f (1383 + 7 * k + 2)))] [j_i (1383 + 7 * k + 2), .ref 69] _ _ _ _
        refine a_aload_n (pc := 257) (i := 0) (by decide +kernel) rfl ?_
        refine b_getR (pc := 258) (b := 79) fl_X12_45 (by decide +kernel) (sh_68 hn) rfl ?_
        refine a_iload (pc := 261) (i := 6) (by decide +kernel) rfl ?_
        refine a_iconst (pc := 263) (n := 1) (by decide +kernel) ?_
        refine a_isub (pc := 264) (by decide +kernel) ?_
        refine b_iaload (pc := 265) (by decide +kernel) (sh_79 hn) (by omega) (by omega) (by omega) ?_
        rw [show τ.1 79 = ρ.1 79 from (by rw [hτ, k_AN (by omega)])]
        rw [show ρ.1 79 (f (1383 + 7 * k + 2) - 1) = mv_to i m j (f (1383 + 7 * k + 2) - 1) from hI _ (by omega) (by omega)]
        refine a_iconst (pc := 266) (n := 1) (by decide +kernel) ?_
        refine a_iadd (pc := 267) (by decide +kernel) ?_
        refine b_iastore (pc := 268) (by decide +kernel) (sh_69 hn) (by omega) (by omega) (by omega) ?_
        obtain ⟨σ1, hσ1⟩ : ∃ z, z = k_sA τ 69 (j_up (τ.1 69) (1383 + 7 * k + 2) ((mv_to i m j (f (1383 + 7 * k + 2) - 1)) + 1)) := ⟨_, rfl⟩
        rw [← hσ1]
        refine a_iinc (pc := 269) (i := 5) (n := 1) (x := k) (lv' := [(0, .ref 68), (1, j_i i), (2, j_i m), (3, j_i j), (4, j_i W), (5, j_i (k + 1)), (6, j_i (f (1383 + 7 * k + 2)))]) (by decide +kernel) rfl (Nat.le_of_ble_eq_true rfl) rfl ?_
        refine a_goto (pc := 272) (off := -52) (tgt := 220) (by decide +kernel) (by decide) ?_
        have e : σ1 = k_sA ρ 69 (d_gm (mv_g i m j) f (k + 1)) := by
          rw [hσ1, hτ, k_AA, k_sA2, d_gm_s h0 (by unfold mv_g; rw [if_pos (by omega)])]
        exact a_sub (lv' := [(0, .ref 68), (1, j_i i), (2, j_i m), (3, j_i j), (4, j_i W), (5, j_i (k + 1))]) (fun q hq => by simp only [List.mem_cons, List.not_mem_nil, or_false] at hq ⊢; rcases hq with rfl | rfl | rfl | rfl | rfl | rfl <;> simp) (ih (k + 1) σ1 (by omega) (by omega) (by omega) e)
