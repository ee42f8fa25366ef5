set_option maxHeartbeats 4000000 in
theorem l_dmeld162 {G : j_G} {X : k_X} {n : Nat} {ρ : k_St} (hn : 101 ≤ n) {a b N : Int} {g : Int → Int} (ha : 0 ≤ a ∧ a ≤ 29) (hb : 0 ≤ b ∧ b ≤ 29) (hg : d_rg g) (hN : g 1382 = N) (hN5 : 0 ≤ N ∧ N ≤ 50) {k c : Int} (hk : 0 ≤ k ∧ k < N) {Q : k_P} (kk : ∀ (τ : k_St) (h' i' : Int), (h' = 0 ∨ h' = 1) → (h' = 1 ↔ g (1383 + 7 * k) = 1 ∧ ∃ y, 0 ≤ y ∧ y < 3 ∧ g (1383 + 7 * k + 3 + y) = a) → τ = k_sA ρ 69 (ml_N a b g (1383 + 7 * (k + 1))) → j_at G mX12_meld 215 [(0, .ref 68), (1, j_i a), (2, j_i b), (4, j_i c), (5, j_i k), (6, j_i h'), (7, j_i i')] [] (k_h X n τ) 0 0 (k_Q X Q))  : ∀ (z : Nat) (i h : Int) (τ : k_St), 3 - i < (z : Int) → 0 ≤ i → i ≤ 3 → (h = 0 ∨ h = 1) → (h = 1 ↔ ∃ y, 0 ≤ y ∧ y < i ∧ g (1383 + 7 * k + 3 + y) = a) → (g (1383 + 7 * k) = 1 ∨ i = 0) → τ = k_sA ρ 69 (ml_N a b g (1383 + 7 * k + 3 + i)) → j_at G mX12_meld 162 [(0, .ref 68), (1, j_i a), (2, j_i b), (4, j_i c), (5, j_i k), (6, j_i h), (7, j_i i)] [] (k_h X n τ) 0 0 (k_Q X Q) := by
  intro z
  induction z with
  | zero => intro i h τ h1 h2 h3; exact absurd h1 (by omega)
  | succ z ih =>
    intro i h τ hz h0 hi3 hh hI hL hτ
    have e69 : τ.1 69 = ml_N a b g (1383 + 7 * k + 3 + i) := by rw [hτ, k_AA]
    have hgt : ∀ i : Int, -128 ≤ τ.1 69 i ∧ τ.1 69 i ≤ 9999 := by rw [e69]; exact ml_N_rg hb hg
    have hEt : 0 ≤ τ.1 69 1382 ∧ τ.1 69 1382 ≤ 50 := by rw [e69, ml_N_o (by omega), hN]; exact hN5
    have hdm : d_ms τ k ↔ g (1383 + 7 * k) = 1 := by
      unfold d_ms; rw [e69, ml_N_o (by omega), ml_N_o (by omega), hN]
      exact ⟨fun q => q.2.2, fun q => ⟨hk.1, hk.2, q⟩⟩
    have e215 : (3 ≤ i ∨ ¬ d_ms τ k) → j_at G mX12_meld 215 [(0, .ref 68), (1, j_i a), (2, j_i b), (4, j_i c), (5, j_i k), (6, j_i h), (7, j_i i)] [] (k_h X n τ) 0 0 (k_Q X Q) := fun hq => by
      by_cases l : g (1383 + 7 * k) = 1
      · have i3 : i = 3 := by
          rcases hq with q | q
          · omega
          · exact absurd (hdm.mpr l) q
        refine kk τ h i hh (hI.trans ⟨fun ⟨y, y0, y1, y2⟩ => ⟨l, y, y0, by omega, y2⟩, fun ⟨_, y, y0, y1, y2⟩ => ⟨y, y0, by omega, y2⟩⟩) ?_
        rw [hτ, i3, ml_N_c (t' := 1383 + 7 * (k + 1)) (by omega) (fun j j0 j1 j2 j3 j4 _ => absurd j4 (by omega))]
      · have i0 : i = 0 := hL.resolve_left l
        refine kk τ h i hh (hI.trans ⟨fun ⟨y, y0, y1, y2⟩ => absurd y0 (by omega), fun q => absurd q.1 l⟩) ?_
        rw [hτ, i0, ml_N_c (t' := 1383 + 7 * (k + 1)) (by omega) (fun j j0 j1 j2 j3 j4 j5 => absurd (by rw [show (j - 1383) / 7 = k by omega] at j5; exact j5) l)]
    refine a_iload (pc := 162) (i := 7) (by decide +kernel) rfl ?_
    refine a_iconst (pc := 164) (n := 3) (by decide +kernel) ?_
    refine a_icmp_ge (pc := 165) (off := 50) (tgt := 215) (by decide +kernel) (by decide) (by omega) (by omega) (fun c165 => ?_) (fun c165 => ?_)
    · first | exact e215 (Or.inl c165) | exact e215 (Or.inr p171)
    · refine a_aload_n (pc := 168) (i := 0) (by decide +kernel) rfl ?_
      refine a_iload (pc := 169) (i := 5) (by decide +kernel) rfl ?_
      refine b_callV (pc := 171) (c' := 0) (sl' := 0) [j_i k] [] ml_X12_254 (by decide +kernel) rfl rfl (sh_68 hn) rfl rfl (Nat.le_of_ble_eq_true rfl) (j_fitI rfl rfl) (s_disMark hn hgt (by omega) hEt) (fun v n' σ' hq => ?_)
      obtain ⟨x, rfl, e1, e2, hx⟩ := hq
      rw [e1, e2]; clear e1 e2
      rcases hx with ⟨rfl, p171⟩ | ⟨rfl, p171⟩
      · show j_at _ _ _ [(0, .ref 68), (1, j_i a), (2, j_i b), (4, j_i c), (5, j_i k), (6, j_i h), (7, j_i i)] [j_i 1] _ _ _ _
        refine a_if_eq (pc := 174) (off := 41) (tgt := 215) (by decide +kernel) (by decide) (by omega) (fun c174 => ?_) (fun c174 => ?_)
        · exact absurd c174 (by decide)
        · refine a_aload_n (pc := 177) (i := 0) (by decide +kernel) rfl ?_
          refine a_iload (pc := 178) (i := 5) (by decide +kernel) rfl ?_
          refine a_iload (pc := 180) (i := 7) (by decide +kernel) rfl ?_
          refine b_pureV (pc := 182) [j_i k, j_i i] [] ml_X12_260 (by decide +kernel) rfl rfl (sh_68 hn) rfl rfl (Nat.le_of_ble_eq_true rfl) (j_fitI rfl rfl) (s_dheadOf hn (by omega) (by omega)) ?_
          rw [show τ.1 69 (1383 + 7 * k + 3 + i) = g (1383 + 7 * k + 3 + i) by rw [hτ, k_AA, ml_N_at (Int.le_refl _)]]
          have qg := hg (1383 + 7 * k + 3 + i)
          show j_at _ _ _ [(0, .ref 68), (1, j_i a), (2, j_i b), (4, j_i c), (5, j_i k), (6, j_i h), (7, j_i i)] [j_i (g (1383 + 7 * k + 3 + i))] _ _ _ _
          refine a_iload_n (pc := 185) (i := 1) (by decide +kernel) rfl ?_
          refine a_icmp_ne (pc := 186) (off := 23) (tgt := 209) (by decide +kernel) (by decide) (by omega) (by omega) (fun c186 => ?_) (fun c186 => ?_)
          · refine a_iinc (pc := 209) (i := 7) (n := 1) (x := i) (lv' := [(0, .ref 68), (1, j_i a), (2, j_i b), (4, j_i c), (5, j_i k), (6, j_i h), (7, j_i (i + 1))]) (by decide +kernel) rfl (Nat.le_of_ble_eq_true rfl) rfl ?_
            refine a_goto (pc := 212) (off := -50) (tgt := 162) (by decide +kernel) (by decide) ?_
            have hl := hdm.mp p171
            exact ih (i + 1) h τ (by omega) (by omega) (by omega) hh (hI.trans ⟨fun ⟨y, y0, y1, y2⟩ => ⟨y, y0, by omega, y2⟩, fun ⟨y, y0, y1, y2⟩ => ⟨y, y0, by have : y ≠ i := fun e => c186 (by rw [← e]; exact y2); omega, y2⟩⟩) (Or.inl hl) (by rw [hτ, ml_N_c (t' := 1383 + 7 * k + 3 + (i + 1)) (by omega) (fun j j0 j1 _ _ _ _ => by rw [show j = 1383 + 7 * k + 3 + i by omega]; exact c186)])
          · refine a_aload_n (pc := 189) (i := 0) (by decide +kernel) rfl ?_
            refine b_getR (pc := 190) (b := 69) fl_X12_7 (by decide +kernel) (sh_68 hn) rfl ?_
            refine a_aload_n (pc := 193) (i := 0) (by decide +kernel) rfl ?_
            refine a_iload (pc := 194) (i := 5) (by decide +kernel) rfl ?_
            refine b_pureV (pc := 196) [j_i k] [.ref 69] ml_X12_251 (by decide +kernel) rfl rfl (sh_68 hn) rfl rfl (Nat.le_of_ble_eq_true rfl) (j_fitI rfl rfl) (s_dmarkAt) ?_
            show j_at _ _ _ [(0, .ref 68), (1, j_i a), (2, j_i b), (4, j_i c), (5, j_i k), (6, j_i h), (7, j_i i)] [j_i (1383 + 7 * k), .ref 69] _ _ _ _
            refine a_iconst (pc := 199) (n := 3) (by decide +kernel) ?_
            refine a_iadd (pc := 200) (by decide +kernel) ?_
            refine a_iload (pc := 201) (i := 7) (by decide +kernel) rfl ?_
            refine a_iadd (pc := 203) (by decide +kernel) ?_
            refine a_iload_n (pc := 204) (i := 2) (by decide +kernel) rfl ?_
            refine b_iastore (pc := 205) (by decide +kernel) (sh_69 hn) (by omega) (by omega) (by omega) ?_
            obtain ⟨σ1, hσ1⟩ : ∃ z, z = k_sA τ 69 (j_up (τ.1 69) (((1383 + 7 * k) + 3) + i) b) := ⟨_, rfl⟩
            rw [← hσ1]
            refine a_iconst (pc := 206) (n := 1) (by decide +kernel) ?_
            refine a_istore (pc := 207) (i := 6) (lv' := [(0, .ref 68), (1, j_i a), (2, j_i b), (4, j_i c), (5, j_i k), (6, j_i 1), (7, j_i i)]) (by decide +kernel) (Nat.le_of_ble_eq_true rfl) rfl ?_
            refine a_iinc (pc := 209) (i := 7) (n := 1) (x := i) (lv' := [(0, .ref 68), (1, j_i a), (2, j_i b), (4, j_i c), (5, j_i k), (6, j_i 1), (7, j_i (i + 1))]) (by decide +kernel) rfl (Nat.le_of_ble_eq_true rfl) rfl ?_
            refine a_goto (pc := 212) (off := -50) (tgt := 162) (by decide +kernel) (by decide) ?_
            have hl := hdm.mp p171
            exact ih (i + 1) 1 σ1 (by omega) (by omega) (by omega) (Or.inr rfl) ⟨fun _ => ⟨i, by omega, by omega, by omega⟩, fun _ => rfl⟩ (Or.inl hl) (by rw [hσ1, hτ, k_AA, k_sA2, ml_N_w hk.1 h0 (by omega) hl (by omega)])
      · show j_at _ _ _ [(0, .ref 68), (1, j_i a), (2, j_i b), (4, j_i c), (5, j_i k), (6, j_i h), (7, j_i i)] [j_i 0] _ _ _ _
        refine a_if_eq (pc := 174) (off := 41) (tgt := 215) (by decide +kernel) (by decide) (by omega) (fun c174 => ?_) (fun c174 => ?_)
        · first | exact e215 (Or.inl c165) | exact e215 (Or.inr p171)
        · exact absurd c174 (by decide)
set_option maxHeartbeats 4000000 in
theorem l_dmeld147 {G : j_G} {X : k_X} {n : Nat} {ρ : k_St} (hn : 101 ≤ n) {a b N : Int} {g : Int → Int} (ha : 0 ≤ a ∧ a ≤ 29) (hb : 0 ≤ b ∧ b ≤ 29) (hg : d_rg g) (hN : g 1382 = N) (hN5 : 0 ≤ N ∧ N ≤ 50) {Q : k_P} (kk : ∀ (τ : k_St), τ = k_sA ρ 69 (ml_N a b g (1383 + 7 * N)) → ∀ k', j_at G mX12_meld 236 [(0, .ref 68), (1, j_i a), (2, j_i b), (4, j_i (f_count (ml_B a g) N.toNat)), (5, j_i k')] [] (k_h X n τ) 0 0 (k_Q X Q))  : ∀ (z : Nat) (k c : Int) (τ : k_St), 50 - k < (z : Int) → 0 ≤ k → k ≤ N → c = f_count (ml_B a g) k.toNat → τ = k_sA ρ 69 (ml_N a b g (1383 + 7 * k)) → j_at G mX12_meld 147 [(0, .ref 68), (1, j_i a), (2, j_i b), (4, j_i c), (5, j_i k)] [] (k_h X n τ) 0 0 (k_Q X Q) := by
  intro z
  induction z with
  | zero => intro k c τ h1 h2 h3; exact absurd h1 (by omega)
  | succ z ih =>
    intro k c τ hz h0 hkN hc hτ
    refine a_iload (pc := 147) (i := 5) (by decide +kernel) rfl ?_
    refine a_aload_n (pc := 149) (i := 0) (by decide +kernel) rfl ?_
    refine b_pureV (pc := 150) [] [j_i k] ml_X12_135 (by decide +kernel) rfl rfl (sh_68 hn) rfl rfl (Nat.le_of_ble_eq_true rfl) (j_fitI rfl rfl) (s_dmarksEver hn) ?_
    rw [show τ.1 69 1382 = N by rw [hτ, k_AA, ml_N_o (by omega), hN]]
    show j_at _ _ _ [(0, .ref 68), (1, j_i a), (2, j_i b), (4, j_i c), (5, j_i k)] [j_i N, j_i k] _ _ _ _
    refine a_icmp_ge (pc := 153) (off := 83) (tgt := 236) (by decide +kernel) (by decide) (by omega) (by omega) (fun c153 => ?_) (fun c153 => ?_)
    · rw [show k = N by omega] at hτ hc
      rw [hc]
      exact kk τ hτ k
    · refine a_iconst (pc := 156) (n := 0) (by decide +kernel) ?_
      refine a_istore (pc := 157) (i := 6) (lv' := [(0, .ref 68), (1, j_i a), (2, j_i b), (4, j_i c), (5, j_i k), (6, j_i 0)]) (by decide +kernel) (Nat.le_of_ble_eq_true rfl) rfl ?_
      refine a_iconst (pc := 159) (n := 0) (by decide +kernel) ?_
      refine a_istore (pc := 160) (i := 7) (lv' := [(0, .ref 68), (1, j_i a), (2, j_i b), (4, j_i c), (5, j_i k), (6, j_i 0), (7, j_i 0)]) (by decide +kernel) (Nat.le_of_ble_eq_true rfl) rfl ?_
      refine l_dmeld162 hn ha hb hg hN hN5 ⟨h0, by omega⟩ (fun τ2 h' i' hb1 hb2 hτ2 => ?_) 4 0 0 τ (by omega) (by omega) (by omega) (Or.inl rfl) ⟨fun q => absurd q (by omega), fun ⟨y, y0, y1, _⟩ => absurd y0 (by omega)⟩ (Or.inr rfl) (by rw [hτ, ml_N_c (t' := 1383 + 7 * k + 3 + 0) (by omega) (fun j j0 j1 j2 j3 j4 _ => absurd j3 (by omega))])
      refine a_iload (pc := 215) (i := 4) (by decide +kernel) rfl ?_
      refine a_iload (pc := 217) (i := 6) (by decide +kernel) rfl ?_
      refine a_if_eq (pc := 219) (off := 7) (tgt := 226) (by decide +kernel) (by decide) (by omega) (fun c219 => ?_) (fun c219 => ?_)
      · refine a_iconst (pc := 226) (n := 0) (by decide +kernel) ?_
        refine a_iadd (pc := 227) (by decide +kernel) ?_
        refine a_istore (pc := 228) (i := 4) (lv' := [(0, .ref 68), (1, j_i a), (2, j_i b), (4, j_i (c + 0)), (5, j_i k), (6, j_i h'), (7, j_i i')]) (by decide +kernel) (Nat.le_of_ble_eq_true rfl) rfl ?_
        refine a_iinc (pc := 230) (i := 5) (n := 1) (x := k) (lv' := [(0, .ref 68), (1, j_i a), (2, j_i b), (4, j_i (c + 0)), (5, j_i (k + 1)), (6, j_i h'), (7, j_i i')]) (by decide +kernel) rfl (Nat.le_of_ble_eq_true rfl) rfl ?_
        refine a_goto (pc := 233) (off := -86) (tgt := 147) (by decide +kernel) (by decide) ?_
        have ec : c + 0 = f_count (ml_B a g) (k + 1).toNat := by rw [f_count_n h0 (by unfold ml_B; rw [decide_eq_false_iff_not]; exact fun q => absurd (hb2.mpr ⟨q.1, ml_ex.mpr q.2⟩) (by omega)), hc]; omega
        exact a_sub (lv' := [(0, .ref 68), (1, j_i a), (2, j_i b), (4, j_i (c + 0)), (5, j_i (k + 1))]) (fun q hq => by simp only [List.mem_cons, List.not_mem_nil, or_false] at hq ⊢; rcases hq with rfl | rfl | rfl | rfl | rfl <;> simp) (ih (k + 1) (c + 0) τ2 (by omega) (by omega) (by omega) ec hτ2)
      · refine a_iconst (pc := 222) (n := 1) (by decide +kernel) ?_
        refine a_goto (pc := 223) (off := 4) (tgt := 227) (by decide +kernel) (by decide) ?_
        refine a_iadd (pc := 227) (by decide +kernel) ?_
        refine a_istore (pc := 228) (i := 4) (lv' := [(0, .ref 68), (1, j_i a), (2, j_i b), (4, j_i (c + 1)), (5, j_i k), (6, j_i h'), (7, j_i i')]) (by decide +kernel) (Nat.le_of_ble_eq_true rfl) rfl ?_
        refine a_iinc (pc := 230) (i := 5) (n := 1) (x := k) (lv' := [(0, .ref 68), (1, j_i a), (2, j_i b), (4, j_i (c + 1)), (5, j_i (k + 1)), (6, j_i h'), (7, j_i i')]) (by decide +kernel) rfl (Nat.le_of_ble_eq_true rfl) rfl ?_
        refine a_goto (pc := 233) (off := -86) (tgt := 147) (by decide +kernel) (by decide) ?_
        have ec : c + 1 = f_count (ml_B a g) (k + 1).toNat := by rw [f_count_y h0 (by unfold ml_B; rw [decide_eq_true_iff]; exact ⟨(hb2.mp (by omega)).1, ml_ex.mp (hb2.mp (by omega)).2⟩), hc]
        exact a_sub (lv' := [(0, .ref 68), (1, j_i a), (2, j_i b), (4, j_i (c + 1)), (5, j_i (k + 1))]) (fun q hq => by simp only [List.mem_cons, List.not_mem_nil, or_false] at hq ⊢; rcases hq with rfl | rfl | rfl | rfl | rfl <;> simp) (ih (k + 1) (c + 1) τ2 (by omega) (by omega) (by omega) ec hτ2)
