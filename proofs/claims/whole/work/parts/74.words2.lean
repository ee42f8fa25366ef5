set_option maxHeartbeats 4000000 in
theorem l_dputg {G : j_G} {X : k_X} {n : Nat} {ρ : k_St} (hn : 101 ≤ n) {i w M : Int} {f : Int → Int} (hi : 0 ≤ i ∧ i ≤ 300) (hM : f 1382 = M) (hM5 : 0 ≤ M ∧ M ≤ 50) (hgr : ∀ m, 0 ≤ m → m < M → 0 ≤ f (1383 + 7 * m + 2) ∧ f (1383 + 7 * m + 2) ≤ 300) {Q : k_P} (kk : ∀ τ, τ = k_sA ρ 69 (d_gm (fun x => if i < x then x + 1 else x) f M) → ∀ k, j_at G mX12_put 140 [(0, .ref 68), (1, j_i i), (2, j_i w), (3, j_i k)] [] (k_h X n τ) 0 0 (k_Q X Q))  : ∀ (m : Nat) (k : Int) (τ : k_St), 50 - k < (m : Int) → 0 ≤ k → k ≤ M → τ = k_sA ρ 69 (d_gm (fun x => if i < x then x + 1 else x) f k) → j_at G mX12_put 94 [(0, .ref 68), (1, j_i i), (2, j_i w), (3, j_i k)] [] (k_h X n τ) 0 0 (k_Q X Q) := by
  intro m
  induction m with
  | zero => intro k τ h1 h2 h3; exact absurd h1 (by omega)
  | succ m ih =>
    intro k τ hm h0 hN hτ
    refine a_iload_n (pc := 94) (i := 3) (by decide +kernel) rfl ?_
    refine a_aload_n (pc := 95) (i := 0) (by decide +kernel) rfl ?_
    refine b_pureV (pc := 96) [] [j_i k] ml_X12_135 (by decide +kernel) rfl rfl (sh_68 hn) rfl rfl (Nat.le_of_ble_eq_true rfl) (j_fitI rfl rfl) (s_dmarksEver hn) ?_
    rw [show τ.1 69 1382 = M by rw [hτ, k_AA, d_gm_o (by omega), hM]]
    show j_at _ _ _ [(0, .ref 68), (1, j_i i), (2, j_i w), (3, j_i k)] [j_i M, j_i k] _ _ _ _
    refine a_icmp_ge (pc := 99) (off := 41) (tgt := 140) (by decide +kernel) (by decide) (by omega) (by omega) (fun c99 => ?_) (fun c99 => ?_)
    · exact kk τ (by rw [hτ, show k = M by omega]) k
    · refine a_aload_n (pc := 102) (i := 0) (by decide +kernel) rfl ?_
      refine b_getR (pc := 103) (b := 69) fl_X12_7 (by decide +kernel) (sh_68 hn) rfl ?_
      refine a_aload_n (pc := 106) (i := 0) (by decide +kernel) rfl ?_
      refine a_iload_n (pc := 107) (i := 3) (by decide +kernel) rfl ?_
      refine b_pureV (pc := 108) [j_i k] [.ref 69] ml_X12_138 (by decide +kernel) rfl rfl (sh_68 hn) rfl rfl (Nat.le_of_ble_eq_true rfl) (j_fitI rfl rfl) (s_dgapAt hn) ?_
      show j_at _ _ _ [(0, .ref 68), (1, j_i i), (2, j_i w), (3, j_i k)] [j_i (1383 + 7 * k + 2), .ref 69] _ _ _ _
      refine a_dup2 (pc := 111) (by decide +kernel) rfl rfl ?_
      have hx := hgr k h0 (by omega)
      refine b_iaload (pc := 112) (by decide +kernel) (sh_69 hn) (by omega) (by omega) (by omega) ?_
      rw [show τ.1 69 (1383 + 7 * k + 2) = f (1383 + 7 * k + 2) by rw [hτ, k_AA, d_gm_n (by omega)]]
      refine a_aload_n (pc := 113) (i := 0) (by decide +kernel) rfl ?_
      refine b_getR (pc := 114) (b := 69) fl_X12_7 (by decide +kernel) (sh_68 hn) rfl ?_
      refine a_aload_n (pc := 117) (i := 0) (by decide +kernel) rfl ?_
      refine a_iload_n (pc := 118) (i := 3) (by decide +kernel) rfl ?_
      refine b_pureV (pc := 119) [j_i k] [.ref 69, j_i (f (1383 + 7 * k + 2)), j_i (1383 + 7 * k + 2), .ref 69] ml_X12_138 (by decide +kernel) rfl rfl (sh_68 hn) rfl rfl (Nat.le_of_ble_eq_true rfl) (j_fitI rfl rfl) (s_dgapAt hn) ?_
      show j_at _ _ _ [(0, .ref 68), (1, j_i i), (2, j_i w), (3, j_i k)] [j_i (1383 + 7 * k + 2), .ref 69, j_i (f (1383 + 7 * k + 2)), j_i (1383 + 7 * k + 2), .ref 69] _ _ _ _
      refine b_iaload (pc := 122) (by decide +kernel) (sh_69 hn) (by omega) (by omega) (by omega) ?_
      rw [show τ.1 69 (1383 + 7 * k + 2) = f (1383 + 7 * k + 2) by rw [hτ, k_AA, d_gm_n (by omega)]]
      refine a_iload_n (pc := 123) (i := 1) (by decide +kernel) rfl ?_
      refine a_icmp_le (pc := 124) (off := 7) (tgt := 131) (by decide +kernel) (by decide) (by omega) (by omega) (fun c124 => ?_) (fun c124 => ?_)
      · refine a_iconst (pc := 131) (n := 0) (by decide +kernel) ?_
        refine a_iadd (pc := 132) (by decide +kernel) ?_
        refine b_iastore (pc := 133) (by decide +kernel) (sh_69 hn) (by omega) (by omega) (by omega) ?_
        obtain ⟨σ1, hσ1⟩ : ∃ z, z = k_sA τ 69 (j_up (τ.1 69) (1383 + 7 * k + 2) ((f (1383 + 7 * k + 2)) + 0)) := ⟨_, rfl⟩
        rw [← hσ1]
        refine a_iinc (pc := 134) (i := 3) (n := 1) (x := k) (lv' := [(0, .ref 68), (1, j_i i), (2, j_i w), (3, j_i (k + 1))]) (by decide +kernel) rfl (Nat.le_of_ble_eq_true rfl) rfl ?_
        refine a_goto (pc := 137) (off := -43) (tgt := 94) (by decide +kernel) (by decide) ?_
        exact ih (k + 1) σ1 (by omega) (by omega) (by omega) (by rw [hσ1, hτ, k_AA, k_sA2, d_gm_s h0 (by first | rw [if_pos (by omega)] | (rw [if_neg (by omega)]; omega))])
      · refine a_iconst (pc := 127) (n := 1) (by decide +kernel) ?_
        refine a_goto (pc := 128) (off := 4) (tgt := 132) (by decide +kernel) (by decide) ?_
        refine a_iadd (pc := 132) (by decide +kernel) ?_
        refine b_iastore (pc := 133) (by decide +kernel) (sh_69 hn) (by omega) (by omega) (by omega) ?_
        obtain ⟨σ2, hσ2⟩ : ∃ z, z = k_sA τ 69 (j_up (τ.1 69) (1383 + 7 * k + 2) ((f (1383 + 7 * k + 2)) + 1)) := ⟨_, rfl⟩
        rw [← hσ2]
        refine a_iinc (pc := 134) (i := 3) (n := 1) (x := k) (lv' := [(0, .ref 68), (1, j_i i), (2, j_i w), (3, j_i (k + 1))]) (by decide +kernel) rfl (Nat.le_of_ble_eq_true rfl) rfl ?_
        refine a_goto (pc := 137) (off := -43) (tgt := 94) (by decide +kernel) (by decide) ?_
        exact ih (k + 1) σ2 (by omega) (by omega) (by omega) (by rw [hσ2, hτ, k_AA, k_sA2, d_gm_s h0 (by first | rw [if_pos (by omega)] | (rw [if_neg (by omega)]; omega))])
set_option maxHeartbeats 4000000 in
theorem l_dtakeg {G : j_G} {X : k_X} {n : Nat} {ρ : k_St} (hn : 101 ≤ n) {i w M : Int} {f : Int → Int} (hi : 0 ≤ i ∧ i ≤ 300) (hM : f 1382 = M) (hM5 : 0 ≤ M ∧ M ≤ 50) (hgr : ∀ m, 0 ≤ m → m < M → 0 ≤ f (1383 + 7 * m + 2) ∧ f (1383 + 7 * m + 2) ≤ 300) {Q : k_P} (kk : ∀ τ, τ = k_sA ρ 69 (d_gm (fun x => if i < x then x - 1 else x) f M) → ∀ k, j_at G mX12_take 135 [(0, .ref 68), (1, j_i i), (2, j_i w), (3, j_i k)] [] (k_h X n τ) 0 0 (k_Q X Q))  : ∀ (m : Nat) (k : Int) (τ : k_St), 50 - k < (m : Int) → 0 ≤ k → k ≤ M → τ = k_sA ρ 69 (d_gm (fun x => if i < x then x - 1 else x) f k) → j_at G mX12_take 89 [(0, .ref 68), (1, j_i i), (2, j_i w), (3, j_i k)] [] (k_h X n τ) 0 0 (k_Q X Q) := by
  intro m
  induction m with
  | zero => intro k τ h1 h2 h3; exact absurd h1 (by omega)
  | succ m ih =>
    intro k τ hm h0 hN hτ
    refine a_iload_n (pc := 89) (i := 3) (by decide +kernel) rfl ?_
    refine a_aload_n (pc := 90) (i := 0) (by decide +kernel) rfl ?_
    refine b_pureV (pc := 91) [] [j_i k] ml_X12_135 (by decide +kernel) rfl rfl (sh_68 hn) rfl rfl (Nat.le_of_ble_eq_true rfl) (j_fitI rfl rfl) (s_dmarksEver hn) ?_
    rw [show τ.1 69 1382 = M by rw [hτ, k_AA, d_gm_o (by omega), hM]]
    show j_at _ _ _ [(0, .ref 68), (1, j_i i), (2, j_i w), (3, j_i k)] [j_i M, j_i k] _ _ _ _
    refine a_icmp_ge (pc := 94) (off := 41) (tgt := 135) (by decide +kernel) (by decide) (by omega) (by omega) (fun c94 => ?_) (fun c94 => ?_)
    · exact kk τ (by rw [hτ, show k = M by omega]) k
    · refine a_aload_n (pc := 97) (i := 0) (by decide +kernel) rfl ?_
      refine b_getR (pc := 98) (b := 69) fl_X12_7 (by decide +kernel) (sh_68 hn) rfl ?_
      refine a_aload_n (pc := 101) (i := 0) (by decide +kernel) rfl ?_
      refine a_iload_n (pc := 102) (i := 3) (by decide +kernel) rfl ?_
      refine b_pureV (pc := 103) [j_i k] [.ref 69] ml_X12_138 (by decide +kernel) rfl rfl (sh_68 hn) rfl rfl (Nat.le_of_ble_eq_true rfl) (j_fitI rfl rfl) (s_dgapAt hn) ?_
      show j_at _ _ _ [(0, .ref 68), (1, j_i i), (2, j_i w), (3, j_i k)] [j_i (1383 + 7 * k + 2), .ref 69] _ _ _ _
      refine a_dup2 (pc := 106) (by decide +kernel) rfl rfl ?_
      have hx := hgr k h0 (by omega)
      refine b_iaload (pc := 107) (by decide +kernel) (sh_69 hn) (by omega) (by omega) (by omega) ?_
      rw [show τ.1 69 (1383 + 7 * k + 2) = f (1383 + 7 * k + 2) by rw [hτ, k_AA, d_gm_n (by omega)]]
      refine a_aload_n (pc := 108) (i := 0) (by decide +kernel) rfl ?_
      refine b_getR (pc := 109) (b := 69) fl_X12_7 (by decide +kernel) (sh_68 hn) rfl ?_
      refine a_aload_n (pc := 112) (i := 0) (by decide +kernel) rfl ?_
      refine a_iload_n (pc := 113) (i := 3) (by decide +kernel) rfl ?_
      refine b_pureV (pc := 114) [j_i k] [.ref 69, j_i (f (1383 + 7 * k + 2)), j_i (1383 + 7 * k + 2), .ref 69] ml_X12_138 (by decide +kernel) rfl rfl (sh_68 hn) rfl rfl (Nat.le_of_ble_eq_true rfl) (j_fitI rfl rfl) (s_dgapAt hn) ?_
      show j_at _ _ _ [(0, .ref 68), (1, j_i i), (2, j_i w), (3, j_i k)] [j_i (1383 + 7 * k + 2), .ref 69, j_i (f (1383 + 7 * k + 2)), j_i (1383 + 7 * k + 2), .ref 69] _ _ _ _
      refine b_iaload (pc := 117) (by decide +kernel) (sh_69 hn) (by omega) (by omega) (by omega) ?_
      rw [show τ.1 69 (1383 + 7 * k + 2) = f (1383 + 7 * k + 2) by rw [hτ, k_AA, d_gm_n (by omega)]]
      refine a_iload_n (pc := 118) (i := 1) (by decide +kernel) rfl ?_
      refine a_icmp_le (pc := 119) (off := 7) (tgt := 126) (by decide +kernel) (by decide) (by omega) (by omega) (fun c119 => ?_) (fun c119 => ?_)
      · refine a_iconst (pc := 126) (n := 0) (by decide +kernel) ?_
        refine a_isub (pc := 127) (by decide +kernel) ?_
        refine b_iastore (pc := 128) (by decide +kernel) (sh_69 hn) (by omega) (by omega) (by omega) ?_
        obtain ⟨σ1, hσ1⟩ : ∃ z, z = k_sA τ 69 (j_up (τ.1 69) (1383 + 7 * k + 2) ((f (1383 + 7 * k + 2)) - 0)) := ⟨_, rfl⟩
        rw [← hσ1]
        refine a_iinc (pc := 129) (i := 3) (n := 1) (x := k) (lv' := [(0, .ref 68), (1, j_i i), (2, j_i w), (3, j_i (k + 1))]) (by decide +kernel) rfl (Nat.le_of_ble_eq_true rfl) rfl ?_
        refine a_goto (pc := 132) (off := -43) (tgt := 89) (by decide +kernel) (by decide) ?_
        exact ih (k + 1) σ1 (by omega) (by omega) (by omega) (by rw [hσ1, hτ, k_AA, k_sA2, d_gm_s h0 (by first | rw [if_pos (by omega)] | (rw [if_neg (by omega)]; omega))])
      · refine a_iconst (pc := 122) (n := 1) (by decide +kernel) ?_
        refine a_goto (pc := 123) (off := 4) (tgt := 127) (by decide +kernel) (by decide) ?_
        refine a_isub (pc := 127) (by decide +kernel) ?_
        refine b_iastore (pc := 128) (by decide +kernel) (sh_69 hn) (by omega) (by omega) (by omega) ?_
        obtain ⟨σ2, hσ2⟩ : ∃ z, z = k_sA τ 69 (j_up (τ.1 69) (1383 + 7 * k + 2) ((f (1383 + 7 * k + 2)) - 1)) := ⟨_, rfl⟩
        rw [← hσ2]
        refine a_iinc (pc := 129) (i := 3) (n := 1) (x := k) (lv' := [(0, .ref 68), (1, j_i i), (2, j_i w), (3, j_i (k + 1))]) (by decide +kernel) rfl (Nat.le_of_ble_eq_true rfl) rfl ?_
        refine a_goto (pc := 132) (off := -43) (tgt := 89) (by decide +kernel) (by decide) ?_
        exact ih (k + 1) σ2 (by omega) (by omega) (by omega) (by rw [hσ2, hτ, k_AA, k_sA2, d_gm_s h0 (by first | rw [if_pos (by omega)] | (rw [if_neg (by omega)]; omega))])
set_option maxHeartbeats 4000000 in
theorem l_dputw {G : j_G} {X : k_X} {n : Nat} {ρ : k_St} (hn : 101 ≤ n) {i w W : Int} {g : Int → Int} (hi : 0 ≤ i ∧ i ≤ W) (hW : W < 300) {Q : k_P} (kk : ∀ τ, τ = k_sA ρ 69 (j_cpy g g (i + 1) (i + 2) (W - i)) → ∀ k, j_at G mX12_put 73 [(0, .ref 68), (1, j_i i), (2, j_i w), (3, j_i k)] [] (k_h X n τ) 0 0 (k_Q X Q))  : ∀ (m : Nat) (k : Int) (τ : k_St), k - i < (m : Int) → i ≤ k → k ≤ W → τ = k_sA ρ 69 (j_cpy g g (k + 1) (k + 2) (W - k)) → j_at G mX12_put 48 [(0, .ref 68), (1, j_i i), (2, j_i w), (3, j_i k)] [] (k_h X n τ) 0 0 (k_Q X Q) := by
  intro m
  induction m with
  | zero => intro k τ h1 h2 h3; exact absurd h1 (by omega)
  | succ m ih =>
    intro k τ hm h0 hN hτ
    refine a_iload_n (pc := 48) (i := 3) (by decide +kernel) rfl ?_
    refine a_iload_n (pc := 49) (i := 1) (by decide +kernel) rfl ?_
    refine a_icmp_le (pc := 50) (off := 23) (tgt := 73) (by decide +kernel) (by decide) (by omega) (by omega) (fun c50 => ?_) (fun c50 => ?_)
    · exact kk τ (by rw [hτ, show k = i by omega]) k
    · refine a_aload_n (pc := 53) (i := 0) (by decide +kernel) rfl ?_
      refine b_getR (pc := 54) (b := 69) fl_X12_7 (by decide +kernel) (sh_68 hn) rfl ?_
      refine a_iconst (pc := 57) (n := 1) (by decide +kernel) ?_
      refine a_iload_n (pc := 58) (i := 3) (by decide +kernel) rfl ?_
      refine a_iadd (pc := 59) (by decide +kernel) ?_
      refine a_aload_n (pc := 60) (i := 0) (by decide +kernel) rfl ?_
      refine b_getR (pc := 61) (b := 69) fl_X12_7 (by decide +kernel) (sh_68 hn) rfl ?_
      refine a_iload_n (pc := 64) (i := 3) (by decide +kernel) rfl ?_
      refine b_iaload (pc := 65) (by decide +kernel) (sh_69 hn) (by omega) (by omega) (by omega) ?_
      rw [show τ.1 69 k = g k by rw [hτ, k_AA]; unfold j_cpy; rw [if_neg (by omega)]]
      refine b_iastore (pc := 66) (by decide +kernel) (sh_69 hn) (by omega) (by omega) (by omega) ?_
      obtain ⟨σ1, hσ1⟩ : ∃ z, z = k_sA τ 69 (j_up (τ.1 69) (1 + k) (g k)) := ⟨_, rfl⟩
      rw [← hσ1]
      refine a_iinc (pc := 67) (i := 3) (n := -1) (x := k) (lv' := [(0, .ref 68), (1, j_i i), (2, j_i w), (3, j_i (k + (-1)))]) (by decide +kernel) rfl (Nat.le_of_ble_eq_true rfl) rfl ?_
      refine a_goto (pc := 70) (off := -22) (tgt := 48) (by decide +kernel) (by decide) ?_
      exact ih (k + -1) σ1 (by omega) (by omega) (by omega) (by rw [hσ1, hτ, k_AA, k_sA2, j_cpy_dn (by omega), show k + -1 + 1 = k by omega, show k + -1 + 2 = k + 1 by omega])
set_option maxHeartbeats 4000000 in
theorem e_put {G : j_G} {X : k_X} {n : Nat} {σ : k_St} (hn : 101 ≤ n) (hg : ∀ i : Int, -128 ≤ σ.1 69 i ∧ σ.1 69 i ≤ 9999) (hgr : (0 ≤ σ.1 69 0 ∧ σ.1 69 0 ≤ 300) ∧ (0 ≤ σ.1 69 301 ∧ σ.1 69 301 ≤ 30) ∧ (0 ≤ σ.1 69 1382 ∧ σ.1 69 1382 ≤ 50)) (hf4 : 0 ≤ σ.2.1 68 4 ∧ σ.2.1 68 4 < 40) (hm5 : 0 ≤ σ.2.1 68 5 ∧ σ.2.1 68 5 ≤ 40) (hgg : ∀ m, 0 ≤ m → m < σ.1 69 1382 → 0 ≤ σ.1 69 (1383 + 7 * m + 2) ∧ σ.1 69 (1383 + 7 * m + 2) ≤ 300) {i : Int} (hi : -2147483648 ≤ i ∧ i ≤ 2147483647) {w : Int} (hw : -2147483648 ≤ w ∧ w ≤ 2147483647)  : k_run G X mX12_put [.ref 68, j_i i, j_i w] n σ 0 0 (fun v n' σ' => (¬ ((0 ≤ i ∧ i ≤ σ.1 69 0) ∧ (0 ≤ w ∧ w ≤ 9999)) ∧ v = some (j_i (-2)) ∧ n' = n ∧ σ' = σ) ∨ (((0 ≤ i ∧ i ≤ σ.1 69 0) ∧ (0 ≤ w ∧ w ≤ 9999)) ∧ 300 ≤ σ.1 69 0 ∧ v = some (j_i (-4)) ∧ n' = n ∧ σ' = σ) ∨ (((0 ≤ i ∧ i ≤ σ.1 69 0) ∧ (0 ≤ w ∧ w ≤ 9999)) ∧ σ.1 69 0 < 300 ∧ v = some (j_i (σ.1 69 0 + 1)) ∧ n' = n ∧ σ' = k_sA (d_kp σ) 69 (d_gm (fun x => if i < x then x + 1 else x) (j_up (j_up (j_cpy (σ.1 69) (σ.1 69) (i + 1) (i + 2) (σ.1 69 0 - i)) (1 + i) w) 0 (σ.1 69 0 + 1)) (σ.1 69 1382)))) := by
  obtain ⟨hgW, hgE, hgM⟩ := hgr
  refine k_enter (by decide +kernel) (Nat.le_of_ble_eq_true rfl) ?_
  show j_at _ _ _ [(0, .ref 68), (1, j_i i), (2, j_i w)] [] _ _ _ _
  refine a_iload_n (pc := 0) (i := 1) (by decide +kernel) rfl ?_
  refine a_iconst (pc := 1) (n := 0) (by decide +kernel) ?_
  refine a_aload_n (pc := 2) (i := 0) (by decide +kernel) rfl ?_
  refine b_pureV (pc := 3) [] [j_i 0, j_i i] ml_X12_124 (by decide +kernel) rfl rfl (sh_68 hn) rfl rfl (Nat.le_of_ble_eq_true rfl) (j_fitI rfl rfl) (s_dwords hn) ?_
  have q1 := hg 0
  show j_at _ _ _ [(0, .ref 68), (1, j_i i), (2, j_i w)] [j_i (σ.1 69 0), j_i 0, j_i i] _ _ _ _
  refine b_callS (pc := 6) (c' := 0) (sl' := 0) [j_i i, j_i 0, j_i (σ.1 69 0)] [] ml_X12_128 (by decide +kernel) rfl rfl (Nat.le_of_ble_eq_true rfl) (j_fitI rfl rfl) (s_dwithin (by omega) (by omega) (by omega)) (fun v n' σ' hq => ?_)
  obtain ⟨x, rfl, e1, e2, hx⟩ := hq
  rw [e1, e2]; clear e1 e2
  rcases hx with ⟨rfl, p6⟩ | ⟨rfl, p6⟩
  · show j_at _ _ _ [(0, .ref 68), (1, j_i i), (2, j_i w)] [j_i 1] _ _ _ _
    refine a_if_eq (pc := 9) (off := 14) (tgt := 23) (by decide +kernel) (by decide) (by omega) (fun c9 => ?_) (fun c9 => ?_)
    · exact absurd c9 (by decide)
    · refine a_iload_n (pc := 12) (i := 2) (by decide +kernel) rfl ?_
      refine a_iconst (pc := 13) (n := 0) (by decide +kernel) ?_
      refine a_sipush (pc := 14) (n := 9999) (by decide +kernel) rfl ?_
      refine b_callS (pc := 17) (c' := 0) (sl' := 0) [j_i w, j_i 0, j_i 9999] [] ml_X12_128 (by decide +kernel) rfl rfl (Nat.le_of_ble_eq_true rfl) (j_fitI rfl rfl) (s_dwithin (by omega) (by omega) (by omega)) (fun v n' σ' hq => ?_)
      obtain ⟨x, rfl, e1, e2, hx⟩ := hq
      rw [e1, e2]; clear e1 e2
      rcases hx with ⟨rfl, p17⟩ | ⟨rfl, p17⟩
      · show j_at _ _ _ [(0, .ref 68), (1, j_i i), (2, j_i w)] [j_i 1] _ _ _ _
        refine a_if_ne (pc := 20) (off := 6) (tgt := 26) (by decide +kernel) (by decide) (by omega) (fun c20 => ?_) (fun c20 => ?_)
        · refine a_aload_n (pc := 26) (i := 0) (by decide +kernel) rfl ?_
          refine b_pureV (pc := 27) [] [] ml_X12_124 (by decide +kernel) rfl rfl (sh_68 hn) rfl rfl (Nat.le_of_ble_eq_true rfl) (j_fitI rfl rfl) (s_dwords hn) ?_
          have q2 := hg 0
          show j_at _ _ _ [(0, .ref 68), (1, j_i i), (2, j_i w)] [j_i (σ.1 69 0)] _ _ _ _
          refine a_sipush (pc := 30) (n := 300) (by decide +kernel) rfl ?_
          refine a_icmp_ne (pc := 33) (off := 6) (tgt := 39) (by decide +kernel) (by decide) (by omega) (by omega) (fun c33 => ?_) (fun c33 => ?_)
          · refine a_aload_n (pc := 39) (i := 0) (by decide +kernel) rfl ?_
            refine b_callV (pc := 40) (c' := 0) (sl' := 0) [] [] ml_X12_132 (by decide +kernel) rfl rfl (sh_68 hn) rfl rfl (Nat.le_of_ble_eq_true rfl) (j_fitI rfl rfl) (s_dkeep hn hf4 hm5) (fun v n' σ' hq => ?_)
            obtain ⟨rfl, e1, e2⟩ := hq
            rw [e1, e2]; clear e1 e2
            obtain ⟨σ3, hσ3⟩ : ∃ z, z = d_kp σ := ⟨_, rfl⟩
            rw [← hσ3]
            show j_at _ _ _ [(0, .ref 68), (1, j_i i), (2, j_i w)] [] _ _ _ _
            refine a_aload_n (pc := 43) (i := 0) (by decide +kernel) rfl ?_
            refine b_pureV (pc := 44) [] [] ml_X12_124 (by decide +kernel) rfl rfl (sh_68 hn) rfl rfl (Nat.le_of_ble_eq_true rfl) (j_fitI rfl rfl) (s_dwords hn) ?_
            rw [show σ3.1 69 = σ.1 69 by rw [hσ3]; exact d_kp_69 (by omega)]
            show j_at _ _ _ [(0, .ref 68), (1, j_i i), (2, j_i w)] [j_i (σ.1 69 0)] _ _ _ _
            refine a_istore_n (pc := 47) (i := 3) (lv' := [(0, .ref 68), (1, j_i i), (2, j_i w), (3, j_i (σ.1 69 0))]) (by decide +kernel) (Nat.le_of_ble_eq_true rfl) rfl ?_
            have hk69 : σ3.1 69 = σ.1 69 := by rw [hσ3]; exact d_kp_69 (by omega)
            refine l_dputw (ρ := σ3) (W := σ.1 69 0) (g := σ.1 69) hn (by omega) (by omega) (fun τ1 hτ1 k9 => ?_) 302 (σ.1 69 0) σ3 (by omega) (by omega) (by omega) (by rw [show σ.1 69 0 - σ.1 69 0 = 0 by omega, j_cpy_0, ← hk69, k_sA0])
            refine a_aload_n (pc := 73) (i := 0) (by decide +kernel) rfl ?_
            refine b_getR (pc := 74) (b := 69) fl_X12_7 (by decide +kernel) (sh_68 hn) rfl ?_
            refine a_iconst (pc := 77) (n := 1) (by decide +kernel) ?_
            refine a_iload_n (pc := 78) (i := 1) (by decide +kernel) rfl ?_
            refine a_iadd (pc := 79) (by decide +kernel) ?_
            refine a_iload_n (pc := 80) (i := 2) (by decide +kernel) rfl ?_
            refine b_iastore (pc := 81) (by decide +kernel) (sh_69 hn) (by omega) (by omega) (by omega) ?_
            obtain ⟨σ51, hσ51⟩ : ∃ z, z = k_sA τ1 69 (j_up (τ1.1 69) (1 + i) w) := ⟨_, rfl⟩
            rw [← hσ51]
            refine a_aload_n (pc := 82) (i := 0) (by decide +kernel) rfl ?_
            refine b_getR (pc := 83) (b := 69) fl_X12_7 (by decide +kernel) (sh_68 hn) rfl ?_
            refine a_iconst (pc := 86) (n := 0) (by decide +kernel) ?_
            refine a_dup2 (pc := 87) (by decide +kernel) rfl rfl ?_
            refine b_iaload (pc := 88) (by decide +kernel) (sh_69 hn) (by omega) (by omega) (by omega) ?_
            rw [show σ51.1 69 0 = σ.1 69 0 by rw [hσ51, k_AA, hτ1, k_AA, j_upN (by omega)]; unfold j_cpy; rw [if_neg (by omega)]]
            refine a_iconst (pc := 89) (n := 1) (by decide +kernel) ?_
            refine a_iadd (pc := 90) (by decide +kernel) ?_
            refine b_iastore (pc := 91) (by decide +kernel) (sh_69 hn) (by omega) (by omega) (by omega) ?_
            obtain ⟨σ52, hσ52⟩ : ∃ z, z = k_sA σ51 69 (j_up (σ51.1 69) 0 ((σ.1 69 0) + 1)) := ⟨_, rfl⟩
            rw [← hσ52]
            refine a_iconst (pc := 92) (n := 0) (by decide +kernel) ?_
            refine a_istore_n (pc := 93) (i := 3) (lv' := [(0, .ref 68), (1, j_i i), (2, j_i w), (3, j_i 0)]) (by decide +kernel) (Nat.le_of_ble_eq_true rfl) rfl ?_
            obtain ⟨f, hf⟩ : ∃ f, f = j_up (j_up (j_cpy (σ.1 69) (σ.1 69) (i + 1) (i + 2) (σ.1 69 0 - i)) (1 + i) w) 0 (σ.1 69 0 + 1) := ⟨_, rfl⟩
            have ef : ∀ j, i + 2 + (σ.1 69 0 - i) ≤ j → 1 ≤ j → f j = σ.1 69 j := fun j j0 j1 => by rw [hf, j_upN (by omega), j_upN (by omega)]; unfold j_cpy; rw [if_neg (by omega)]
            have hst : σ52 = k_sA σ3 69 (d_gm (fun x => if i < x then x + 1 else x) f 0) := by
              rw [d_gm_0, hf]
              rw [hσ52]
              rw [hσ51]
              rw [hτ1]
              simp only [k_AA, k_sA2]
            refine l_dputg hn (by omega) (ef 1382 (by omega) (by omega)) hgM (fun m m0 m1 => by rw [ef _ (by omega) (by omega)]; exact hgg m m0 m1) (fun τ2 hτ2 k8 => ?_) 51 0 σ52 (by omega) (by omega) (by omega) hst
            refine a_aload_n (pc := 140) (i := 0) (by decide +kernel) rfl ?_
            refine b_pureV (pc := 141) [] [] ml_X12_124 (by decide +kernel) rfl rfl (sh_68 hn) rfl rfl (Nat.le_of_ble_eq_true rfl) (j_fitI rfl rfl) (s_dwords hn) ?_
            rw [show τ2.1 69 0 = σ.1 69 0 + 1 by rw [hτ2, k_AA, d_gm_o (by omega), hf, j_upS]]
            show j_at _ _ _ [(0, .ref 68), (1, j_i i), (2, j_i w), (3, j_i k8)] [j_i (σ.1 69 0 + 1)] _ _ _ _
            refine a_ireturn (pc := 144) (by decide +kernel) rfl ?_
            refine k_ret ?_
            exact Or.inr (Or.inr ⟨by omega, by omega, rfl, rfl, by rw [hτ2, hf, hσ3]⟩)
          · refine a_bipush (pc := 36) (n := (-4)) (by decide +kernel) rfl ?_
            refine a_ireturn (pc := 38) (by decide +kernel) rfl ?_
            refine k_ret ?_
            first | exact Or.inl ⟨by omega, rfl, rfl, rfl⟩ | exact Or.inr (Or.inl ⟨by omega, by omega, rfl, rfl, rfl⟩)
        · exact absurd c20 (by decide)
      · show j_at _ _ _ [(0, .ref 68), (1, j_i i), (2, j_i w)] [j_i 0] _ _ _ _
        refine a_if_ne (pc := 20) (off := 6) (tgt := 26) (by decide +kernel) (by decide) (by omega) (fun c20 => ?_) (fun c20 => ?_)
        · exact absurd c20 (by decide)
        · refine a_bipush (pc := 23) (n := (-2)) (by decide +kernel) rfl ?_
          refine a_ireturn (pc := 25) (by decide +kernel) rfl ?_
          refine k_ret ?_
          first | exact Or.inl ⟨by omega, rfl, rfl, rfl⟩ | exact Or.inr (Or.inl ⟨by omega, by omega, rfl, rfl, rfl⟩)
  · show j_at _ _ _ [(0, .ref 68), (1, j_i i), (2, j_i w)] [j_i 0] _ _ _ _
    refine a_if_eq (pc := 9) (off := 14) (tgt := 23) (by decide +kernel) (by decide) (by omega) (fun c9 => ?_) (fun c9 => ?_)
    · refine a_bipush (pc := 23) (n := (-2)) (by decide +kernel) rfl ?_
      refine a_ireturn (pc := 25) (by decide +kernel) rfl ?_
      refine k_ret ?_
      first | exact Or.inl ⟨by omega, rfl, rfl, rfl⟩ | exact Or.inr (Or.inl ⟨by omega, by omega, rfl, rfl, rfl⟩)
    · exact absurd c9 (by decide)
theorem j_cpy_dn2 {g : Int → Int} {i k : Int} (h0 : i ≤ k) : j_up (j_cpy g g (i + 2) (i + 1) (k - i)) (1 + k) (g (2 + k)) = j_cpy g g (i + 2) (i + 1) (k + 1 - i) := by
  funext j
  unfold j_up j_cpy
  by_cases q : j = 1 + k
  · rw [if_pos q, if_pos (by omega), show i + 2 + (j - (i + 1)) = 2 + k by omega]
  · rw [if_neg q]
    by_cases r : i + 1 ≤ j ∧ j < i + 1 + (k - i)
    · rw [if_pos r, if_pos (by omega)]
    · rw [if_neg r, if_neg (by omega)]
set_option maxHeartbeats 4000000 in
theorem l_dtakew {G : j_G} {X : k_X} {n : Nat} {ρ : k_St} (hn : 101 ≤ n) {i w W : Int} {g : Int → Int} (hi : 0 ≤ i ∧ i < W) (hgW : g 0 = W) (hW : W ≤ 300) {Q : k_P} (kk : ∀ τ, τ = k_sA ρ 69 (j_cpy g g (i + 2) (i + 1) (W - 1 - i)) → ∀ k, j_at G mX12_take 63 [(0, .ref 68), (1, j_i i), (2, j_i w), (3, j_i k)] [] (k_h X n τ) 0 0 (k_Q X Q))  : ∀ (m : Nat) (k : Int) (τ : k_St), W - k < (m : Int) → i ≤ k → k ≤ W - 1 → τ = k_sA ρ 69 (j_cpy g g (i + 2) (i + 1) (k - i)) → j_at G mX12_take 31 [(0, .ref 68), (1, j_i i), (2, j_i w), (3, j_i k)] [] (k_h X n τ) 0 0 (k_Q X Q) := by
  intro m
  induction m with
  | zero => intro k τ h1 h2 h3; exact absurd h1 (by omega)
  | succ m ih =>
    intro k τ hm h0 hN hτ
    refine a_iload_n (pc := 31) (i := 3) (by decide +kernel) rfl ?_
    refine a_aload_n (pc := 32) (i := 0) (by decide +kernel) rfl ?_
    refine b_pureV (pc := 33) [] [j_i k] ml_X12_124 (by decide +kernel) rfl rfl (sh_68 hn) rfl rfl (Nat.le_of_ble_eq_true rfl) (j_fitI rfl rfl) (s_dwords hn) ?_
    rw [show τ.1 69 0 = W by rw [hτ, k_AA]; unfold j_cpy; rw [if_neg (by omega)]; exact hgW]
    show j_at _ _ _ [(0, .ref 68), (1, j_i i), (2, j_i w), (3, j_i k)] [j_i W, j_i k] _ _ _ _
    refine a_iconst (pc := 36) (n := 1) (by decide +kernel) ?_
    refine a_isub (pc := 37) (by decide +kernel) ?_
    refine a_icmp_ge (pc := 38) (off := 25) (tgt := 63) (by decide +kernel) (by decide) (by omega) (by omega) (fun c38 => ?_) (fun c38 => ?_)
    · exact kk τ (by rw [hτ, show k = W - 1 by omega]) k
    · refine a_aload_n (pc := 41) (i := 0) (by decide +kernel) rfl ?_
      refine b_getR (pc := 42) (b := 69) fl_X12_7 (by decide +kernel) (sh_68 hn) rfl ?_
      refine a_iconst (pc := 45) (n := 1) (by decide +kernel) ?_
      refine a_iload_n (pc := 46) (i := 3) (by decide +kernel) rfl ?_
      refine a_iadd (pc := 47) (by decide +kernel) ?_
      refine a_aload_n (pc := 48) (i := 0) (by decide +kernel) rfl ?_
      refine b_getR (pc := 49) (b := 69) fl_X12_7 (by decide +kernel) (sh_68 hn) rfl ?_
      refine a_iconst (pc := 52) (n := 2) (by decide +kernel) ?_
      refine a_iload_n (pc := 53) (i := 3) (by decide +kernel) rfl ?_
      refine a_iadd (pc := 54) (by decide +kernel) ?_
      refine b_iaload (pc := 55) (by decide +kernel) (sh_69 hn) (by omega) (by omega) (by omega) ?_
      rw [show τ.1 69 (2 + k) = g (2 + k) by rw [hτ, k_AA]; unfold j_cpy; rw [if_neg (by omega)]]
      refine b_iastore (pc := 56) (by decide +kernel) (sh_69 hn) (by omega) (by omega) (by omega) ?_
      obtain ⟨σ1, hσ1⟩ : ∃ z, z = k_sA τ 69 (j_up (τ.1 69) (1 + k) (g (2 + k))) := ⟨_, rfl⟩
      rw [← hσ1]
      refine a_iinc (pc := 57) (i := 3) (n := 1) (x := k) (lv' := [(0, .ref 68), (1, j_i i), (2, j_i w), (3, j_i (k + 1))]) (by decide +kernel) rfl (Nat.le_of_ble_eq_true rfl) rfl ?_
      refine a_goto (pc := 60) (off := -29) (tgt := 31) (by decide +kernel) (by decide) ?_
      exact ih (k + 1) σ1 (by omega) (by omega) (by omega) (by rw [hσ1, hτ, k_AA, k_sA2, j_cpy_dn2 (by omega)])
set_option maxHeartbeats 4000000 in
theorem e_take {G : j_G} {X : k_X} {n : Nat} {σ : k_St} (hn : 101 ≤ n) (hg : ∀ i : Int, -128 ≤ σ.1 69 i ∧ σ.1 69 i ≤ 9999) (hgr : (0 ≤ σ.1 69 0 ∧ σ.1 69 0 ≤ 300) ∧ (0 ≤ σ.1 69 301 ∧ σ.1 69 301 ≤ 30) ∧ (0 ≤ σ.1 69 1382 ∧ σ.1 69 1382 ≤ 50)) (hf4 : 0 ≤ σ.2.1 68 4 ∧ σ.2.1 68 4 < 40) (hm5 : 0 ≤ σ.2.1 68 5 ∧ σ.2.1 68 5 ≤ 40) (hgg : ∀ m, 0 ≤ m → m < σ.1 69 1382 → 0 ≤ σ.1 69 (1383 + 7 * m + 2) ∧ σ.1 69 (1383 + 7 * m + 2) ≤ 300) {i : Int} (hi : -2147483648 ≤ i ∧ i ≤ 2147483647)  : k_run G X mX12_take [.ref 68, j_i i] n σ 0 0 (fun v n' σ' => (¬ (0 ≤ i ∧ i < σ.1 69 0) ∧ v = some (j_i (-1)) ∧ n' = n ∧ σ' = σ) ∨ ((0 ≤ i ∧ i < σ.1 69 0) ∧ v = some (j_i (σ.1 69 (1 + i))) ∧ n' = n ∧ σ' = k_sA (d_kp σ) 69 (d_gm (fun x => if i < x then x - 1 else x) (j_up (j_up (j_cpy (σ.1 69) (σ.1 69) (i + 2) (i + 1) (σ.1 69 0 - 1 - i)) 0 (σ.1 69 0 - 1)) (1 + (σ.1 69 0 - 1)) 0) (σ.1 69 1382)))) := by
  obtain ⟨hgW, hgE, hgM⟩ := hgr
  refine k_enter (by decide +kernel) (Nat.le_of_ble_eq_true rfl) ?_
  show j_at _ _ _ [(0, .ref 68), (1, j_i i)] [] _ _ _ _
  refine a_iload_n (pc := 0) (i := 1) (by decide +kernel) rfl ?_
  refine a_iconst (pc := 1) (n := 0) (by decide +kernel) ?_
  refine a_aload_n (pc := 2) (i := 0) (by decide +kernel) rfl ?_
  refine b_pureV (pc := 3) [] [j_i 0, j_i i] ml_X12_124 (by decide +kernel) rfl rfl (sh_68 hn) rfl rfl (Nat.le_of_ble_eq_true rfl) (j_fitI rfl rfl) (s_dwords hn) ?_
  have q1 := hg 0
  show j_at _ _ _ [(0, .ref 68), (1, j_i i)] [j_i (σ.1 69 0), j_i 0, j_i i] _ _ _ _
  refine a_iconst (pc := 6) (n := 1) (by decide +kernel) ?_
  refine a_isub (pc := 7) (by decide +kernel) ?_
  refine b_callS (pc := 8) (c' := 0) (sl' := 0) [j_i i, j_i 0, j_i ((σ.1 69 0) - 1)] [] ml_X12_128 (by decide +kernel) rfl rfl (Nat.le_of_ble_eq_true rfl) (j_fitI rfl rfl) (s_dwithin (by omega) (by omega) (by omega)) (fun v n' σ' hq => ?_)
  obtain ⟨x, rfl, e1, e2, hx⟩ := hq
  rw [e1, e2]; clear e1 e2
  rcases hx with ⟨rfl, p8⟩ | ⟨rfl, p8⟩
  · show j_at _ _ _ [(0, .ref 68), (1, j_i i)] [j_i 1] _ _ _ _
    refine a_if_ne (pc := 11) (off := 5) (tgt := 16) (by decide +kernel) (by decide) (by omega) (fun c11 => ?_) (fun c11 => ?_)
    · refine a_aload_n (pc := 16) (i := 0) (by decide +kernel) rfl ?_
      refine b_callV (pc := 17) (c' := 0) (sl' := 0) [] [] ml_X12_132 (by decide +kernel) rfl rfl (sh_68 hn) rfl rfl (Nat.le_of_ble_eq_true rfl) (j_fitI rfl rfl) (s_dkeep hn hf4 hm5) (fun v n' σ' hq => ?_)
      obtain ⟨rfl, e1, e2⟩ := hq
      rw [e1, e2]; clear e1 e2
      obtain ⟨σ2, hσ2⟩ : ∃ z, z = d_kp σ := ⟨_, rfl⟩
      rw [← hσ2]
      show j_at _ _ _ [(0, .ref 68), (1, j_i i)] [] _ _ _ _
      refine a_aload_n (pc := 20) (i := 0) (by decide +kernel) rfl ?_
      refine b_getR (pc := 21) (b := 69) fl_X12_7 (by decide +kernel) (sh_68 hn) rfl ?_
      refine a_iconst (pc := 24) (n := 1) (by decide +kernel) ?_
      refine a_iload_n (pc := 25) (i := 1) (by decide +kernel) rfl ?_
      refine a_iadd (pc := 26) (by decide +kernel) ?_
      refine b_iaload (pc := 27) (by decide +kernel) (sh_69 hn) (by omega) (by omega) (by omega) ?_
      rw [show σ2.1 69 = σ.1 69 from (by rw [hσ2]; exact d_kp_69 (by omega))]
      have q3 := hg (1 + i)
      refine a_istore_n (pc := 28) (i := 2) (lv' := [(0, .ref 68), (1, j_i i), (2, j_i (σ.1 69 (1 + i)))]) (by decide +kernel) (Nat.le_of_ble_eq_true rfl) rfl ?_
      refine a_iload_n (pc := 29) (i := 1) (by decide +kernel) rfl ?_
      refine a_istore_n (pc := 30) (i := 3) (lv' := [(0, .ref 68), (1, j_i i), (2, j_i (σ.1 69 (1 + i))), (3, j_i i)]) (by decide +kernel) (Nat.le_of_ble_eq_true rfl) rfl ?_
      have hk69 : σ2.1 69 = σ.1 69 := by rw [hσ2]; exact d_kp_69 (by omega)
      refine l_dtakew (ρ := σ2) (W := σ.1 69 0) (g := σ.1 69) hn (by omega) rfl (by omega) (fun τ1 hτ1 k9 => ?_) 302 i σ2 (by omega) (by omega) (by omega) (by rw [show i - i = 0 by omega, j_cpy_0, ← hk69, k_sA0])
      refine a_aload_n (pc := 63) (i := 0) (by decide +kernel) rfl ?_
      refine b_getR (pc := 64) (b := 69) fl_X12_7 (by decide +kernel) (sh_68 hn) rfl ?_
      refine a_iconst (pc := 67) (n := 0) (by decide +kernel) ?_
      refine a_dup2 (pc := 68) (by decide +kernel) rfl rfl ?_
      refine b_iaload (pc := 69) (by decide +kernel) (sh_69 hn) (by omega) (by omega) (by omega) ?_
      rw [show τ1.1 69 0 = σ.1 69 0 by rw [hτ1, k_AA]; unfold j_cpy; rw [if_neg (by omega)]]
      refine a_iconst (pc := 70) (n := 1) (by decide +kernel) ?_
      refine a_isub (pc := 71) (by decide +kernel) ?_
      refine b_iastore (pc := 72) (by decide +kernel) (sh_69 hn) (by omega) (by omega) (by omega) ?_
      obtain ⟨σ51, hσ51⟩ : ∃ z, z = k_sA τ1 69 (j_up (τ1.1 69) 0 ((σ.1 69 0) - 1)) := ⟨_, rfl⟩
      rw [← hσ51]
      refine a_aload_n (pc := 73) (i := 0) (by decide +kernel) rfl ?_
      refine b_getR (pc := 74) (b := 69) fl_X12_7 (by decide +kernel) (sh_68 hn) rfl ?_
      refine a_iconst (pc := 77) (n := 1) (by decide +kernel) ?_
      refine a_aload_n (pc := 78) (i := 0) (by decide +kernel) rfl ?_
      refine b_getR (pc := 79) (b := 69) fl_X12_7 (by decide +kernel) (sh_68 hn) rfl ?_
      refine a_iconst (pc := 82) (n := 0) (by decide +kernel) ?_
      refine b_iaload (pc := 83) (by decide +kernel) (sh_69 hn) (by omega) (by omega) (by omega) ?_
      rw [show σ51.1 69 0 = σ.1 69 0 - 1 by rw [hσ51, k_AA, j_upS]]
      refine a_iadd (pc := 84) (by decide +kernel) ?_
      refine a_iconst (pc := 85) (n := 0) (by decide +kernel) ?_
      refine b_iastore (pc := 86) (by decide +kernel) (sh_69 hn) (by omega) (by omega) (by omega) ?_
      obtain ⟨σ52, hσ52⟩ : ∃ z, z = k_sA σ51 69 (j_up (σ51.1 69) (1 + (σ.1 69 0 - 1)) 0) := ⟨_, rfl⟩
      rw [← hσ52]
      refine a_iconst (pc := 87) (n := 0) (by decide +kernel) ?_
      refine a_istore_n (pc := 88) (i := 3) (lv' := [(0, .ref 68), (1, j_i i), (2, j_i (σ.1 69 (1 + i))), (3, j_i 0)]) (by decide +kernel) (Nat.le_of_ble_eq_true rfl) rfl ?_
      obtain ⟨f, hf⟩ : ∃ f, f = j_up (j_up (j_cpy (σ.1 69) (σ.1 69) (i + 2) (i + 1) (σ.1 69 0 - 1 - i)) 0 (σ.1 69 0 - 1)) (1 + (σ.1 69 0 - 1)) 0 := ⟨_, rfl⟩
      have ef : ∀ j, 301 ≤ j → f j = σ.1 69 j := fun j j0 => by rw [hf, j_upN (by omega), j_upN (by omega)]; unfold j_cpy; rw [if_neg (by omega)]
      have hst : σ52 = k_sA σ2 69 (d_gm (fun x => if i < x then x - 1 else x) f 0) := by
        rw [d_gm_0, hf]
        rw [hσ52]
        rw [hσ51]
        rw [hτ1]
        simp only [k_AA, k_sA2]
      refine l_dtakeg hn (by omega) (ef 1382 (by omega)) hgM (fun m m0 m1 => by rw [ef _ (by omega)]; exact hgg m m0 m1) (fun τ2 hτ2 k8 => ?_) 51 0 σ52 (by omega) (by omega) (by omega) hst
      refine a_iload_n (pc := 135) (i := 2) (by decide +kernel) rfl ?_
      refine a_ireturn (pc := 136) (by decide +kernel) rfl ?_
      refine k_ret ?_
      exact Or.inr ⟨by omega, rfl, rfl, by rw [hτ2, hf, hσ2]⟩
    · exact absurd c11 (by decide)
  · show j_at _ _ _ [(0, .ref 68), (1, j_i i)] [j_i 0] _ _ _ _
    refine a_if_ne (pc := 11) (off := 5) (tgt := 16) (by decide +kernel) (by decide) (by omega) (fun c11 => ?_) (fun c11 => ?_)
    · exact absurd c11 (by decide)
    · refine a_iconst (pc := 14) (n := (-1)) (by decide +kernel) ?_
      refine a_ireturn (pc := 15) (by decide +kernel) rfl ?_
      refine k_ret ?_
      exact Or.inl ⟨by omega, rfl, rfl, rfl⟩
