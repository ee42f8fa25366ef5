/-! The Model: what its small methods answer. Its words, heads and marks lie in one array, 69. -/
def d_is (σ : k_St) (h : Int) : Prop := 0 ≤ h ∧ h < σ.1 69 301 ∧ σ.1 69 (302 + 36 * h) = 1
def d_ms (σ : k_St) (m : Int) : Prop := 0 ≤ m ∧ m < σ.1 69 1382 ∧ σ.1 69 (1383 + 7 * m) = 1
/-- how many signs a head is sorted by, and which -/
def e_sl (g : Int → Int) (h : Int) : Int := if g (302 + 36 * h + 2) = 0 then g (302 + 36 * h + 1) else g (302 + 36 * h + 2)
def e_st (g : Int → Int) (h i : Int) : Int := if g (302 + 36 * h + 2) = 0 then g (302 + 36 * h + 3 + i) else g (302 + 36 * h + 3 + 16 + i)
set_option maxHeartbeats 4000000 in
theorem s_dwithin {G : j_G} {X : k_X} {n : Nat} {σ : k_St} {v a b : Int} (hv : -2147483648 ≤ v ∧ v ≤ 2147483647) (ha : -2147483648 ≤ a ∧ a ≤ 2147483647) (hb : -2147483648 ≤ b ∧ b ≤ 2147483647) : k_run G X mX12_within [j_i v, j_i a, j_i b] n σ 0 0 (k_b n σ (a ≤ v ∧ v ≤ b)) := by
  refine k_enter (by decide +kernel) (Nat.le_of_ble_eq_true rfl) ?_
  show j_at _ _ _ [(0, j_i v), (1, j_i a), (2, j_i b)] [] _ _ _ _
  refine a_iload_n (pc := 0) (i := 0) (by decide +kernel) rfl ?_
  refine a_iload_n (pc := 1) (i := 1) (by decide +kernel) rfl ?_
  refine a_icmp_lt (pc := 2) (off := 12) (tgt := 14) (by decide +kernel) (by decide) (by omega) (by omega) (fun c2 => ?_) (fun c2 => ?_)
  · refine a_iconst (pc := 14) (n := 0) (by decide +kernel) ?_
    refine a_zreturn (pc := 15) (by decide +kernel) rfl (by omega) ?_
    refine k_ret ?_
    exact k_bn (by omega)
  · refine a_iload_n (pc := 5) (i := 0) (by decide +kernel) rfl ?_
    refine a_iload_n (pc := 6) (i := 2) (by decide +kernel) rfl ?_
    refine a_icmp_gt (pc := 7) (off := 7) (tgt := 14) (by decide +kernel) (by decide) (by omega) (by omega) (fun c7 => ?_) (fun c7 => ?_)
    · refine a_iconst (pc := 14) (n := 0) (by decide +kernel) ?_
      refine a_zreturn (pc := 15) (by decide +kernel) rfl (by omega) ?_
      refine k_ret ?_
      exact k_bn (by omega)
    · refine a_iconst (pc := 10) (n := 1) (by decide +kernel) ?_
      refine a_goto (pc := 11) (off := 4) (tgt := 15) (by decide +kernel) (by decide) ?_
      refine a_zreturn (pc := 15) (by decide +kernel) rfl (by omega) ?_
      refine k_ret ?_
      exact k_by (by omega)
set_option maxHeartbeats 4000000 in
theorem s_dwords {G : j_G} {X : k_X} {n : Nat} {σ : k_St} (hn : 101 ≤ n)  : k_run G X mX12_words [.ref 68] n σ 0 0 (k_is n σ (some (j_i (σ.1 69 0)))) := by
  refine k_enter (by decide +kernel) (Nat.le_of_ble_eq_true rfl) ?_
  show j_at _ _ _ [(0, .ref 68)] [] _ _ _ _
  refine a_aload_n (pc := 0) (i := 0) (by decide +kernel) rfl ?_
  refine b_getR (pc := 1) (b := 69) fl_X12_7 (by decide +kernel) (sh_68 hn) rfl ?_
  refine a_iconst (pc := 4) (n := 0) (by decide +kernel) ?_
  refine b_iaload (pc := 5) (by decide +kernel) (sh_69 hn) (by omega) (by omega) (by omega) ?_
  refine a_ireturn (pc := 6) (by decide +kernel) rfl ?_
  refine k_ret ?_
  exact ⟨rfl, rfl, rfl⟩
set_option maxHeartbeats 4000000 in
theorem s_dheadsEver {G : j_G} {X : k_X} {n : Nat} {σ : k_St} (hn : 101 ≤ n)  : k_run G X mX12_headsEver [.ref 68] n σ 0 0 (k_is n σ (some (j_i (σ.1 69 301)))) := by
  refine k_enter (by decide +kernel) (Nat.le_of_ble_eq_true rfl) ?_
  show j_at _ _ _ [(0, .ref 68)] [] _ _ _ _
  refine a_aload_n (pc := 0) (i := 0) (by decide +kernel) rfl ?_
  refine b_getR (pc := 1) (b := 69) fl_X12_7 (by decide +kernel) (sh_68 hn) rfl ?_
  refine a_sipush (pc := 4) (n := 301) (by decide +kernel) rfl ?_
  refine b_iaload (pc := 7) (by decide +kernel) (sh_69 hn) (by omega) (by omega) (by omega) ?_
  refine a_ireturn (pc := 8) (by decide +kernel) rfl ?_
  refine k_ret ?_
  exact ⟨rfl, rfl, rfl⟩
set_option maxHeartbeats 4000000 in
theorem s_dmarksEver {G : j_G} {X : k_X} {n : Nat} {σ : k_St} (hn : 101 ≤ n)  : k_run G X mX12_marksEver [.ref 68] n σ 0 0 (k_is n σ (some (j_i (σ.1 69 1382)))) := by
  refine k_enter (by decide +kernel) (Nat.le_of_ble_eq_true rfl) ?_
  show j_at _ _ _ [(0, .ref 68)] [] _ _ _ _
  refine a_aload_n (pc := 0) (i := 0) (by decide +kernel) rfl ?_
  refine b_getR (pc := 1) (b := 69) fl_X12_7 (by decide +kernel) (sh_68 hn) rfl ?_
  refine a_sipush (pc := 4) (n := 1382) (by decide +kernel) rfl ?_
  refine b_iaload (pc := 7) (by decide +kernel) (sh_69 hn) (by omega) (by omega) (by omega) ?_
  refine a_ireturn (pc := 8) (by decide +kernel) rfl ?_
  refine k_ret ?_
  exact ⟨rfl, rfl, rfl⟩
set_option maxHeartbeats 4000000 in
theorem s_dheadAt {G : j_G} {X : k_X} {n : Nat} {σ : k_St} {h : Int} : k_run G X mX12_headAt [.ref 68, j_i h] n σ 0 0 (k_is n σ (some (j_i (302 + 36 * h)))) := by
  refine k_enter (by decide +kernel) (Nat.le_of_ble_eq_true rfl) ?_
  show j_at _ _ _ [(0, .ref 68), (1, j_i h)] [] _ _ _ _
  refine a_sipush (pc := 0) (n := 302) (by decide +kernel) rfl ?_
  refine a_bipush (pc := 3) (n := 36) (by decide +kernel) rfl ?_
  refine a_iload_n (pc := 5) (i := 1) (by decide +kernel) rfl ?_
  refine a_imul (pc := 6) (by decide +kernel) ?_
  refine a_iadd (pc := 7) (by decide +kernel) ?_
  refine a_ireturn (pc := 8) (by decide +kernel) rfl ?_
  refine k_ret ?_
  exact ⟨rfl, rfl, rfl⟩
set_option maxHeartbeats 4000000 in
theorem s_dmarkAt {G : j_G} {X : k_X} {n : Nat} {σ : k_St} {m : Int} : k_run G X mX12_markAt [.ref 68, j_i m] n σ 0 0 (k_is n σ (some (j_i (1383 + 7 * m)))) := by
  refine k_enter (by decide +kernel) (Nat.le_of_ble_eq_true rfl) ?_
  show j_at _ _ _ [(0, .ref 68), (1, j_i m)] [] _ _ _ _
  refine a_sipush (pc := 0) (n := 1383) (by decide +kernel) rfl ?_
  refine a_bipush (pc := 3) (n := 7) (by decide +kernel) rfl ?_
  refine a_iload_n (pc := 5) (i := 1) (by decide +kernel) rfl ?_
  refine a_imul (pc := 6) (by decide +kernel) ?_
  refine a_iadd (pc := 7) (by decide +kernel) ?_
  refine a_ireturn (pc := 8) (by decide +kernel) rfl ?_
  refine k_ret ?_
  exact ⟨rfl, rfl, rfl⟩
set_option maxHeartbeats 4000000 in
theorem s_dgapAt {G : j_G} {X : k_X} {n : Nat} {σ : k_St} (hn : 101 ≤ n) {m : Int} : k_run G X mX12_gapAt [.ref 68, j_i m] n σ 0 0 (k_is n σ (some (j_i (1383 + 7 * m + 2)))) := by
  refine k_enter (by decide +kernel) (Nat.le_of_ble_eq_true rfl) ?_
  show j_at _ _ _ [(0, .ref 68), (1, j_i m)] [] _ _ _ _
  refine a_aload_n (pc := 0) (i := 0) (by decide +kernel) rfl ?_
  refine a_iload_n (pc := 1) (i := 1) (by decide +kernel) rfl ?_
  refine b_pureV (pc := 2) [j_i m] [] ml_X12_251 (by decide +kernel) rfl rfl (sh_68 hn) rfl rfl (Nat.le_of_ble_eq_true rfl) (j_fitI rfl rfl) (s_dmarkAt) ?_
  show j_at _ _ _ [(0, .ref 68), (1, j_i m)] [j_i (1383 + 7 * m)] _ _ _ _
  refine a_iconst (pc := 5) (n := 2) (by decide +kernel) ?_
  refine a_iadd (pc := 6) (by decide +kernel) ?_
  refine a_ireturn (pc := 7) (by decide +kernel) rfl ?_
  refine k_ret ?_
  exact ⟨rfl, rfl, rfl⟩
set_option maxHeartbeats 4000000 in
theorem s_dsignsOf {G : j_G} {X : k_X} {n : Nat} {σ : k_St} (hn : 101 ≤ n) {h : Int} (hh : 0 ≤ h ∧ h < 30)  : k_run G X mX12_signsOf [.ref 68, j_i h] n σ 0 0 (k_is n σ (some (j_i (σ.1 69 (302 + 36 * h + 1))))) := by
  refine k_enter (by decide +kernel) (Nat.le_of_ble_eq_true rfl) ?_
  show j_at _ _ _ [(0, .ref 68), (1, j_i h)] [] _ _ _ _
  refine a_aload_n (pc := 0) (i := 0) (by decide +kernel) rfl ?_
  refine b_getR (pc := 1) (b := 69) fl_X12_7 (by decide +kernel) (sh_68 hn) rfl ?_
  refine a_aload_n (pc := 4) (i := 0) (by decide +kernel) rfl ?_
  refine a_iload_n (pc := 5) (i := 1) (by decide +kernel) rfl ?_
  refine b_pureV (pc := 6) [j_i h] [.ref 69] ml_X12_183 (by decide +kernel) rfl rfl (sh_68 hn) rfl rfl (Nat.le_of_ble_eq_true rfl) (j_fitI rfl rfl) (s_dheadAt) ?_
  show j_at _ _ _ [(0, .ref 68), (1, j_i h)] [j_i (302 + 36 * h), .ref 69] _ _ _ _
  refine a_iconst (pc := 9) (n := 1) (by decide +kernel) ?_
  refine a_iadd (pc := 10) (by decide +kernel) ?_
  refine b_iaload (pc := 11) (by decide +kernel) (sh_69 hn) (by omega) (by omega) (by omega) ?_
  refine a_ireturn (pc := 12) (by decide +kernel) rfl ?_
  refine k_ret ?_
  exact ⟨rfl, rfl, rfl⟩
set_option maxHeartbeats 4000000 in
theorem s_dsignOf {G : j_G} {X : k_X} {n : Nat} {σ : k_St} (hn : 101 ≤ n) {h : Int} (hh : 0 ≤ h ∧ h < 30) {i : Int} (hi : 0 ≤ i ∧ i < 16)  : k_run G X mX12_signOf [.ref 68, j_i h, j_i i] n σ 0 0 (k_is n σ (some (j_i (σ.1 69 (302 + 36 * h + 3 + i))))) := by
  refine k_enter (by decide +kernel) (Nat.le_of_ble_eq_true rfl) ?_
  show j_at _ _ _ [(0, .ref 68), (1, j_i h), (2, j_i i)] [] _ _ _ _
  refine a_aload_n (pc := 0) (i := 0) (by decide +kernel) rfl ?_
  refine b_getR (pc := 1) (b := 69) fl_X12_7 (by decide +kernel) (sh_68 hn) rfl ?_
  refine a_aload_n (pc := 4) (i := 0) (by decide +kernel) rfl ?_
  refine a_iload_n (pc := 5) (i := 1) (by decide +kernel) rfl ?_
  refine b_pureV (pc := 6) [j_i h] [.ref 69] ml_X12_183 (by decide +kernel) rfl rfl (sh_68 hn) rfl rfl (Nat.le_of_ble_eq_true rfl) (j_fitI rfl rfl) (s_dheadAt) ?_
  show j_at _ _ _ [(0, .ref 68), (1, j_i h), (2, j_i i)] [j_i (302 + 36 * h), .ref 69] _ _ _ _
  refine a_iconst (pc := 9) (n := 3) (by decide +kernel) ?_
  refine a_iadd (pc := 10) (by decide +kernel) ?_
  refine a_iload_n (pc := 11) (i := 2) (by decide +kernel) rfl ?_
  refine a_iadd (pc := 12) (by decide +kernel) ?_
  refine b_iaload (pc := 13) (by decide +kernel) (sh_69 hn) (by omega) (by omega) (by omega) ?_
  refine a_ireturn (pc := 14) (by decide +kernel) rfl ?_
  refine k_ret ?_
  exact ⟨rfl, rfl, rfl⟩
set_option maxHeartbeats 4000000 in
theorem s_dkindOf {G : j_G} {X : k_X} {n : Nat} {σ : k_St} (hn : 101 ≤ n) {m : Int} (hm : 0 ≤ m ∧ m < 50)  : k_run G X mX12_kindOf [.ref 68, j_i m] n σ 0 0 (k_is n σ (some (j_i (σ.1 69 (1383 + 7 * m + 1))))) := by
  refine k_enter (by decide +kernel) (Nat.le_of_ble_eq_true rfl) ?_
  show j_at _ _ _ [(0, .ref 68), (1, j_i m)] [] _ _ _ _
  refine a_aload_n (pc := 0) (i := 0) (by decide +kernel) rfl ?_
  refine b_getR (pc := 1) (b := 69) fl_X12_7 (by decide +kernel) (sh_68 hn) rfl ?_
  refine a_aload_n (pc := 4) (i := 0) (by decide +kernel) rfl ?_
  refine a_iload_n (pc := 5) (i := 1) (by decide +kernel) rfl ?_
  refine b_pureV (pc := 6) [j_i m] [.ref 69] ml_X12_251 (by decide +kernel) rfl rfl (sh_68 hn) rfl rfl (Nat.le_of_ble_eq_true rfl) (j_fitI rfl rfl) (s_dmarkAt) ?_
  show j_at _ _ _ [(0, .ref 68), (1, j_i m)] [j_i (1383 + 7 * m), .ref 69] _ _ _ _
  refine a_iconst (pc := 9) (n := 1) (by decide +kernel) ?_
  refine a_iadd (pc := 10) (by decide +kernel) ?_
  refine b_iaload (pc := 11) (by decide +kernel) (sh_69 hn) (by omega) (by omega) (by omega) ?_
  refine a_ireturn (pc := 12) (by decide +kernel) rfl ?_
  refine k_ret ?_
  exact ⟨rfl, rfl, rfl⟩
set_option maxHeartbeats 4000000 in
theorem s_dnoteOf {G : j_G} {X : k_X} {n : Nat} {σ : k_St} (hn : 101 ≤ n) {m : Int} (hm : 0 ≤ m ∧ m < 50)  : k_run G X mX12_noteOf [.ref 68, j_i m] n σ 0 0 (k_is n σ (some (j_i (σ.1 69 (1383 + 7 * m + 6))))) := by
  refine k_enter (by decide +kernel) (Nat.le_of_ble_eq_true rfl) ?_
  show j_at _ _ _ [(0, .ref 68), (1, j_i m)] [] _ _ _ _
  refine a_aload_n (pc := 0) (i := 0) (by decide +kernel) rfl ?_
  refine b_getR (pc := 1) (b := 69) fl_X12_7 (by decide +kernel) (sh_68 hn) rfl ?_
  refine a_aload_n (pc := 4) (i := 0) (by decide +kernel) rfl ?_
  refine a_iload_n (pc := 5) (i := 1) (by decide +kernel) rfl ?_
  refine b_pureV (pc := 6) [j_i m] [.ref 69] ml_X12_251 (by decide +kernel) rfl rfl (sh_68 hn) rfl rfl (Nat.le_of_ble_eq_true rfl) (j_fitI rfl rfl) (s_dmarkAt) ?_
  show j_at _ _ _ [(0, .ref 68), (1, j_i m)] [j_i (1383 + 7 * m), .ref 69] _ _ _ _
  refine a_bipush (pc := 9) (n := 6) (by decide +kernel) rfl ?_
  refine a_iadd (pc := 11) (by decide +kernel) ?_
  refine b_iaload (pc := 12) (by decide +kernel) (sh_69 hn) (by omega) (by omega) (by omega) ?_
  refine a_ireturn (pc := 13) (by decide +kernel) rfl ?_
  refine k_ret ?_
  exact ⟨rfl, rfl, rfl⟩
set_option maxHeartbeats 4000000 in
theorem s_dgapOf {G : j_G} {X : k_X} {n : Nat} {σ : k_St} (hn : 101 ≤ n) {m : Int} (hm : 0 ≤ m ∧ m < 50)  : k_run G X mX12_gapOf [.ref 68, j_i m] n σ 0 0 (k_is n σ (some (j_i (σ.1 69 (1383 + 7 * m + 2))))) := by
  refine k_enter (by decide +kernel) (Nat.le_of_ble_eq_true rfl) ?_
  show j_at _ _ _ [(0, .ref 68), (1, j_i m)] [] _ _ _ _
  refine a_aload_n (pc := 0) (i := 0) (by decide +kernel) rfl ?_
  refine b_getR (pc := 1) (b := 69) fl_X12_7 (by decide +kernel) (sh_68 hn) rfl ?_
  refine a_aload_n (pc := 4) (i := 0) (by decide +kernel) rfl ?_
  refine a_iload_n (pc := 5) (i := 1) (by decide +kernel) rfl ?_
  refine b_pureV (pc := 6) [j_i m] [.ref 69] ml_X12_138 (by decide +kernel) rfl rfl (sh_68 hn) rfl rfl (Nat.le_of_ble_eq_true rfl) (j_fitI rfl rfl) (s_dgapAt hn) ?_
  show j_at _ _ _ [(0, .ref 68), (1, j_i m)] [j_i (1383 + 7 * m + 2), .ref 69] _ _ _ _
  refine b_iaload (pc := 9) (by decide +kernel) (sh_69 hn) (by omega) (by omega) (by omega) ?_
  refine a_ireturn (pc := 10) (by decide +kernel) rfl ?_
  refine k_ret ?_
  exact ⟨rfl, rfl, rfl⟩
set_option maxHeartbeats 4000000 in
theorem s_dheadOf {G : j_G} {X : k_X} {n : Nat} {σ : k_St} (hn : 101 ≤ n) {m : Int} (hm : 0 ≤ m ∧ m < 50) {i : Int} (hi : 0 ≤ i ∧ i < 3)  : k_run G X mX12_headOf [.ref 68, j_i m, j_i i] n σ 0 0 (k_is n σ (some (j_i (σ.1 69 (1383 + 7 * m + 3 + i))))) := by
  refine k_enter (by decide +kernel) (Nat.le_of_ble_eq_true rfl) ?_
  show j_at _ _ _ [(0, .ref 68), (1, j_i m), (2, j_i i)] [] _ _ _ _
  refine a_aload_n (pc := 0) (i := 0) (by decide +kernel) rfl ?_
  refine b_getR (pc := 1) (b := 69) fl_X12_7 (by decide +kernel) (sh_68 hn) rfl ?_
  refine a_aload_n (pc := 4) (i := 0) (by decide +kernel) rfl ?_
  refine a_iload_n (pc := 5) (i := 1) (by decide +kernel) rfl ?_
  refine b_pureV (pc := 6) [j_i m] [.ref 69] ml_X12_251 (by decide +kernel) rfl rfl (sh_68 hn) rfl rfl (Nat.le_of_ble_eq_true rfl) (j_fitI rfl rfl) (s_dmarkAt) ?_
  show j_at _ _ _ [(0, .ref 68), (1, j_i m), (2, j_i i)] [j_i (1383 + 7 * m), .ref 69] _ _ _ _
  refine a_iconst (pc := 9) (n := 3) (by decide +kernel) ?_
  refine a_iadd (pc := 10) (by decide +kernel) ?_
  refine a_iload_n (pc := 11) (i := 2) (by decide +kernel) rfl ?_
  refine a_iadd (pc := 12) (by decide +kernel) ?_
  refine b_iaload (pc := 13) (by decide +kernel) (sh_69 hn) (by omega) (by omega) (by omega) ?_
  refine a_ireturn (pc := 14) (by decide +kernel) rfl ?_
  refine k_ret ?_
  exact ⟨rfl, rfl, rfl⟩
set_option maxHeartbeats 4000000 in
theorem s_dsortedLong {G : j_G} {X : k_X} {n : Nat} {σ : k_St} (hn : 101 ≤ n) (hg : ∀ i : Int, -128 ≤ σ.1 69 i ∧ σ.1 69 i ≤ 9999) {h : Int} (hh : 0 ≤ h ∧ h < 30)  : k_run G X mX12_sortedLong [.ref 68, j_i h] n σ 0 0 (k_is n σ (some (j_i (e_sl (σ.1 69) h)))) := by
  refine k_enter (by decide +kernel) (Nat.le_of_ble_eq_true rfl) ?_
  show j_at _ _ _ [(0, .ref 68), (1, j_i h)] [] _ _ _ _
  refine a_aload_n (pc := 0) (i := 0) (by decide +kernel) rfl ?_
  refine b_getR (pc := 1) (b := 69) fl_X12_7 (by decide +kernel) (sh_68 hn) rfl ?_
  refine a_aload_n (pc := 4) (i := 0) (by decide +kernel) rfl ?_
  refine a_iload_n (pc := 5) (i := 1) (by decide +kernel) rfl ?_
  refine b_pureV (pc := 6) [j_i h] [.ref 69] ml_X12_183 (by decide +kernel) rfl rfl (sh_68 hn) rfl rfl (Nat.le_of_ble_eq_true rfl) (j_fitI rfl rfl) (s_dheadAt) ?_
  show j_at _ _ _ [(0, .ref 68), (1, j_i h)] [j_i (302 + 36 * h), .ref 69] _ _ _ _
  refine a_iconst (pc := 9) (n := 2) (by decide +kernel) ?_
  refine a_iadd (pc := 10) (by decide +kernel) ?_
  refine b_iaload (pc := 11) (by decide +kernel) (sh_69 hn) (by omega) (by omega) (by omega) ?_
  have q2 := hg ((302 + 36 * h) + 2)
  refine a_if_ne (pc := 12) (off := 11) (tgt := 23) (by decide +kernel) (by decide) (by omega) (fun c12 => ?_) (fun c12 => ?_)
  · refine a_aload_n (pc := 23) (i := 0) (by decide +kernel) rfl ?_
    refine b_getR (pc := 24) (b := 69) fl_X12_7 (by decide +kernel) (sh_68 hn) rfl ?_
    refine a_aload_n (pc := 27) (i := 0) (by decide +kernel) rfl ?_
    refine a_iload_n (pc := 28) (i := 1) (by decide +kernel) rfl ?_
    refine b_pureV (pc := 29) [j_i h] [.ref 69] ml_X12_183 (by decide +kernel) rfl rfl (sh_68 hn) rfl rfl (Nat.le_of_ble_eq_true rfl) (j_fitI rfl rfl) (s_dheadAt) ?_
    show j_at _ _ _ [(0, .ref 68), (1, j_i h)] [j_i (302 + 36 * h), .ref 69] _ _ _ _
    refine a_iconst (pc := 32) (n := 2) (by decide +kernel) ?_
    refine a_iadd (pc := 33) (by decide +kernel) ?_
    refine b_iaload (pc := 34) (by decide +kernel) (sh_69 hn) (by omega) (by omega) (by omega) ?_
    have q4 := hg ((302 + 36 * h) + 2)
    refine a_ireturn (pc := 35) (by decide +kernel) rfl ?_
    refine k_ret ?_
    refine ⟨?_, rfl, rfl⟩
    unfold e_sl
    first | rw [if_pos (by omega)] | rw [if_neg (by omega)]
  · refine a_aload_n (pc := 15) (i := 0) (by decide +kernel) rfl ?_
    refine a_iload_n (pc := 16) (i := 1) (by decide +kernel) rfl ?_
    refine b_pureV (pc := 17) [j_i h] [] ml_X12_186 (by decide +kernel) rfl rfl (sh_68 hn) rfl rfl (Nat.le_of_ble_eq_true rfl) (j_fitI rfl rfl) (s_dsignsOf hn (by omega)) ?_
    have q5 := hg (302 + 36 * h + 1)
    show j_at _ _ _ [(0, .ref 68), (1, j_i h)] [j_i (σ.1 69 (302 + 36 * h + 1))] _ _ _ _
    refine a_goto (pc := 20) (off := 15) (tgt := 35) (by decide +kernel) (by decide) ?_
    refine a_ireturn (pc := 35) (by decide +kernel) rfl ?_
    refine k_ret ?_
    refine ⟨?_, rfl, rfl⟩
    unfold e_sl
    first | rw [if_pos (by omega)] | rw [if_neg (by omega)]
set_option maxHeartbeats 4000000 in
theorem s_dsortedSign {G : j_G} {X : k_X} {n : Nat} {σ : k_St} (hn : 101 ≤ n) (hg : ∀ i : Int, -128 ≤ σ.1 69 i ∧ σ.1 69 i ≤ 9999) {h : Int} (hh : 0 ≤ h ∧ h < 30) {i : Int} (hi : 0 ≤ i ∧ i < 16)  : k_run G X mX12_sortedSign [.ref 68, j_i h, j_i i] n σ 0 0 (k_is n σ (some (j_i (e_st (σ.1 69) h i)))) := by
  refine k_enter (by decide +kernel) (Nat.le_of_ble_eq_true rfl) ?_
  show j_at _ _ _ [(0, .ref 68), (1, j_i h), (2, j_i i)] [] _ _ _ _
  refine a_aload_n (pc := 0) (i := 0) (by decide +kernel) rfl ?_
  refine b_getR (pc := 1) (b := 69) fl_X12_7 (by decide +kernel) (sh_68 hn) rfl ?_
  refine a_aload_n (pc := 4) (i := 0) (by decide +kernel) rfl ?_
  refine a_iload_n (pc := 5) (i := 1) (by decide +kernel) rfl ?_
  refine b_pureV (pc := 6) [j_i h] [.ref 69] ml_X12_183 (by decide +kernel) rfl rfl (sh_68 hn) rfl rfl (Nat.le_of_ble_eq_true rfl) (j_fitI rfl rfl) (s_dheadAt) ?_
  show j_at _ _ _ [(0, .ref 68), (1, j_i h), (2, j_i i)] [j_i (302 + 36 * h), .ref 69] _ _ _ _
  refine a_iconst (pc := 9) (n := 2) (by decide +kernel) ?_
  refine a_iadd (pc := 10) (by decide +kernel) ?_
  refine b_iaload (pc := 11) (by decide +kernel) (sh_69 hn) (by omega) (by omega) (by omega) ?_
  have q2 := hg ((302 + 36 * h) + 2)
  refine a_if_ne (pc := 12) (off := 12) (tgt := 24) (by decide +kernel) (by decide) (by omega) (fun c12 => ?_) (fun c12 => ?_)
  · refine a_aload_n (pc := 24) (i := 0) (by decide +kernel) rfl ?_
    refine b_getR (pc := 25) (b := 69) fl_X12_7 (by decide +kernel) (sh_68 hn) rfl ?_
    refine a_aload_n (pc := 28) (i := 0) (by decide +kernel) rfl ?_
    refine a_iload_n (pc := 29) (i := 1) (by decide +kernel) rfl ?_
    refine b_pureV (pc := 30) [j_i h] [.ref 69] ml_X12_183 (by decide +kernel) rfl rfl (sh_68 hn) rfl rfl (Nat.le_of_ble_eq_true rfl) (j_fitI rfl rfl) (s_dheadAt) ?_
    show j_at _ _ _ [(0, .ref 68), (1, j_i h), (2, j_i i)] [j_i (302 + 36 * h), .ref 69] _ _ _ _
    refine a_iconst (pc := 33) (n := 3) (by decide +kernel) ?_
    refine a_iadd (pc := 34) (by decide +kernel) ?_
    refine a_bipush (pc := 35) (n := 16) (by decide +kernel) rfl ?_
    refine a_iadd (pc := 37) (by decide +kernel) ?_
    refine a_iload_n (pc := 38) (i := 2) (by decide +kernel) rfl ?_
    refine a_iadd (pc := 39) (by decide +kernel) ?_
    refine b_iaload (pc := 40) (by decide +kernel) (sh_69 hn) (by omega) (by omega) (by omega) ?_
    have q4 := hg ((((302 + 36 * h) + 3) + 16) + i)
    refine a_ireturn (pc := 41) (by decide +kernel) rfl ?_
    refine k_ret ?_
    refine ⟨?_, rfl, rfl⟩
    unfold e_st
    first | rw [if_pos (by omega)] | rw [if_neg (by omega)]
  · refine a_aload_n (pc := 15) (i := 0) (by decide +kernel) rfl ?_
    refine a_iload_n (pc := 16) (i := 1) (by decide +kernel) rfl ?_
    refine a_iload_n (pc := 17) (i := 2) (by decide +kernel) rfl ?_
    refine b_pureV (pc := 18) [j_i h, j_i i] [] ml_X12_189 (by decide +kernel) rfl rfl (sh_68 hn) rfl rfl (Nat.le_of_ble_eq_true rfl) (j_fitI rfl rfl) (s_dsignOf hn (by omega) (by omega)) ?_
    have q5 := hg (302 + 36 * h + 3 + i)
    show j_at _ _ _ [(0, .ref 68), (1, j_i h), (2, j_i i)] [j_i (σ.1 69 (302 + 36 * h + 3 + i))] _ _ _ _
    refine a_goto (pc := 21) (off := 20) (tgt := 41) (by decide +kernel) (by decide) ?_
    refine a_ireturn (pc := 41) (by decide +kernel) rfl ?_
    refine k_ret ?_
    refine ⟨?_, rfl, rfl⟩
    unfold e_st
    first | rw [if_pos (by omega)] | rw [if_neg (by omega)]
set_option maxHeartbeats 4000000 in
theorem s_disHead {G : j_G} {X : k_X} {n : Nat} {σ : k_St} (hn : 101 ≤ n) (hg : ∀ i : Int, -128 ≤ σ.1 69 i ∧ σ.1 69 i ≤ 9999) {h : Int} (hh : -2147483648 ≤ h ∧ h ≤ 2147483647) (hE : 0 ≤ σ.1 69 301 ∧ σ.1 69 301 ≤ 30)  : k_run G X mX12_isHead [.ref 68, j_i h] n σ 0 0 (k_b n σ (d_is σ h)) := by
  refine k_enter (by decide +kernel) (Nat.le_of_ble_eq_true rfl) ?_
  show j_at _ _ _ [(0, .ref 68), (1, j_i h)] [] _ _ _ _
  refine a_iload_n (pc := 0) (i := 1) (by decide +kernel) rfl ?_
  refine a_iconst (pc := 1) (n := 0) (by decide +kernel) ?_
  refine a_aload_n (pc := 2) (i := 0) (by decide +kernel) rfl ?_
  refine b_pureV (pc := 3) [] [j_i 0, j_i h] ml_X12_180 (by decide +kernel) rfl rfl (sh_68 hn) rfl rfl (Nat.le_of_ble_eq_true rfl) (j_fitI rfl rfl) (s_dheadsEver hn) ?_
  have q1 := hg 301
  show j_at _ _ _ [(0, .ref 68), (1, j_i h)] [j_i (σ.1 69 301), j_i 0, j_i h] _ _ _ _
  refine a_iconst (pc := 6) (n := 1) (by decide +kernel) ?_
  refine a_isub (pc := 7) (by decide +kernel) ?_
  refine b_callS (pc := 8) (c' := 0) (sl' := 0) [j_i h, j_i 0, j_i ((σ.1 69 301) - 1)] [] ml_X12_128 (by decide +kernel) rfl rfl (Nat.le_of_ble_eq_true rfl) (j_fitI rfl rfl) (s_dwithin (by omega) (by omega) (by omega)) (fun v n' σ' hq => ?_)
  obtain ⟨x, rfl, e1, e2, hx⟩ := hq
  rw [e1, e2]; clear e1 e2
  rcases hx with ⟨rfl, p8⟩ | ⟨rfl, p8⟩
  · show j_at _ _ _ [(0, .ref 68), (1, j_i h)] [j_i 1] _ _ _ _
    refine a_if_eq (pc := 11) (off := 21) (tgt := 32) (by decide +kernel) (by decide) (by omega) (fun c11 => ?_) (fun c11 => ?_)
    · exact absurd c11 (by decide)
    · refine a_aload_n (pc := 14) (i := 0) (by decide +kernel) rfl ?_
      refine b_getR (pc := 15) (b := 69) fl_X12_7 (by decide +kernel) (sh_68 hn) rfl ?_
      refine a_aload_n (pc := 18) (i := 0) (by decide +kernel) rfl ?_
      refine a_iload_n (pc := 19) (i := 1) (by decide +kernel) rfl ?_
      refine b_pureV (pc := 20) [j_i h] [.ref 69] ml_X12_183 (by decide +kernel) rfl rfl (sh_68 hn) rfl rfl (Nat.le_of_ble_eq_true rfl) (j_fitI rfl rfl) (s_dheadAt) ?_
      show j_at _ _ _ [(0, .ref 68), (1, j_i h)] [j_i (302 + 36 * h), .ref 69] _ _ _ _
      refine b_iaload (pc := 23) (by decide +kernel) (sh_69 hn) (by omega) (by omega) (by omega) ?_
      have q3 := hg (302 + 36 * h)
      refine a_iconst (pc := 24) (n := 1) (by decide +kernel) ?_
      refine a_icmp_ne (pc := 25) (off := 7) (tgt := 32) (by decide +kernel) (by decide) (by omega) (by omega) (fun c25 => ?_) (fun c25 => ?_)
      · refine a_iconst (pc := 32) (n := 0) (by decide +kernel) ?_
        refine a_zreturn (pc := 33) (by decide +kernel) rfl (by omega) ?_
        refine k_ret ?_
        exact k_bn (by unfold d_is; omega)
      · refine a_iconst (pc := 28) (n := 1) (by decide +kernel) ?_
        refine a_goto (pc := 29) (off := 4) (tgt := 33) (by decide +kernel) (by decide) ?_
        refine a_zreturn (pc := 33) (by decide +kernel) rfl (by omega) ?_
        refine k_ret ?_
        exact k_by (by unfold d_is; omega)
  · show j_at _ _ _ [(0, .ref 68), (1, j_i h)] [j_i 0] _ _ _ _
    refine a_if_eq (pc := 11) (off := 21) (tgt := 32) (by decide +kernel) (by decide) (by omega) (fun c11 => ?_) (fun c11 => ?_)
    · refine a_iconst (pc := 32) (n := 0) (by decide +kernel) ?_
      refine a_zreturn (pc := 33) (by decide +kernel) rfl (by omega) ?_
      refine k_ret ?_
      exact k_bn (by unfold d_is; omega)
    · exact absurd c11 (by decide)
set_option maxHeartbeats 4000000 in
theorem s_disMark {G : j_G} {X : k_X} {n : Nat} {σ : k_St} (hn : 101 ≤ n) (hg : ∀ i : Int, -128 ≤ σ.1 69 i ∧ σ.1 69 i ≤ 9999) {m : Int} (hm : -2147483648 ≤ m ∧ m ≤ 2147483647) (hE : 0 ≤ σ.1 69 1382 ∧ σ.1 69 1382 ≤ 50)  : k_run G X mX12_isMark [.ref 68, j_i m] n σ 0 0 (k_b n σ (d_ms σ m)) := by
  refine k_enter (by decide +kernel) (Nat.le_of_ble_eq_true rfl) ?_
  show j_at _ _ _ [(0, .ref 68), (1, j_i m)] [] _ _ _ _
  refine a_iload_n (pc := 0) (i := 1) (by decide +kernel) rfl ?_
  refine a_iconst (pc := 1) (n := 0) (by decide +kernel) ?_
  refine a_aload_n (pc := 2) (i := 0) (by decide +kernel) rfl ?_
  refine b_pureV (pc := 3) [] [j_i 0, j_i m] ml_X12_135 (by decide +kernel) rfl rfl (sh_68 hn) rfl rfl (Nat.le_of_ble_eq_true rfl) (j_fitI rfl rfl) (s_dmarksEver hn) ?_
  have q1 := hg 1382
  show j_at _ _ _ [(0, .ref 68), (1, j_i m)] [j_i (σ.1 69 1382), j_i 0, j_i m] _ _ _ _
  refine a_iconst (pc := 6) (n := 1) (by decide +kernel) ?_
  refine a_isub (pc := 7) (by decide +kernel) ?_
  refine b_callS (pc := 8) (c' := 0) (sl' := 0) [j_i m, j_i 0, j_i ((σ.1 69 1382) - 1)] [] ml_X12_128 (by decide +kernel) rfl rfl (Nat.le_of_ble_eq_true rfl) (j_fitI rfl rfl) (s_dwithin (by omega) (by omega) (by omega)) (fun v n' σ' hq => ?_)
  obtain ⟨x, rfl, e1, e2, hx⟩ := hq
  rw [e1, e2]; clear e1 e2
  rcases hx with ⟨rfl, p8⟩ | ⟨rfl, p8⟩
  · show j_at _ _ _ [(0, .ref 68), (1, j_i m)] [j_i 1] _ _ _ _
    refine a_if_eq (pc := 11) (off := 21) (tgt := 32) (by decide +kernel) (by decide) (by omega) (fun c11 => ?_) (fun c11 => ?_)
    · exact absurd c11 (by decide)
    · refine a_aload_n (pc := 14) (i := 0) (by decide +kernel) rfl ?_
      refine b_getR (pc := 15) (b := 69) fl_X12_7 (by decide +kernel) (sh_68 hn) rfl ?_
      refine a_aload_n (pc := 18) (i := 0) (by decide +kernel) rfl ?_
      refine a_iload_n (pc := 19) (i := 1) (by decide +kernel) rfl ?_
      refine b_pureV (pc := 20) [j_i m] [.ref 69] ml_X12_251 (by decide +kernel) rfl rfl (sh_68 hn) rfl rfl (Nat.le_of_ble_eq_true rfl) (j_fitI rfl rfl) (s_dmarkAt) ?_
      show j_at _ _ _ [(0, .ref 68), (1, j_i m)] [j_i (1383 + 7 * m), .ref 69] _ _ _ _
      refine b_iaload (pc := 23) (by decide +kernel) (sh_69 hn) (by omega) (by omega) (by omega) ?_
      have q3 := hg (1383 + 7 * m)
      refine a_iconst (pc := 24) (n := 1) (by decide +kernel) ?_
      refine a_icmp_ne (pc := 25) (off := 7) (tgt := 32) (by decide +kernel) (by decide) (by omega) (by omega) (fun c25 => ?_) (fun c25 => ?_)
      · refine a_iconst (pc := 32) (n := 0) (by decide +kernel) ?_
        refine a_zreturn (pc := 33) (by decide +kernel) rfl (by omega) ?_
        refine k_ret ?_
        exact k_bn (by unfold d_ms; omega)
      · refine a_iconst (pc := 28) (n := 1) (by decide +kernel) ?_
        refine a_goto (pc := 29) (off := 4) (tgt := 33) (by decide +kernel) (by decide) ?_
        refine a_zreturn (pc := 33) (by decide +kernel) rfl (by omega) ?_
        refine k_ret ?_
        exact k_by (by unfold d_ms; omega)
  · show j_at _ _ _ [(0, .ref 68), (1, j_i m)] [j_i 0] _ _ _ _
    refine a_if_eq (pc := 11) (off := 21) (tgt := 32) (by decide +kernel) (by decide) (by omega) (fun c11 => ?_) (fun c11 => ?_)
    · refine a_iconst (pc := 32) (n := 0) (by decide +kernel) ?_
      refine a_zreturn (pc := 33) (by decide +kernel) rfl (by omega) ?_
      refine k_ret ?_
      exact k_bn (by unfold d_ms; omega)
    · exact absurd c11 (by decide)
set_option maxHeartbeats 4000000 in
theorem s_disLetter {G : j_G} {X : k_X} {n : Nat} {σ : k_St} {c : Int} (hc : -2147483648 ≤ c ∧ c ≤ 2147483647)  : k_run G X mX12_isLetter [j_i c] n σ 0 0 (k_b n σ ((65 ≤ c ∧ c ≤ 90) ∨ (97 ≤ c ∧ c ≤ 122))) := by
  refine k_enter (by decide +kernel) (Nat.le_of_ble_eq_true rfl) ?_
  show j_at _ _ _ [(0, j_i c)] [] _ _ _ _
  refine a_iload_n (pc := 0) (i := 0) (by decide +kernel) rfl ?_
  refine a_bipush (pc := 1) (n := 97) (by decide +kernel) rfl ?_
  refine a_icmp_lt (pc := 3) (off := 9) (tgt := 12) (by decide +kernel) (by decide) (by omega) (by omega) (fun c3 => ?_) (fun c3 => ?_)
  · refine a_iload_n (pc := 12) (i := 0) (by decide +kernel) rfl ?_
    refine a_bipush (pc := 13) (n := 65) (by decide +kernel) rfl ?_
    refine a_icmp_lt (pc := 15) (off := 13) (tgt := 28) (by decide +kernel) (by decide) (by omega) (by omega) (fun c15 => ?_) (fun c15 => ?_)
    · refine a_iconst (pc := 28) (n := 0) (by decide +kernel) ?_
      refine a_zreturn (pc := 29) (by decide +kernel) rfl (by omega) ?_
      refine k_ret ?_
      exact k_bn (by omega)
    · refine a_iload_n (pc := 18) (i := 0) (by decide +kernel) rfl ?_
      refine a_bipush (pc := 19) (n := 90) (by decide +kernel) rfl ?_
      refine a_icmp_gt (pc := 21) (off := 7) (tgt := 28) (by decide +kernel) (by decide) (by omega) (by omega) (fun c21 => ?_) (fun c21 => ?_)
      · refine a_iconst (pc := 28) (n := 0) (by decide +kernel) ?_
        refine a_zreturn (pc := 29) (by decide +kernel) rfl (by omega) ?_
        refine k_ret ?_
        exact k_bn (by omega)
      · refine a_iconst (pc := 24) (n := 1) (by decide +kernel) ?_
        refine a_goto (pc := 25) (off := 4) (tgt := 29) (by decide +kernel) (by decide) ?_
        refine a_zreturn (pc := 29) (by decide +kernel) rfl (by omega) ?_
        refine k_ret ?_
        exact k_by (by omega)
  · refine a_iload_n (pc := 6) (i := 0) (by decide +kernel) rfl ?_
    refine a_bipush (pc := 7) (n := 122) (by decide +kernel) rfl ?_
    refine a_icmp_le (pc := 9) (off := 15) (tgt := 24) (by decide +kernel) (by decide) (by omega) (by omega) (fun c9 => ?_) (fun c9 => ?_)
    · refine a_iconst (pc := 24) (n := 1) (by decide +kernel) ?_
      refine a_goto (pc := 25) (off := 4) (tgt := 29) (by decide +kernel) (by decide) ?_
      refine a_zreturn (pc := 29) (by decide +kernel) rfl (by omega) ?_
      refine k_ret ?_
      exact k_by (by omega)
    · refine a_iload_n (pc := 12) (i := 0) (by decide +kernel) rfl ?_
      refine a_bipush (pc := 13) (n := 65) (by decide +kernel) rfl ?_
      refine a_icmp_lt (pc := 15) (off := 13) (tgt := 28) (by decide +kernel) (by decide) (by omega) (by omega) (fun c15 => ?_) (fun c15 => ?_)
      · refine a_iconst (pc := 28) (n := 0) (by decide +kernel) ?_
        refine a_zreturn (pc := 29) (by decide +kernel) rfl (by omega) ?_
        refine k_ret ?_
        exact k_bn (by omega)
      · refine a_iload_n (pc := 18) (i := 0) (by decide +kernel) rfl ?_
        refine a_bipush (pc := 19) (n := 90) (by decide +kernel) rfl ?_
        refine a_icmp_gt (pc := 21) (off := 7) (tgt := 28) (by decide +kernel) (by decide) (by omega) (by omega) (fun c21 => ?_) (fun c21 => ?_)
        · refine a_iconst (pc := 28) (n := 0) (by decide +kernel) ?_
          refine a_zreturn (pc := 29) (by decide +kernel) rfl (by omega) ?_
          refine k_ret ?_
          exact k_bn (by omega)
        · refine a_iconst (pc := 24) (n := 1) (by decide +kernel) ?_
          refine a_goto (pc := 25) (off := 4) (tgt := 29) (by decide +kernel) (by decide) ?_
          refine a_zreturn (pc := 29) (by decide +kernel) rfl (by omega) ?_
          refine k_ret ?_
          exact k_by (by omega)
set_option maxHeartbeats 4000000 in
theorem s_dsmall {G : j_G} {X : k_X} {n : Nat} {σ : k_St} {c : Int} (hc : -2147483648 ≤ c ∧ c ≤ 2147483647)  : k_run G X mX12_small [j_i c] n σ 0 0 (k_is n σ (some (j_i (f_fold c)))) := by
  refine k_enter (by decide +kernel) (Nat.le_of_ble_eq_true rfl) ?_
  show j_at _ _ _ [(0, j_i c)] [] _ _ _ _
  refine a_iload_n (pc := 0) (i := 0) (by decide +kernel) rfl ?_
  refine a_bipush (pc := 1) (n := 65) (by decide +kernel) rfl ?_
  refine a_icmp_lt (pc := 3) (off := 16) (tgt := 19) (by decide +kernel) (by decide) (by omega) (by omega) (fun c3 => ?_) (fun c3 => ?_)
  · refine a_iload_n (pc := 19) (i := 0) (by decide +kernel) rfl ?_
    refine a_ireturn (pc := 20) (by decide +kernel) rfl ?_
    refine k_ret ?_
    refine ⟨?_, rfl, rfl⟩
    unfold f_fold
    first | rw [if_pos (by omega)] | rw [if_neg (by omega)]
  · refine a_iload_n (pc := 6) (i := 0) (by decide +kernel) rfl ?_
    refine a_bipush (pc := 7) (n := 90) (by decide +kernel) rfl ?_
    refine a_icmp_gt (pc := 9) (off := 10) (tgt := 19) (by decide +kernel) (by decide) (by omega) (by omega) (fun c9 => ?_) (fun c9 => ?_)
    · refine a_iload_n (pc := 19) (i := 0) (by decide +kernel) rfl ?_
      refine a_ireturn (pc := 20) (by decide +kernel) rfl ?_
      refine k_ret ?_
      refine ⟨?_, rfl, rfl⟩
      unfold f_fold
      first | rw [if_pos (by omega)] | rw [if_neg (by omega)]
    · refine a_iload_n (pc := 12) (i := 0) (by decide +kernel) rfl ?_
      refine a_bipush (pc := 13) (n := 32) (by decide +kernel) rfl ?_
      refine a_iadd (pc := 15) (by decide +kernel) ?_
      refine a_goto (pc := 16) (off := 4) (tgt := 20) (by decide +kernel) (by decide) ?_
      refine a_ireturn (pc := 20) (by decide +kernel) rfl ?_
      refine k_ret ?_
      refine ⟨?_, rfl, rfl⟩
      unfold f_fold
      first | rw [if_pos (by omega)] | rw [if_neg (by omega)]
set_option maxHeartbeats 4000000 in
theorem s_drankOf {G : j_G} {X : k_X} {n : Nat} {σ : k_St} {k : Int} (hk : 0 ≤ k ∧ k ≤ 5) (hk2 : k ≠ 1 ∧ k ≠ 2)  : k_run G X mX12_rankOf [j_i k] n σ 0 0 (k_is n σ (some (j_i (i_rank k)))) := by
  refine k_enter (by decide +kernel) (Nat.le_of_ble_eq_true rfl) ?_
  show j_at _ _ _ [(0, j_i k)] [] _ _ _ _
  refine a_iload_n (pc := 0) (i := 0) (by decide +kernel) rfl ?_
  refine a_iconst (pc := 1) (n := 3) (by decide +kernel) ?_
  refine a_icmp_ne (pc := 2) (off := 7) (tgt := 9) (by decide +kernel) (by decide) (by omega) (by omega) (fun c2 => ?_) (fun c2 => ?_)
  · refine a_iload_n (pc := 9) (i := 0) (by decide +kernel) rfl ?_
    refine a_if_ne (pc := 10) (off := 7) (tgt := 17) (by decide +kernel) (by decide) (by omega) (fun c10 => ?_) (fun c10 => ?_)
    · refine a_iload_n (pc := 17) (i := 0) (by decide +kernel) rfl ?_
      refine a_iconst (pc := 18) (n := 5) (by decide +kernel) ?_
      refine a_icmp_ne (pc := 19) (off := 7) (tgt := 26) (by decide +kernel) (by decide) (by omega) (by omega) (fun c19 => ?_) (fun c19 => ?_)
      · refine a_iconst (pc := 26) (n := 3) (by decide +kernel) ?_
        refine a_ireturn (pc := 27) (by decide +kernel) rfl ?_
        refine k_ret ?_
        refine ⟨?_, rfl, rfl⟩
        congr 2
        unfold i_rank
        rcases (show k = 0 ∨ k = 3 ∨ k = 4 ∨ k = 5 by omega) with h | h | h | h <;> subst h <;> first | rfl | (exfalso; omega)
      · refine a_iconst (pc := 22) (n := 2) (by decide +kernel) ?_
        refine a_goto (pc := 23) (off := 4) (tgt := 27) (by decide +kernel) (by decide) ?_
        refine a_ireturn (pc := 27) (by decide +kernel) rfl ?_
        refine k_ret ?_
        refine ⟨?_, rfl, rfl⟩
        congr 2
        unfold i_rank
        rcases (show k = 0 ∨ k = 3 ∨ k = 4 ∨ k = 5 by omega) with h | h | h | h <;> subst h <;> first | rfl | (exfalso; omega)
    · refine a_iconst (pc := 13) (n := 1) (by decide +kernel) ?_
      refine a_goto (pc := 14) (off := 13) (tgt := 27) (by decide +kernel) (by decide) ?_
      refine a_ireturn (pc := 27) (by decide +kernel) rfl ?_
      refine k_ret ?_
      refine ⟨?_, rfl, rfl⟩
      congr 2
      unfold i_rank
      rcases (show k = 0 ∨ k = 3 ∨ k = 4 ∨ k = 5 by omega) with h | h | h | h <;> subst h <;> first | rfl | (exfalso; omega)
  · refine a_iconst (pc := 5) (n := 0) (by decide +kernel) ?_
    refine a_goto (pc := 6) (off := 21) (tgt := 27) (by decide +kernel) (by decide) ?_
    refine a_ireturn (pc := 27) (by decide +kernel) rfl ?_
    refine k_ret ?_
    refine ⟨?_, rfl, rfl⟩
    congr 2
    unfold i_rank
    rcases (show k = 0 ∨ k = 3 ∨ k = 4 ∨ k = 5 by omega) with h | h | h | h <;> subst h <;> first | rfl | (exfalso; omega)
set_option maxHeartbeats 4000000 in
theorem s_dpageOf {G : j_G} {X : k_X} {n : Nat} {σ : k_St} (hn : 101 ≤ n) {g : Int} (hgp : 0 ≤ g ∧ g ≤ 300) (hfl : 1 ≤ σ.2.1 68 11 ∧ σ.2.1 68 11 ≤ 50)  : k_run G X mX12_pageOf [.ref 68, j_i g] n σ 0 0 (k_is n σ (some (j_i (f_page g (σ.2.1 68 11))))) := by
  refine k_enter (by decide +kernel) (Nat.le_of_ble_eq_true rfl) ?_
  show j_at _ _ _ [(0, .ref 68), (1, j_i g)] [] _ _ _ _
  refine a_iload_n (pc := 0) (i := 1) (by decide +kernel) rfl ?_
  refine a_if_ne (pc := 1) (off := 7) (tgt := 8) (by decide +kernel) (by decide) (by omega) (fun c1 => ?_) (fun c1 => ?_)
  · refine a_iload_n (pc := 8) (i := 1) (by decide +kernel) rfl ?_
    refine a_iconst (pc := 9) (n := 1) (by decide +kernel) ?_
    refine a_isub (pc := 10) (by decide +kernel) ?_
    refine a_aload_n (pc := 11) (i := 0) (by decide +kernel) rfl ?_
    refine b_getI (pc := 12) fl_X12_26 (by decide +kernel) (sh_68 hn) rfl ?_
    refine a_idiv (pc := 15) (by decide +kernel) (by omega) (by omega) ?_
    refine a_ireturn (pc := 16) (by decide +kernel) rfl ?_
    refine k_ret ?_
    refine ⟨?_, rfl, rfl⟩
    unfold f_page
    first | rw [if_pos (by omega)] | rw [if_neg (by omega)]
  · refine a_iconst (pc := 4) (n := 0) (by decide +kernel) ?_
    refine a_goto (pc := 5) (off := 11) (tgt := 16) (by decide +kernel) (by decide) ?_
    refine a_ireturn (pc := 16) (by decide +kernel) rfl ?_
    refine k_ret ?_
    refine ⟨?_, rfl, rfl⟩
    unfold f_page
    first | rw [if_pos (by omega)] | rw [if_neg (by omega)]
theorem f_pages {w f : Int} (hf : 1 ≤ f) (hw : 0 ≤ w) : (if (w + f - 1) / f < 1 then 1 else (w + f - 1) / f) = f_page w f + 1 := by
  unfold f_page
  by_cases h : w < 1
  · have : w = 0 := by omega
    subst this
    rw [if_pos (Or.inl h), Int.ediv_eq_zero_of_lt (by omega) (by omega)]; rfl
  · have := Int.ediv_nonneg (show 0 ≤ w - 1 by omega) (show 0 ≤ f by omega)
    rw [show w + f - 1 = (w - 1) + f * 1 by omega, Int.add_mul_ediv_left _ _ (by omega), if_neg (show ¬ (w < 1 ∨ f < 1) by omega), if_neg (by omega)]
set_option maxHeartbeats 4000000 in
theorem s_dpages {G : j_G} {X : k_X} {n : Nat} {σ : k_St} (hn : 101 ≤ n) (hW : 0 ≤ σ.1 69 0 ∧ σ.1 69 0 ≤ 300) (hfl : 1 ≤ σ.2.1 68 11 ∧ σ.2.1 68 11 ≤ 50)  : k_run G X mX12_pages [.ref 68] n σ 0 0 (k_is n σ (some (j_i (f_page (σ.1 69 0) (σ.2.1 68 11) + 1)))) := by
  refine k_enter (by decide +kernel) (Nat.le_of_ble_eq_true rfl) ?_
  show j_at _ _ _ [(0, .ref 68)] [] _ _ _ _
  refine a_aload_n (pc := 0) (i := 0) (by decide +kernel) rfl ?_
  refine b_pureV (pc := 1) [] [] ml_X12_124 (by decide +kernel) rfl rfl (sh_68 hn) rfl rfl (Nat.le_of_ble_eq_true rfl) (j_fitI rfl rfl) (s_dwords hn) ?_
  show j_at _ _ _ [(0, .ref 68)] [j_i (σ.1 69 0)] _ _ _ _
  refine a_aload_n (pc := 4) (i := 0) (by decide +kernel) rfl ?_
  refine b_getI (pc := 5) fl_X12_26 (by decide +kernel) (sh_68 hn) rfl ?_
  refine a_iadd (pc := 8) (by decide +kernel) ?_
  refine a_iconst (pc := 9) (n := 1) (by decide +kernel) ?_
  refine a_isub (pc := 10) (by decide +kernel) ?_
  refine a_aload_n (pc := 11) (i := 0) (by decide +kernel) rfl ?_
  refine b_getI (pc := 12) fl_X12_26 (by decide +kernel) (sh_68 hn) rfl ?_
  refine a_idiv (pc := 15) (by decide +kernel) (by omega) (by omega) ?_
  have hpd := f_pages hfl.1 hW.1
  have hp0 : 0 ≤ (σ.1 69 0 + σ.2.1 68 11 - 1) / σ.2.1 68 11 := Int.ediv_nonneg (by omega) (by omega)
  have hp1 : (σ.1 69 0 + σ.2.1 68 11 - 1) / σ.2.1 68 11 ≤ σ.1 69 0 + σ.2.1 68 11 - 1 := Int.ediv_le_self _ (by omega)
  refine a_istore_n (pc := 16) (i := 1) (lv' := [(0, .ref 68), (1, j_i ((((σ.1 69 0) + (σ.2.1 68 11)) - 1) / (σ.2.1 68 11)))]) (by decide +kernel) (Nat.le_of_ble_eq_true rfl) rfl ?_
  refine a_iload_n (pc := 17) (i := 1) (by decide +kernel) rfl ?_
  refine a_iconst (pc := 18) (n := 1) (by decide +kernel) ?_
  refine a_icmp_ge (pc := 19) (off := 7) (tgt := 26) (by decide +kernel) (by decide) (by omega) (by omega) (fun c19 => ?_) (fun c19 => ?_)
  · refine a_iload_n (pc := 26) (i := 1) (by decide +kernel) rfl ?_
    refine a_ireturn (pc := 27) (by decide +kernel) rfl ?_
    refine k_ret ?_
    refine ⟨?_, rfl, rfl⟩
    first | rw [if_pos (by omega)] at hpd; rw [← hpd] | rw [if_neg (by omega)] at hpd; rw [← hpd]
  · refine a_iconst (pc := 22) (n := 1) (by decide +kernel) ?_
    refine a_goto (pc := 23) (off := 4) (tgt := 27) (by decide +kernel) (by decide) ?_
    refine a_ireturn (pc := 27) (by decide +kernel) rfl ?_
    refine k_ret ?_
    refine ⟨?_, rfl, rfl⟩
    first | rw [if_pos (by omega)] at hpd; rw [← hpd] | rw [if_neg (by omega)] at hpd; rw [← hpd]
set_option maxHeartbeats 4000000 in
theorem s_dfails {G : j_G} {X : k_X} {n : Nat} {σ : k_St} (hn : 101 ≤ n) {k : Int}  : k_run G X mX12_fails [.ref 68, j_i k] n σ 0 0 (k_is n (k_sI σ 68 0 k) (some (j_i (-10 - k)))) := by
  refine k_enter (by decide +kernel) (Nat.le_of_ble_eq_true rfl) ?_
  show j_at _ _ _ [(0, .ref 68), (1, j_i k)] [] _ _ _ _
  refine a_aload_n (pc := 0) (i := 0) (by decide +kernel) rfl ?_
  refine a_iload_n (pc := 1) (i := 1) (by decide +kernel) rfl ?_
  refine b_putI (pc := 2) fl_X12_115 (by decide +kernel) (sh_68 hn) rfl rfl rfl ?_
  obtain ⟨σ1, hσ1⟩ : ∃ z, z = k_sI σ 68 0 k := ⟨_, rfl⟩
  rw [← hσ1]
  refine a_bipush (pc := 5) (n := (-10)) (by decide +kernel) rfl ?_
  refine a_iload_n (pc := 7) (i := 1) (by decide +kernel) rfl ?_
  refine a_isub (pc := 8) (by decide +kernel) ?_
  refine a_ireturn (pc := 9) (by decide +kernel) rfl ?_
  refine k_ret ?_
  exact ⟨rfl, rfl, by rw [hσ1]⟩
set_option maxHeartbeats 4000000 in
theorem s_dbegins {G : j_G} {X : k_X} {n : Nat} {σ : k_St} (hn : 101 ≤ n) {k : Int}  : k_run G X mX12_begins [.ref 68, j_i k] n σ 0 0 (k_is n (k_sI σ 68 1 (31 * σ.2.1 68 1 + k)) none) := by
  refine k_enter (by decide +kernel) (Nat.le_of_ble_eq_true rfl) ?_
  show j_at _ _ _ [(0, .ref 68), (1, j_i k)] [] _ _ _ _
  refine a_aload_n (pc := 0) (i := 0) (by decide +kernel) rfl ?_
  refine a_bipush (pc := 1) (n := 31) (by decide +kernel) rfl ?_
  refine a_aload_n (pc := 3) (i := 0) (by decide +kernel) rfl ?_
  refine b_getI (pc := 4) fl_X12_275 (by decide +kernel) (sh_68 hn) rfl ?_
  refine a_imul (pc := 7) (by decide +kernel) ?_
  refine a_iload_n (pc := 8) (i := 1) (by decide +kernel) rfl ?_
  refine a_iadd (pc := 9) (by decide +kernel) ?_
  refine b_putI (pc := 10) fl_X12_275 (by decide +kernel) (sh_68 hn) rfl rfl rfl ?_
  obtain ⟨σ1, hσ1⟩ : ∃ z, z = k_sI σ 68 1 ((31 * (σ.2.1 68 1)) + k) := ⟨_, rfl⟩
  rw [← hσ1]
  refine a_return (pc := 13) (by decide +kernel) rfl ?_
  refine k_ret ?_
  exact ⟨rfl, rfl, by rw [hσ1]⟩
theorem j_cpy_s {f g : Int → Int} {sp dp k : Int} (hk : 0 ≤ k) : j_up (j_cpy f g sp dp k) (dp + k) (f (sp + k)) = j_cpy f g sp dp (k + 1) := by
  funext i
  unfold j_up j_cpy
  by_cases h : i = dp + k
  · subst h; rw [if_pos rfl, if_pos (by omega), show sp + (dp + k - dp) = sp + k by omega]
  · rw [if_neg h]
    by_cases q : dp ≤ i ∧ i < dp + k
    · rw [if_pos q, if_pos (by omega)]
    · rw [if_neg q, if_neg (by omega)]
/-- where the next act is kept -/
def d_f (σ : k_St) : Int := if σ.2.1 68 5 = 40 then (σ.2.1 68 4 + 1) % 40 else σ.2.1 68 4
def d_m (σ : k_St) : Int := if σ.2.1 68 5 = 40 then 39 else σ.2.1 68 5
def d_kp (σ : k_St) : k_St := (fun c => if c = 70 then j_cpy (σ.1 69) (σ.1 70) 0 ((d_f σ + d_m σ) % 40 * 1733) 1733 else σ.1 c, fun c j => if c = 68 ∧ j = 5 then d_m σ + 1 else if c = 68 ∧ j = 4 then d_f σ else σ.2.1 c j, σ.2.2)
theorem d_kp_69 {σ : k_St} {c : Nat} (h : c ≠ 70) : (d_kp σ).1 c = σ.1 c := if_neg h
set_option maxHeartbeats 4000000 in
theorem l_dkeep {G : j_G} {X : k_X} {n : Nat} {ρ : k_St} (hn : 101 ≤ n) {s : Int} (hs : 0 ≤ s ∧ s < 40) {Q : k_P} (kk : ∀ τ, τ = k_sI (k_sA ρ 70 (j_cpy (ρ.1 69) (ρ.1 70) 0 (s * 1733) 1733)) 68 5 (ρ.2.1 68 5 + 1) → Q none n τ)  : ∀ (m : Nat) (k : Int) (τ : k_St), 1733 - k < (m : Int) → 0 ≤ k → k ≤ 1733 → τ = k_sA ρ 70 (j_cpy (ρ.1 69) (ρ.1 70) 0 (s * 1733) k) → j_at G mX12_keep 51 [(0, .ref 68), (1, j_i (s * 1733)), (2, j_i k)] [] (k_h X n τ) 0 0 (k_Q X Q) := by
  intro m
  induction m with
  | zero => intro k τ h1 h2 h3; exact absurd h1 (by omega)
  | succ m ih =>
    intro k τ hm h0 hN hτ
    refine a_iload_n (pc := 51) (i := 2) (by decide +kernel) rfl ?_
    refine a_sipush (pc := 52) (n := 1733) (by decide +kernel) rfl ?_
    refine a_icmp_ge (pc := 55) (off := 23) (tgt := 78) (by decide +kernel) (by decide) (by omega) (by omega) (fun c55 => ?_) (fun c55 => ?_)
    · refine a_aload_n (pc := 78) (i := 0) (by decide +kernel) rfl ?_
      refine a_dup (pc := 79) (by decide +kernel) rfl ?_
      refine b_getI (pc := 80) fl_X12_118 (by decide +kernel) (sh_68 hn) rfl ?_
      rw [show τ.2.1 68 5 = ρ.2.1 68 5 by rw [hτ]; rfl]
      refine a_iconst (pc := 83) (n := 1) (by decide +kernel) ?_
      refine a_iadd (pc := 84) (by decide +kernel) ?_
      refine b_putI (pc := 85) fl_X12_118 (by decide +kernel) (sh_68 hn) rfl rfl rfl ?_
      obtain ⟨σ1, hσ1⟩ : ∃ z, z = k_sI τ 68 5 ((ρ.2.1 68 5) + 1) := ⟨_, rfl⟩
      rw [← hσ1]
      refine a_return (pc := 88) (by decide +kernel) rfl ?_
      refine k_ret ?_
      exact kk σ1 (by rw [hσ1, hτ, show k = 1733 by omega])
    · refine a_aload_n (pc := 58) (i := 0) (by decide +kernel) rfl ?_
      refine b_getR (pc := 59) (b := 70) fl_X12_14 (by decide +kernel) (sh_68 hn) rfl ?_
      refine a_iload_n (pc := 62) (i := 1) (by decide +kernel) rfl ?_
      refine a_iload_n (pc := 63) (i := 2) (by decide +kernel) rfl ?_
      refine a_iadd (pc := 64) (by decide +kernel) ?_
      refine a_aload_n (pc := 65) (i := 0) (by decide +kernel) rfl ?_
      refine b_getR (pc := 66) (b := 69) fl_X12_7 (by decide +kernel) (sh_68 hn) rfl ?_
      refine a_iload_n (pc := 69) (i := 2) (by decide +kernel) rfl ?_
      refine b_iaload (pc := 70) (by decide +kernel) (sh_69 hn) (by omega) (by omega) (by omega) ?_
      rw [show τ.1 69 = ρ.1 69 by rw [hτ]; exact k_AN (by omega)]
      refine b_iastore (pc := 71) (by decide +kernel) (sh_70 hn) (by omega) (by omega) (by omega) ?_
      obtain ⟨σ2, hσ2⟩ : ∃ z, z = k_sA τ 70 (j_up (τ.1 70) ((s * 1733) + k) (ρ.1 69 k)) := ⟨_, rfl⟩
      rw [← hσ2]
      have eσ2 : σ2 = k_sA ρ 70 (j_cpy (ρ.1 69) (ρ.1 70) 0 (s * 1733) (k + 1)) := by
        rw [hσ2, hτ, k_AA, ← j_cpy_s (by omega), show (0 : Int) + k = k by omega]; unfold k_sA; refine Prod.ext ?_ rfl; funext b; show (if b = 70 then _ else if b = 70 then _ else ρ.1 b) = if b = 70 then _ else ρ.1 b; by_cases q : b = 70; simp only [if_pos q]; simp only [if_neg q]
      refine a_iinc (pc := 72) (i := 2) (n := 1) (x := k) (lv' := [(0, .ref 68), (1, j_i (s * 1733)), (2, j_i (k + 1))]) (by decide +kernel) rfl (Nat.le_of_ble_eq_true rfl) rfl ?_
      refine a_goto (pc := 75) (off := -24) (tgt := 51) (by decide +kernel) (by decide) ?_
      exact ih (k + 1) σ2 (by omega) (by omega) (by omega) eσ2
set_option maxHeartbeats 4000000 in
theorem s_dkeep {G : j_G} {X : k_X} {n : Nat} {σ : k_St} (hn : 101 ≤ n) (hf : 0 ≤ σ.2.1 68 4 ∧ σ.2.1 68 4 < 40) (hm : 0 ≤ σ.2.1 68 5 ∧ σ.2.1 68 5 ≤ 40)  : k_run G X mX12_keep [.ref 68] n σ 0 0 (k_is n (d_kp σ) none) := by
  refine k_enter (by decide +kernel) (Nat.le_of_ble_eq_true rfl) ?_
  show j_at _ _ _ [(0, .ref 68)] [] _ _ _ _
  refine a_aload_n (pc := 0) (i := 0) (by decide +kernel) rfl ?_
  refine b_getI (pc := 1) fl_X12_118 (by decide +kernel) (sh_68 hn) rfl ?_
  refine a_bipush (pc := 4) (n := 40) (by decide +kernel) rfl ?_
  refine a_icmp_ne (pc := 6) (off := 26) (tgt := 32) (by decide +kernel) (by decide) (by omega) (by omega) (fun c6 => ?_) (fun c6 => ?_)
  · refine a_aload_n (pc := 32) (i := 0) (by decide +kernel) rfl ?_
    refine b_getI (pc := 33) fl_X12_121 (by decide +kernel) (sh_68 hn) rfl ?_
    refine a_aload_n (pc := 36) (i := 0) (by decide +kernel) rfl ?_
    refine b_getI (pc := 37) fl_X12_118 (by decide +kernel) (sh_68 hn) rfl ?_
    refine a_iadd (pc := 40) (by decide +kernel) ?_
    refine a_bipush (pc := 41) (n := 40) (by decide +kernel) rfl ?_
    refine a_irem (pc := 43) (by decide +kernel) (by omega) (by omega) ?_
    refine a_sipush (pc := 44) (n := 1733) (by decide +kernel) rfl ?_
    refine a_imul (pc := 47) (by decide +kernel) ?_
    refine a_istore_n (pc := 48) (i := 1) (lv' := [(0, .ref 68), (1, j_i ((((σ.2.1 68 4) + (σ.2.1 68 5)) % 40) * 1733))]) (by decide +kernel) (Nat.le_of_ble_eq_true rfl) rfl ?_
    refine a_iconst (pc := 49) (n := 0) (by decide +kernel) ?_
    refine a_istore_n (pc := 50) (i := 2) (lv' := [(0, .ref 68), (1, j_i ((((σ.2.1 68 4) + (σ.2.1 68 5)) % 40) * 1733)), (2, j_i 0)]) (by decide +kernel) (Nat.le_of_ble_eq_true rfl) rfl ?_
    have hs9 : 0 ≤ (d_f σ + d_m σ) % 40 ∧ (d_f σ + d_m σ) % 40 < 40 := by omega
    have ef : d_f σ = σ.2.1 68 4 := if_neg c6
    have em : d_m σ = σ.2.1 68 5 := if_neg c6
    rw [← ef, ← em]
    refine l_dkeep hn hs9 (fun τ hτ => ⟨rfl, rfl, ?_⟩) 1734 0 σ (by omega) (by omega) (by omega) (by rw [j_cpy_0]; unfold k_sA; refine Prod.ext ?_ rfl; funext b; show σ.1 b = if b = 70 then σ.1 70 else σ.1 b; split; subst b; rfl; rfl)
    rw [hτ]
    unfold d_kp k_sA k_sI
    refine Prod.ext (by funext c; rfl) (Prod.ext ?_ rfl)
    funext c j
    show (if c = 68 ∧ j = 5 then σ.2.1 68 5 + 1 else σ.2.1 c j) = (if c = 68 ∧ j = 5 then d_m σ + 1 else if c = 68 ∧ j = 4 then d_f σ else σ.2.1 c j)
    rw [ef, em]
    by_cases q : c = 68 ∧ j = 5
    · rw [if_pos q, if_pos q]
    · rw [if_neg q, if_neg q]
      split
      · rename_i q2; rw [q2.1, q2.2]
      · rfl
  · refine a_aload_n (pc := 9) (i := 0) (by decide +kernel) rfl ?_
    refine a_aload_n (pc := 10) (i := 0) (by decide +kernel) rfl ?_
    refine b_getI (pc := 11) fl_X12_121 (by decide +kernel) (sh_68 hn) rfl ?_
    refine a_iconst (pc := 14) (n := 1) (by decide +kernel) ?_
    refine a_iadd (pc := 15) (by decide +kernel) ?_
    refine a_bipush (pc := 16) (n := 40) (by decide +kernel) rfl ?_
    refine a_irem (pc := 18) (by decide +kernel) (by omega) (by omega) ?_
    refine b_putI (pc := 19) fl_X12_121 (by decide +kernel) (sh_68 hn) rfl rfl rfl ?_
    obtain ⟨σ1, hσ1⟩ : ∃ z, z = k_sI σ 68 4 (((σ.2.1 68 4) + 1) % 40) := ⟨_, rfl⟩
    rw [← hσ1]
    refine a_aload_n (pc := 22) (i := 0) (by decide +kernel) rfl ?_
    refine a_dup (pc := 23) (by decide +kernel) rfl ?_
    refine b_getI (pc := 24) fl_X12_118 (by decide +kernel) (sh_68 hn) rfl ?_
    rw [show σ1.2.1 68 5 = σ.2.1 68 5 by rw [hσ1]; exact k_IN (by omega)]
    refine a_iconst (pc := 27) (n := 1) (by decide +kernel) ?_
    refine a_isub (pc := 28) (by decide +kernel) ?_
    refine b_putI (pc := 29) fl_X12_118 (by decide +kernel) (sh_68 hn) rfl rfl rfl ?_
    obtain ⟨σ2, hσ2⟩ : ∃ z, z = k_sI σ1 68 5 ((σ.2.1 68 5) - 1) := ⟨_, rfl⟩
    rw [← hσ2]
    refine a_aload_n (pc := 32) (i := 0) (by decide +kernel) rfl ?_
    refine b_getI (pc := 33) fl_X12_121 (by decide +kernel) (sh_68 hn) rfl ?_
    rw [show σ2.2.1 68 4 = σ1.2.1 68 4 by rw [hσ2]; exact k_IN (by omega)]
    rw [show σ1.2.1 68 4 = ((σ.2.1 68 4) + 1) % 40 by rw [hσ1]; exact k_II]
    refine a_aload_n (pc := 36) (i := 0) (by decide +kernel) rfl ?_
    refine b_getI (pc := 37) fl_X12_118 (by decide +kernel) (sh_68 hn) rfl ?_
    rw [show σ2.2.1 68 5 = (σ.2.1 68 5) - 1 by rw [hσ2]; exact k_II]
    refine a_iadd (pc := 40) (by decide +kernel) ?_
    refine a_bipush (pc := 41) (n := 40) (by decide +kernel) rfl ?_
    refine a_irem (pc := 43) (by decide +kernel) (by omega) (by omega) ?_
    refine a_sipush (pc := 44) (n := 1733) (by decide +kernel) rfl ?_
    refine a_imul (pc := 47) (by decide +kernel) ?_
    refine a_istore_n (pc := 48) (i := 1) (lv' := [(0, .ref 68), (1, j_i ((((((σ.2.1 68 4) + 1) % 40) + ((σ.2.1 68 5) - 1)) % 40) * 1733))]) (by decide +kernel) (Nat.le_of_ble_eq_true rfl) rfl ?_
    refine a_iconst (pc := 49) (n := 0) (by decide +kernel) ?_
    refine a_istore_n (pc := 50) (i := 2) (lv' := [(0, .ref 68), (1, j_i ((((((σ.2.1 68 4) + 1) % 40) + ((σ.2.1 68 5) - 1)) % 40) * 1733)), (2, j_i 0)]) (by decide +kernel) (Nat.le_of_ble_eq_true rfl) rfl ?_
    have hs9 : 0 ≤ (d_f σ + d_m σ) % 40 ∧ (d_f σ + d_m σ) % 40 < 40 := by omega
    have ef : d_f σ = (σ.2.1 68 4 + 1) % 40 := if_pos c6
    have em : d_m σ = 39 := if_pos c6
    rw [c6, show ((40 : Int) - 1) = 39 by rfl, ← ef, ← em]
    refine l_dkeep hn hs9 (fun τ hτ => ⟨rfl, rfl, ?_⟩) 1734 0 σ2 (by omega) (by omega) (by omega) (by rw [j_cpy_0]; unfold k_sA; refine Prod.ext ?_ rfl; funext b; show σ2.1 b = if b = 70 then σ2.1 70 else σ2.1 b; split; subst b; rfl; rfl)
    rw [hτ, hσ2, hσ1]
    unfold d_kp k_sA k_sI
    simp only [c6, ef, em]
    refine Prod.ext (by funext c; rfl) (Prod.ext ?_ rfl)
    funext c j
    show (if c = 68 ∧ j = 5 then _ else if c = 68 ∧ j = 5 then _ else if c = 68 ∧ j = 4 then _ else _) = _
    by_cases q : c = 68 ∧ j = 5
    · simp [q]
    · simp only [if_neg q]
