def ld (c k : Int) : Int := if c = 1 ∧ k ≠ 3 then 1 else 0
theorem i_wt_ld {k f t c : Int} : i_wt k f t c = ((ld c k * 300 + f) * 4 + i_rank k) * 100 + t := rfl
theorem ld_v (c k : Int) : ((c = 1 ∧ k ≠ 3) ∧ ld c k = 1) ∨ (¬ (c = 1 ∧ k ≠ 3) ∧ ld c k = 0) := by
  unfold ld; split
  · exact Or.inl ⟨by assumption, rfl⟩
  · exact Or.inr ⟨by assumption, rfl⟩
def kd (k : Int) : Prop := k = 0 ∨ k = 3 ∨ k = 4 ∨ k = 5
theorem rk_v {k : Int} (h : kd k) : (k = 0 ∧ i_rank k = 1) ∨ (k = 3 ∧ i_rank k = 0) ∨ (k = 4 ∧ i_rank k = 3) ∨ (k = 5 ∧ i_rank k = 2) := by
  rcases h with h | h | h | h <;> subst h <;> decide
set_option maxHeartbeats 4000000 in
theorem e_isPlaceBehind {G : j_G} {X : k_X} {n : Nat} {σ : k_St} (hn : 101 ≤ n) {p k f t c A B N : Int} (p0 : 0 ≤ p ∧ p + 3 < 1200) (hA : σ.1 86 p = A) (hB : σ.1 86 (p + 1) = B) (hN : σ.1 86 (p + 3) = N) (rA : kd A) (rB : 0 ≤ B ∧ B ≤ 299) (rN : 0 ≤ N ∧ N ≤ 99) (rk : kd k) (rf : 0 ≤ f ∧ f ≤ 299) (rt : 0 ≤ t ∧ t ≤ 99) (rc : c = 0 ∨ c = 1) : k_run G X mX12_isPlaceBehind [.ref 68, j_i p, j_i k, j_i f, j_i t, j_i c] n σ 0 0 (k_b n σ (i_wt k f t c < i_wt A B N c)) := by
  have l1 := ld_v c A
  have l2 := ld_v c k
  have k1 := rk_v rA
  have k2 := rk_v rk
  refine k_enter (by decide +kernel) (Nat.le_of_ble_eq_true rfl) ?_
  show j_at _ _ _ [(0, .ref 68), (1, j_i p), (2, j_i k), (3, j_i f), (4, j_i t), (5, j_i c)] [] _ _ _ _
  refine a_iload (pc := 0) (i := 5) (by decide +kernel) rfl ?_
  refine a_iconst (pc := 2) (n := 1) (by decide +kernel) ?_
  refine a_icmp_ne (pc := 3) (off := 42) (tgt := 45) (by decide +kernel) (by decide) (by omega) (by omega) (fun c3 => ?_) (fun c3 => ?_)
  · refine a_aload_n (pc := 45) (i := 0) (by decide +kernel) rfl ?_
    refine b_getR (pc := 46) (b := 86) fl_X12_66 (by decide +kernel) (sh_68 hn) rfl ?_
    refine a_iload_n (pc := 49) (i := 1) (by decide +kernel) rfl ?_
    refine a_iconst (pc := 50) (n := 1) (by decide +kernel) ?_
    refine a_iadd (pc := 51) (by decide +kernel) ?_
    refine b_iaload (pc := 52) (by decide +kernel) (sh_86 hn) (by omega) (by omega) (by omega) ?_
    rw [hB]
    refine a_iload_n (pc := 53) (i := 3) (by decide +kernel) rfl ?_
    refine a_icmp_eq (pc := 54) (off := 21) (tgt := 75) (by decide +kernel) (by decide) (by omega) (by omega) (fun c54 => ?_) (fun c54 => ?_)
    · refine a_aload_n (pc := 75) (i := 0) (by decide +kernel) rfl ?_
      refine b_getR (pc := 76) (b := 86) fl_X12_66 (by decide +kernel) (sh_68 hn) rfl ?_
      refine a_iload_n (pc := 79) (i := 1) (by decide +kernel) rfl ?_
      refine b_iaload (pc := 80) (by decide +kernel) (sh_86 hn) (by omega) (by omega) (by omega) ?_
      rw [hA]
      refine a_iload_n (pc := 81) (i := 2) (by decide +kernel) rfl ?_
      refine a_icmp_eq (pc := 82) (off := 25) (tgt := 107) (by decide +kernel) (by decide) (by omega) (by omega) (fun c82 => ?_) (fun c82 => ?_)
      · refine a_aload_n (pc := 107) (i := 0) (by decide +kernel) rfl ?_
        refine b_getR (pc := 108) (b := 86) fl_X12_66 (by decide +kernel) (sh_68 hn) rfl ?_
        refine a_iload_n (pc := 111) (i := 1) (by decide +kernel) rfl ?_
        refine a_iconst (pc := 112) (n := 3) (by decide +kernel) ?_
        refine a_iadd (pc := 113) (by decide +kernel) ?_
        refine b_iaload (pc := 114) (by decide +kernel) (sh_86 hn) (by omega) (by omega) (by omega) ?_
        rw [hN]
        refine a_iload (pc := 115) (i := 4) (by decide +kernel) rfl ?_
        refine a_icmp_le (pc := 117) (off := 7) (tgt := 124) (by decide +kernel) (by decide) (by omega) (by omega) (fun c117 => ?_) (fun c117 => ?_)
        · refine a_iconst (pc := 124) (n := 0) (by decide +kernel) ?_
          refine a_zreturn (pc := 125) (by decide +kernel) rfl (by omega) ?_
          refine k_ret ?_
          exact ⟨_, rfl, rfl, rfl, Or.inr ⟨rfl, by rw [i_wt_ld, i_wt_ld]; omega⟩⟩
        · refine a_iconst (pc := 120) (n := 1) (by decide +kernel) ?_
          refine a_goto (pc := 121) (off := 4) (tgt := 125) (by decide +kernel) (by decide) ?_
          refine a_zreturn (pc := 125) (by decide +kernel) rfl (by omega) ?_
          refine k_ret ?_
          exact ⟨_, rfl, rfl, rfl, Or.inl ⟨rfl, by rw [i_wt_ld, i_wt_ld]; omega⟩⟩
      · refine a_aload_n (pc := 85) (i := 0) (by decide +kernel) rfl ?_
        refine b_getR (pc := 86) (b := 86) fl_X12_66 (by decide +kernel) (sh_68 hn) rfl ?_
        refine a_iload_n (pc := 89) (i := 1) (by decide +kernel) rfl ?_
        refine b_iaload (pc := 90) (by decide +kernel) (sh_86 hn) (by omega) (by omega) (by omega) ?_
        rw [hA]
        refine b_pureS (pc := 91) [j_i A] [] ml_X12_330 (by decide +kernel) rfl rfl (Nat.le_of_ble_eq_true rfl) (j_fitI rfl rfl) (s_drankOf (by unfold kd at *; omega) (by unfold kd at *; omega)) ?_
        show j_at _ _ _ [(0, .ref 68), (1, j_i p), (2, j_i k), (3, j_i f), (4, j_i t), (5, j_i c)] [j_i (i_rank A)] _ _ _ _
        refine a_iload_n (pc := 94) (i := 2) (by decide +kernel) rfl ?_
        refine b_pureS (pc := 95) [j_i k] [j_i (i_rank A)] ml_X12_330 (by decide +kernel) rfl rfl (Nat.le_of_ble_eq_true rfl) (j_fitI rfl rfl) (s_drankOf (by unfold kd at *; omega) (by unfold kd at *; omega)) ?_
        show j_at _ _ _ [(0, .ref 68), (1, j_i p), (2, j_i k), (3, j_i f), (4, j_i t), (5, j_i c)] [j_i (i_rank k), j_i (i_rank A)] _ _ _ _
        refine a_icmp_le (pc := 98) (off := 7) (tgt := 105) (by decide +kernel) (by decide) (by omega) (by omega) (fun c98 => ?_) (fun c98 => ?_)
        · refine a_iconst (pc := 105) (n := 0) (by decide +kernel) ?_
          refine a_zreturn (pc := 106) (by decide +kernel) rfl (by omega) ?_
          refine k_ret ?_
          exact ⟨_, rfl, rfl, rfl, Or.inr ⟨rfl, by rw [i_wt_ld, i_wt_ld]; omega⟩⟩
        · refine a_iconst (pc := 101) (n := 1) (by decide +kernel) ?_
          refine a_goto (pc := 102) (off := 4) (tgt := 106) (by decide +kernel) (by decide) ?_
          refine a_zreturn (pc := 106) (by decide +kernel) rfl (by omega) ?_
          refine k_ret ?_
          exact ⟨_, rfl, rfl, rfl, Or.inl ⟨rfl, by rw [i_wt_ld, i_wt_ld]; omega⟩⟩
    · refine a_aload_n (pc := 57) (i := 0) (by decide +kernel) rfl ?_
      refine b_getR (pc := 58) (b := 86) fl_X12_66 (by decide +kernel) (sh_68 hn) rfl ?_
      refine a_iload_n (pc := 61) (i := 1) (by decide +kernel) rfl ?_
      refine a_iconst (pc := 62) (n := 1) (by decide +kernel) ?_
      refine a_iadd (pc := 63) (by decide +kernel) ?_
      refine b_iaload (pc := 64) (by decide +kernel) (sh_86 hn) (by omega) (by omega) (by omega) ?_
      rw [hB]
      refine a_iload_n (pc := 65) (i := 3) (by decide +kernel) rfl ?_
      refine a_icmp_le (pc := 66) (off := 7) (tgt := 73) (by decide +kernel) (by decide) (by omega) (by omega) (fun c66 => ?_) (fun c66 => ?_)
      · refine a_iconst (pc := 73) (n := 0) (by decide +kernel) ?_
        refine a_zreturn (pc := 74) (by decide +kernel) rfl (by omega) ?_
        refine k_ret ?_
        exact ⟨_, rfl, rfl, rfl, Or.inr ⟨rfl, by rw [i_wt_ld, i_wt_ld]; omega⟩⟩
      · refine a_iconst (pc := 69) (n := 1) (by decide +kernel) ?_
        refine a_goto (pc := 70) (off := 4) (tgt := 74) (by decide +kernel) (by decide) ?_
        refine a_zreturn (pc := 74) (by decide +kernel) rfl (by omega) ?_
        refine k_ret ?_
        exact ⟨_, rfl, rfl, rfl, Or.inl ⟨rfl, by rw [i_wt_ld, i_wt_ld]; omega⟩⟩
  · refine a_aload_n (pc := 6) (i := 0) (by decide +kernel) rfl ?_
    refine b_getR (pc := 7) (b := 86) fl_X12_66 (by decide +kernel) (sh_68 hn) rfl ?_
    refine a_iload_n (pc := 10) (i := 1) (by decide +kernel) rfl ?_
    refine b_iaload (pc := 11) (by decide +kernel) (sh_86 hn) (by omega) (by omega) (by omega) ?_
    rw [hA]
    refine a_iconst (pc := 12) (n := 3) (by decide +kernel) ?_
    refine a_icmp_ne (pc := 13) (off := 7) (tgt := 20) (by decide +kernel) (by decide) (by omega) (by omega) (fun c13 => ?_) (fun c13 => ?_)
    · refine a_iconst (pc := 20) (n := 0) (by decide +kernel) ?_
      refine a_iload_n (pc := 21) (i := 2) (by decide +kernel) rfl ?_
      refine a_iconst (pc := 22) (n := 3) (by decide +kernel) ?_
      refine a_icmp_ne (pc := 23) (off := 7) (tgt := 30) (by decide +kernel) (by decide) (by omega) (by omega) (fun c23 => ?_) (fun c23 => ?_)
      · refine a_iconst (pc := 30) (n := 0) (by decide +kernel) ?_
        refine a_icmp_eq (pc := 31) (off := 14) (tgt := 45) (by decide +kernel) (by decide) (by omega) (by omega) (fun c31 => ?_) (fun c31 => ?_)
        · refine a_aload_n (pc := 45) (i := 0) (by decide +kernel) rfl ?_
          refine b_getR (pc := 46) (b := 86) fl_X12_66 (by decide +kernel) (sh_68 hn) rfl ?_
          refine a_iload_n (pc := 49) (i := 1) (by decide +kernel) rfl ?_
          refine a_iconst (pc := 50) (n := 1) (by decide +kernel) ?_
          refine a_iadd (pc := 51) (by decide +kernel) ?_
          refine b_iaload (pc := 52) (by decide +kernel) (sh_86 hn) (by omega) (by omega) (by omega) ?_
          rw [hB]
          refine a_iload_n (pc := 53) (i := 3) (by decide +kernel) rfl ?_
          refine a_icmp_eq (pc := 54) (off := 21) (tgt := 75) (by decide +kernel) (by decide) (by omega) (by omega) (fun c54 => ?_) (fun c54 => ?_)
          · refine a_aload_n (pc := 75) (i := 0) (by decide +kernel) rfl ?_
            refine b_getR (pc := 76) (b := 86) fl_X12_66 (by decide +kernel) (sh_68 hn) rfl ?_
            refine a_iload_n (pc := 79) (i := 1) (by decide +kernel) rfl ?_
            refine b_iaload (pc := 80) (by decide +kernel) (sh_86 hn) (by omega) (by omega) (by omega) ?_
            rw [hA]
            refine a_iload_n (pc := 81) (i := 2) (by decide +kernel) rfl ?_
            refine a_icmp_eq (pc := 82) (off := 25) (tgt := 107) (by decide +kernel) (by decide) (by omega) (by omega) (fun c82 => ?_) (fun c82 => ?_)
            · refine a_aload_n (pc := 107) (i := 0) (by decide +kernel) rfl ?_
              refine b_getR (pc := 108) (b := 86) fl_X12_66 (by decide +kernel) (sh_68 hn) rfl ?_
              refine a_iload_n (pc := 111) (i := 1) (by decide +kernel) rfl ?_
              refine a_iconst (pc := 112) (n := 3) (by decide +kernel) ?_
              refine a_iadd (pc := 113) (by decide +kernel) ?_
              refine b_iaload (pc := 114) (by decide +kernel) (sh_86 hn) (by omega) (by omega) (by omega) ?_
              rw [hN]
              refine a_iload (pc := 115) (i := 4) (by decide +kernel) rfl ?_
              refine a_icmp_le (pc := 117) (off := 7) (tgt := 124) (by decide +kernel) (by decide) (by omega) (by omega) (fun c117 => ?_) (fun c117 => ?_)
              · refine a_iconst (pc := 124) (n := 0) (by decide +kernel) ?_
                refine a_zreturn (pc := 125) (by decide +kernel) rfl (by omega) ?_
                refine k_ret ?_
                exact ⟨_, rfl, rfl, rfl, Or.inr ⟨rfl, by rw [i_wt_ld, i_wt_ld]; omega⟩⟩
              · refine a_iconst (pc := 120) (n := 1) (by decide +kernel) ?_
                refine a_goto (pc := 121) (off := 4) (tgt := 125) (by decide +kernel) (by decide) ?_
                refine a_zreturn (pc := 125) (by decide +kernel) rfl (by omega) ?_
                refine k_ret ?_
                exact ⟨_, rfl, rfl, rfl, Or.inl ⟨rfl, by rw [i_wt_ld, i_wt_ld]; omega⟩⟩
            · refine a_aload_n (pc := 85) (i := 0) (by decide +kernel) rfl ?_
              refine b_getR (pc := 86) (b := 86) fl_X12_66 (by decide +kernel) (sh_68 hn) rfl ?_
              refine a_iload_n (pc := 89) (i := 1) (by decide +kernel) rfl ?_
              refine b_iaload (pc := 90) (by decide +kernel) (sh_86 hn) (by omega) (by omega) (by omega) ?_
              rw [hA]
              refine b_pureS (pc := 91) [j_i A] [] ml_X12_330 (by decide +kernel) rfl rfl (Nat.le_of_ble_eq_true rfl) (j_fitI rfl rfl) (s_drankOf (by unfold kd at *; omega) (by unfold kd at *; omega)) ?_
              show j_at _ _ _ [(0, .ref 68), (1, j_i p), (2, j_i k), (3, j_i f), (4, j_i t), (5, j_i c)] [j_i (i_rank A)] _ _ _ _
              refine a_iload_n (pc := 94) (i := 2) (by decide +kernel) rfl ?_
              refine b_pureS (pc := 95) [j_i k] [j_i (i_rank A)] ml_X12_330 (by decide +kernel) rfl rfl (Nat.le_of_ble_eq_true rfl) (j_fitI rfl rfl) (s_drankOf (by unfold kd at *; omega) (by unfold kd at *; omega)) ?_
              show j_at _ _ _ [(0, .ref 68), (1, j_i p), (2, j_i k), (3, j_i f), (4, j_i t), (5, j_i c)] [j_i (i_rank k), j_i (i_rank A)] _ _ _ _
              refine a_icmp_le (pc := 98) (off := 7) (tgt := 105) (by decide +kernel) (by decide) (by omega) (by omega) (fun c98 => ?_) (fun c98 => ?_)
              · refine a_iconst (pc := 105) (n := 0) (by decide +kernel) ?_
                refine a_zreturn (pc := 106) (by decide +kernel) rfl (by omega) ?_
                refine k_ret ?_
                exact ⟨_, rfl, rfl, rfl, Or.inr ⟨rfl, by rw [i_wt_ld, i_wt_ld]; omega⟩⟩
              · refine a_iconst (pc := 101) (n := 1) (by decide +kernel) ?_
                refine a_goto (pc := 102) (off := 4) (tgt := 106) (by decide +kernel) (by decide) ?_
                refine a_zreturn (pc := 106) (by decide +kernel) rfl (by omega) ?_
                refine k_ret ?_
                exact ⟨_, rfl, rfl, rfl, Or.inl ⟨rfl, by rw [i_wt_ld, i_wt_ld]; omega⟩⟩
          · refine a_aload_n (pc := 57) (i := 0) (by decide +kernel) rfl ?_
            refine b_getR (pc := 58) (b := 86) fl_X12_66 (by decide +kernel) (sh_68 hn) rfl ?_
            refine a_iload_n (pc := 61) (i := 1) (by decide +kernel) rfl ?_
            refine a_iconst (pc := 62) (n := 1) (by decide +kernel) ?_
            refine a_iadd (pc := 63) (by decide +kernel) ?_
            refine b_iaload (pc := 64) (by decide +kernel) (sh_86 hn) (by omega) (by omega) (by omega) ?_
            rw [hB]
            refine a_iload_n (pc := 65) (i := 3) (by decide +kernel) rfl ?_
            refine a_icmp_le (pc := 66) (off := 7) (tgt := 73) (by decide +kernel) (by decide) (by omega) (by omega) (fun c66 => ?_) (fun c66 => ?_)
            · refine a_iconst (pc := 73) (n := 0) (by decide +kernel) ?_
              refine a_zreturn (pc := 74) (by decide +kernel) rfl (by omega) ?_
              refine k_ret ?_
              exact ⟨_, rfl, rfl, rfl, Or.inr ⟨rfl, by rw [i_wt_ld, i_wt_ld]; omega⟩⟩
            · refine a_iconst (pc := 69) (n := 1) (by decide +kernel) ?_
              refine a_goto (pc := 70) (off := 4) (tgt := 74) (by decide +kernel) (by decide) ?_
              refine a_zreturn (pc := 74) (by decide +kernel) rfl (by omega) ?_
              refine k_ret ?_
              exact ⟨_, rfl, rfl, rfl, Or.inl ⟨rfl, by rw [i_wt_ld, i_wt_ld]; omega⟩⟩
        · exact absurd c31 (by decide)
      · refine a_iconst (pc := 26) (n := 1) (by decide +kernel) ?_
        refine a_goto (pc := 27) (off := 4) (tgt := 31) (by decide +kernel) (by decide) ?_
        refine a_icmp_eq (pc := 31) (off := 14) (tgt := 45) (by decide +kernel) (by decide) (by omega) (by omega) (fun c31 => ?_) (fun c31 => ?_)
        · exact absurd c31 (by decide)
        · refine a_iload_n (pc := 34) (i := 2) (by decide +kernel) rfl ?_
          refine a_iconst (pc := 35) (n := 3) (by decide +kernel) ?_
          refine a_icmp_ne (pc := 36) (off := 7) (tgt := 43) (by decide +kernel) (by decide) (by omega) (by omega) (fun c36 => ?_) (fun c36 => ?_)
          · refine a_iconst (pc := 43) (n := 0) (by decide +kernel) ?_
            refine a_zreturn (pc := 44) (by decide +kernel) rfl (by omega) ?_
            refine k_ret ?_
            exact ⟨_, rfl, rfl, rfl, Or.inr ⟨rfl, by rw [i_wt_ld, i_wt_ld]; omega⟩⟩
          · refine a_iconst (pc := 39) (n := 1) (by decide +kernel) ?_
            refine a_goto (pc := 40) (off := 4) (tgt := 44) (by decide +kernel) (by decide) ?_
            refine a_zreturn (pc := 44) (by decide +kernel) rfl (by omega) ?_
            refine k_ret ?_
            exact ⟨_, rfl, rfl, rfl, Or.inl ⟨rfl, by rw [i_wt_ld, i_wt_ld]; omega⟩⟩
    · refine a_iconst (pc := 16) (n := 1) (by decide +kernel) ?_
      refine a_goto (pc := 17) (off := 4) (tgt := 21) (by decide +kernel) (by decide) ?_
      refine a_iload_n (pc := 21) (i := 2) (by decide +kernel) rfl ?_
      refine a_iconst (pc := 22) (n := 3) (by decide +kernel) ?_
      refine a_icmp_ne (pc := 23) (off := 7) (tgt := 30) (by decide +kernel) (by decide) (by omega) (by omega) (fun c23 => ?_) (fun c23 => ?_)
      · refine a_iconst (pc := 30) (n := 0) (by decide +kernel) ?_
        refine a_icmp_eq (pc := 31) (off := 14) (tgt := 45) (by decide +kernel) (by decide) (by omega) (by omega) (fun c31 => ?_) (fun c31 => ?_)
        · exact absurd c31 (by decide)
        · refine a_iload_n (pc := 34) (i := 2) (by decide +kernel) rfl ?_
          refine a_iconst (pc := 35) (n := 3) (by decide +kernel) ?_
          refine a_icmp_ne (pc := 36) (off := 7) (tgt := 43) (by decide +kernel) (by decide) (by omega) (by omega) (fun c36 => ?_) (fun c36 => ?_)
          · refine a_iconst (pc := 43) (n := 0) (by decide +kernel) ?_
            refine a_zreturn (pc := 44) (by decide +kernel) rfl (by omega) ?_
            refine k_ret ?_
            exact ⟨_, rfl, rfl, rfl, Or.inr ⟨rfl, by rw [i_wt_ld, i_wt_ld]; omega⟩⟩
          · refine a_iconst (pc := 39) (n := 1) (by decide +kernel) ?_
            refine a_goto (pc := 40) (off := 4) (tgt := 44) (by decide +kernel) (by decide) ?_
            refine a_zreturn (pc := 44) (by decide +kernel) rfl (by omega) ?_
            refine k_ret ?_
            exact ⟨_, rfl, rfl, rfl, Or.inl ⟨rfl, by rw [i_wt_ld, i_wt_ld]; omega⟩⟩
      · refine a_iconst (pc := 26) (n := 1) (by decide +kernel) ?_
        refine a_goto (pc := 27) (off := 4) (tgt := 31) (by decide +kernel) (by decide) ?_
        refine a_icmp_eq (pc := 31) (off := 14) (tgt := 45) (by decide +kernel) (by decide) (by omega) (by omega) (fun c31 => ?_) (fun c31 => ?_)
        · refine a_aload_n (pc := 45) (i := 0) (by decide +kernel) rfl ?_
          refine b_getR (pc := 46) (b := 86) fl_X12_66 (by decide +kernel) (sh_68 hn) rfl ?_
          refine a_iload_n (pc := 49) (i := 1) (by decide +kernel) rfl ?_
          refine a_iconst (pc := 50) (n := 1) (by decide +kernel) ?_
          refine a_iadd (pc := 51) (by decide +kernel) ?_
          refine b_iaload (pc := 52) (by decide +kernel) (sh_86 hn) (by omega) (by omega) (by omega) ?_
          rw [hB]
          refine a_iload_n (pc := 53) (i := 3) (by decide +kernel) rfl ?_
          refine a_icmp_eq (pc := 54) (off := 21) (tgt := 75) (by decide +kernel) (by decide) (by omega) (by omega) (fun c54 => ?_) (fun c54 => ?_)
          · refine a_aload_n (pc := 75) (i := 0) (by decide +kernel) rfl ?_
            refine b_getR (pc := 76) (b := 86) fl_X12_66 (by decide +kernel) (sh_68 hn) rfl ?_
            refine a_iload_n (pc := 79) (i := 1) (by decide +kernel) rfl ?_
            refine b_iaload (pc := 80) (by decide +kernel) (sh_86 hn) (by omega) (by omega) (by omega) ?_
            rw [hA]
            refine a_iload_n (pc := 81) (i := 2) (by decide +kernel) rfl ?_
            refine a_icmp_eq (pc := 82) (off := 25) (tgt := 107) (by decide +kernel) (by decide) (by omega) (by omega) (fun c82 => ?_) (fun c82 => ?_)
            · refine a_aload_n (pc := 107) (i := 0) (by decide +kernel) rfl ?_
              refine b_getR (pc := 108) (b := 86) fl_X12_66 (by decide +kernel) (sh_68 hn) rfl ?_
              refine a_iload_n (pc := 111) (i := 1) (by decide +kernel) rfl ?_
              refine a_iconst (pc := 112) (n := 3) (by decide +kernel) ?_
              refine a_iadd (pc := 113) (by decide +kernel) ?_
              refine b_iaload (pc := 114) (by decide +kernel) (sh_86 hn) (by omega) (by omega) (by omega) ?_
              rw [hN]
              refine a_iload (pc := 115) (i := 4) (by decide +kernel) rfl ?_
              refine a_icmp_le (pc := 117) (off := 7) (tgt := 124) (by decide +kernel) (by decide) (by omega) (by omega) (fun c117 => ?_) (fun c117 => ?_)
              · refine a_iconst (pc := 124) (n := 0) (by decide +kernel) ?_
                refine a_zreturn (pc := 125) (by decide +kernel) rfl (by omega) ?_
                refine k_ret ?_
                exact ⟨_, rfl, rfl, rfl, Or.inr ⟨rfl, by rw [i_wt_ld, i_wt_ld]; omega⟩⟩
              · refine a_iconst (pc := 120) (n := 1) (by decide +kernel) ?_
                refine a_goto (pc := 121) (off := 4) (tgt := 125) (by decide +kernel) (by decide) ?_
                refine a_zreturn (pc := 125) (by decide +kernel) rfl (by omega) ?_
                refine k_ret ?_
                exact ⟨_, rfl, rfl, rfl, Or.inl ⟨rfl, by rw [i_wt_ld, i_wt_ld]; omega⟩⟩
            · refine a_aload_n (pc := 85) (i := 0) (by decide +kernel) rfl ?_
              refine b_getR (pc := 86) (b := 86) fl_X12_66 (by decide +kernel) (sh_68 hn) rfl ?_
              refine a_iload_n (pc := 89) (i := 1) (by decide +kernel) rfl ?_
              refine b_iaload (pc := 90) (by decide +kernel) (sh_86 hn) (by omega) (by omega) (by omega) ?_
              rw [hA]
              refine b_pureS (pc := 91) [j_i A] [] ml_X12_330 (by decide +kernel) rfl rfl (Nat.le_of_ble_eq_true rfl) (j_fitI rfl rfl) (s_drankOf (by unfold kd at *; omega) (by unfold kd at *; omega)) ?_
              show j_at _ _ _ [(0, .ref 68), (1, j_i p), (2, j_i k), (3, j_i f), (4, j_i t), (5, j_i c)] [j_i (i_rank A)] _ _ _ _
              refine a_iload_n (pc := 94) (i := 2) (by decide +kernel) rfl ?_
              refine b_pureS (pc := 95) [j_i k] [j_i (i_rank A)] ml_X12_330 (by decide +kernel) rfl rfl (Nat.le_of_ble_eq_true rfl) (j_fitI rfl rfl) (s_drankOf (by unfold kd at *; omega) (by unfold kd at *; omega)) ?_
              show j_at _ _ _ [(0, .ref 68), (1, j_i p), (2, j_i k), (3, j_i f), (4, j_i t), (5, j_i c)] [j_i (i_rank k), j_i (i_rank A)] _ _ _ _
              refine a_icmp_le (pc := 98) (off := 7) (tgt := 105) (by decide +kernel) (by decide) (by omega) (by omega) (fun c98 => ?_) (fun c98 => ?_)
              · refine a_iconst (pc := 105) (n := 0) (by decide +kernel) ?_
                refine a_zreturn (pc := 106) (by decide +kernel) rfl (by omega) ?_
                refine k_ret ?_
                exact ⟨_, rfl, rfl, rfl, Or.inr ⟨rfl, by rw [i_wt_ld, i_wt_ld]; omega⟩⟩
              · refine a_iconst (pc := 101) (n := 1) (by decide +kernel) ?_
                refine a_goto (pc := 102) (off := 4) (tgt := 106) (by decide +kernel) (by decide) ?_
                refine a_zreturn (pc := 106) (by decide +kernel) rfl (by omega) ?_
                refine k_ret ?_
                exact ⟨_, rfl, rfl, rfl, Or.inl ⟨rfl, by rw [i_wt_ld, i_wt_ld]; omega⟩⟩
          · refine a_aload_n (pc := 57) (i := 0) (by decide +kernel) rfl ?_
            refine b_getR (pc := 58) (b := 86) fl_X12_66 (by decide +kernel) (sh_68 hn) rfl ?_
            refine a_iload_n (pc := 61) (i := 1) (by decide +kernel) rfl ?_
            refine a_iconst (pc := 62) (n := 1) (by decide +kernel) ?_
            refine a_iadd (pc := 63) (by decide +kernel) ?_
            refine b_iaload (pc := 64) (by decide +kernel) (sh_86 hn) (by omega) (by omega) (by omega) ?_
            rw [hB]
            refine a_iload_n (pc := 65) (i := 3) (by decide +kernel) rfl ?_
            refine a_icmp_le (pc := 66) (off := 7) (tgt := 73) (by decide +kernel) (by decide) (by omega) (by omega) (fun c66 => ?_) (fun c66 => ?_)
            · refine a_iconst (pc := 73) (n := 0) (by decide +kernel) ?_
              refine a_zreturn (pc := 74) (by decide +kernel) rfl (by omega) ?_
              refine k_ret ?_
              exact ⟨_, rfl, rfl, rfl, Or.inr ⟨rfl, by rw [i_wt_ld, i_wt_ld]; omega⟩⟩
            · refine a_iconst (pc := 69) (n := 1) (by decide +kernel) ?_
              refine a_goto (pc := 70) (off := 4) (tgt := 74) (by decide +kernel) (by decide) ?_
              refine a_zreturn (pc := 74) (by decide +kernel) rfl (by omega) ?_
              refine k_ret ?_
              exact ⟨_, rfl, rfl, rfl, Or.inl ⟨rfl, by rw [i_wt_ld, i_wt_ld]; omega⟩⟩
        · exact absurd c31 (by decide)
def q4 (F : Int → Int) (j : Int) : q_T := (F (4 * j), F (4 * j + 1), F (4 * j + 2), F (4 * j + 3))
def q_ok (x : q_T) : Prop := kd x.1 ∧ (0 ≤ x.2.1 ∧ x.2.1 ≤ 299) ∧ (0 ≤ x.2.2.1 ∧ x.2.2.1 ≤ 299) ∧ (0 ≤ x.2.2.2 ∧ x.2.2.2 ≤ 99)
def q_lt (c : Int) (x y : q_T) : Prop := q_w c x < q_w c y
/-- the places of the entry that is made -/
def PSg (τ : k_St) (e c : Int) (S : q_T → Prop) : Prop := (0 ≤ τ.1 83 e ∧ 0 ≤ τ.1 82 e ∧ τ.1 83 e + τ.1 82 e = τ.2.1 68 32) ∧ (∀ j, 0 ≤ j → j < τ.1 82 e → q_ok (q4 (τ.1 86) (τ.1 83 e + j))) ∧ so (q_lt c) (fun j => q4 (τ.1 86) (τ.1 83 e + j)) (τ.1 82 e) ∧ ∀ x, im (fun j => q4 (τ.1 86) (τ.1 83 e + j)) (τ.1 82 e) x ↔ S x
def plf (σ τ : k_St) (e : Int) : Prop := (∀ c, c ≠ 82 → c ≠ 86 → τ.1 c = σ.1 c) ∧ (∀ c j, ¬ (c = 68 ∧ j = 32) → τ.2.1 c j = σ.2.1 c j) ∧ τ.2.2 = σ.2.2 ∧ (∀ j, j ≠ e → τ.1 82 j = σ.1 82 j) ∧ ∀ j, j < 4 * σ.1 83 e → τ.1 86 j = σ.1 86 j
theorem plf_r {σ : k_St} {e : Int} : plf σ σ e := ⟨fun _ _ _ => rfl, fun _ _ _ => rfl, rfl, fun _ _ => rfl, fun _ _ => rfl⟩
theorem plf_t {σ τ ρ : k_St} {e : Int} (h : plf σ τ e) (g : plf τ ρ e) : plf σ ρ e := ⟨fun c q r => (g.1 c q r).trans (h.1 c q r), fun c j q => (g.2.1 c j q).trans (h.2.1 c j q), g.2.2.1.trans h.2.2.1, fun j q => (g.2.2.2.1 j q).trans (h.2.2.2.1 j q), fun j q => (g.2.2.2.2 j (by rw [h.1 83 (by omega) (by omega)]; exact q)).trans (h.2.2.2.2 j q)⟩
theorem plf_m {σ τ : k_St} {e : Int} (h : plf σ τ e) : mfr σ τ := ⟨fun c q => h.1 c (by omega) (by omega), fun c j q => h.2.1 c j (by omega), h.2.2.1⟩
theorem cp4 {F G : Int → Int} {b m : Int} (hm : 0 ≤ m) (hG : G = j_cpy F F b (b + 4) m) : j_up (j_up (j_up (j_up G b (F (b - 4))) (b + 1) (F (b - 4 + 1))) (b + 2) (F (b - 4 + 2))) (b + 3) (F (b - 4 + 3)) = j_cpy F F (b - 4) (b - 4 + 4) (m + 4) := by
  funext j
  by_cases c3 : j = b + 3
  · rw [c3, j_upS]; unfold j_cpy; rw [if_pos (by omega), show b - 4 + (b + 3 - (b - 4 + 4)) = b - 4 + 3 by omega]
  · rw [j_upN c3]
    by_cases c2 : j = b + 2
    · rw [c2, j_upS]; unfold j_cpy; rw [if_pos (by omega), show b - 4 + (b + 2 - (b - 4 + 4)) = b - 4 + 2 by omega]
    · rw [j_upN c2]
      by_cases c1 : j = b + 1
      · rw [c1, j_upS]; unfold j_cpy; rw [if_pos (by omega), show b - 4 + (b + 1 - (b - 4 + 4)) = b - 4 + 1 by omega]
      · rw [j_upN c1]
        by_cases c0 : j = b
        · rw [c0, j_upS]; unfold j_cpy; rw [if_pos (by omega), show b - 4 + (b - (b - 4 + 4)) = b - 4 by omega]
        · rw [j_upN c0, hG]; unfold j_cpy
          by_cases q : b + 4 ≤ j ∧ j < b + 4 + m
          · rw [if_pos q, if_pos (by omega), show b + (j - (b + 4)) = b - 4 + (j - (b - 4 + 4)) by omega]
          · rw [if_neg q, if_neg (by omega)]
theorem in4 {F : Int → Int} {s a m k f l t j : Int} (h0 : 0 ≤ j) (h1 : j ≤ m) : q4 (j_up (j_up (j_up (j_up (j_cpy F F (4 * (s + a)) (4 * (s + a) + 4) (4 * (m - a))) (4 * (s + a)) k) (4 * (s + a) + 1) f) (4 * (s + a) + 2) l) (4 * (s + a) + 3) t) (s + j) = pI (fun j => q4 F (s + j)) a (k, f, l, t) j := by
  rcases Int.lt_trichotomy j a with c | c | c
  · rw [pI_l c]; unfold q4
    rw [j_upN (by omega), j_upN (by omega), j_upN (by omega), j_upN (by omega), j_upN (by omega), j_upN (by omega), j_upN (by omega), j_upN (by omega), j_upN (by omega), j_upN (by omega), j_upN (by omega), j_upN (by omega), j_upN (by omega), j_upN (by omega), j_upN (by omega), j_upN (by omega)]
    unfold j_cpy
    rw [if_neg (by omega), if_neg (by omega), if_neg (by omega), if_neg (by omega)]
  · rw [c, pI_k]; unfold q4
    rw [j_upN (by omega), j_upN (by omega), j_upN (by omega), j_upS, j_upN (by omega), j_upN (by omega), j_upS, j_upN (by omega), j_upS, j_upS]
  · rw [pI_g c]; unfold q4
    rw [j_upN (by omega), j_upN (by omega), j_upN (by omega), j_upN (by omega), j_upN (by omega), j_upN (by omega), j_upN (by omega), j_upN (by omega), j_upN (by omega), j_upN (by omega), j_upN (by omega), j_upN (by omega), j_upN (by omega), j_upN (by omega), j_upN (by omega), j_upN (by omega)]
    unfold j_cpy
    rw [if_pos (by omega), if_pos (by omega), if_pos (by omega), if_pos (by omega)]
    rw [show 4 * (s + a) + (4 * (s + j) - (4 * (s + a) + 4)) = 4 * (s + (j - 1)) by omega, show 4 * (s + a) + (4 * (s + j) + 1 - (4 * (s + a) + 4)) = 4 * (s + (j - 1)) + 1 by omega, show 4 * (s + a) + (4 * (s + j) + 2 - (4 * (s + a) + 4)) = 4 * (s + (j - 1)) + 2 by omega, show 4 * (s + a) + (4 * (s + j) + 3 - (4 * (s + a) + 4)) = 4 * (s + (j - 1)) + 3 by omega]
/-- while a place is put in -/
def IP (σ τ : k_St) (s m a : Int) : Prop := (∀ c, c ≠ 86 → τ.1 c = σ.1 c) ∧ τ.2 = σ.2 ∧ τ.1 86 = j_cpy (σ.1 86) (σ.1 86) (4 * (s + a)) (4 * (s + a) + 4) (4 * (m - a))
theorem IP_s {σ τ s1 s2 s3 s4 : k_St} {s m a : Int} (h : IP σ τ s m a) (ha : a ≤ m) (e1 : s1 = k_sA τ 86 (j_up (τ.1 86) (4 * (s + a) + 0) (τ.1 86 (4 * (s + a - 1) + 0)))) (e2 : s2 = k_sA s1 86 (j_up (s1.1 86) (4 * (s + a) + 1) (s1.1 86 (4 * (s + a - 1) + 1)))) (e3 : s3 = k_sA s2 86 (j_up (s2.1 86) (4 * (s + a) + 2) (s2.1 86 (4 * (s + a - 1) + 2)))) (e4 : s4 = k_sA s3 86 (j_up (s3.1 86) (4 * (s + a) + 3) (s3.1 86 (4 * (s + a - 1) + 3)))) : IP σ s4 s m (a + -1) := by
  obtain ⟨h1, h2, h3⟩ := h
  have r : ∀ x, x < 4 * (s + a) → τ.1 86 x = σ.1 86 x := fun x hx => by rw [h3]; unfold j_cpy; rw [if_neg (by omega)]
  have f1 : s1.1 86 = j_up (τ.1 86) (4 * (s + a)) (σ.1 86 (4 * (s + a) - 4)) := by rw [e1, k_AA, r _ (by omega), show 4 * (s + a) + 0 = 4 * (s + a) by omega, show 4 * (s + a - 1) + 0 = 4 * (s + a) - 4 by omega]
  have f2 : s2.1 86 = j_up (s1.1 86) (4 * (s + a) + 1) (σ.1 86 (4 * (s + a) - 4 + 1)) := by rw [e2, k_AA, show s1.1 86 (4 * (s + a - 1) + 1) = σ.1 86 (4 * (s + a) - 4 + 1) by rw [f1, j_upN (by omega), r _ (by omega), show 4 * (s + a - 1) + 1 = 4 * (s + a) - 4 + 1 by omega]]
  have f3 : s3.1 86 = j_up (s2.1 86) (4 * (s + a) + 2) (σ.1 86 (4 * (s + a) - 4 + 2)) := by rw [e3, k_AA, show s2.1 86 (4 * (s + a - 1) + 2) = σ.1 86 (4 * (s + a) - 4 + 2) by rw [f2, j_upN (by omega), f1, j_upN (by omega), r _ (by omega), show 4 * (s + a - 1) + 2 = 4 * (s + a) - 4 + 2 by omega]]
  have f4 : s4.1 86 = j_up (s3.1 86) (4 * (s + a) + 3) (σ.1 86 (4 * (s + a) - 4 + 3)) := by rw [e4, k_AA, show s3.1 86 (4 * (s + a - 1) + 3) = σ.1 86 (4 * (s + a) - 4 + 3) by rw [f3, j_upN (by omega), f2, j_upN (by omega), f1, j_upN (by omega), r _ (by omega), show 4 * (s + a - 1) + 3 = 4 * (s + a) - 4 + 3 by omega]]
  refine ⟨fun c hc => by rw [e4, k_AN hc, e3, k_AN hc, e2, k_AN hc, e1, k_AN hc]; exact h1 c hc, by rw [e4, e3, e2, e1]; exact h2, ?_⟩
  rw [f4, f3, f2, f1, cp4 (m := 4 * (m - a)) (by omega) h3, show 4 * (s + (a + -1)) = 4 * (s + a) - 4 by omega, show 4 * (m - (a + -1)) = 4 * (m - a) + 4 by omega]
