theorem and_b1 {b : Int} (h : b = 0 ∨ b = 1) : Int32.ofInt b &&& Int32.ofInt 1 = Int32.ofInt b := by rcases h with h | h <;> subst h <;> decide
theorem and_b0 {b : Int} (h : b = 0 ∨ b = 1) : Int32.ofInt b &&& Int32.ofInt 0 = Int32.ofInt 0 := by rcases h with h | h <;> subst h <;> decide
def d_tdy (N : Int → Int) (L k : Int) : Prop := N k = 32 → 0 < k ∧ k < L - 1 ∧ N (k - 1) ≠ 32
def d_tidy (σ : k_St) : Prop := ∀ k, 0 ≤ k → k < σ.2.1 68 7 → d_tdy (σ.1 71) (σ.2.1 68 7) k
def d_same (σ : k_St) (h : Int) : Prop := σ.1 69 (302 + 36 * h + 1) = σ.2.1 68 7 ∧ ∀ k, 0 ≤ k → k < σ.2.1 68 7 → σ.1 69 (302 + 36 * h + 3 + k) = σ.1 71 k
def d_free (σ : k_St) : Prop := 0 < σ.2.1 68 7 ∧ d_tidy σ ∧ ∀ h, d_is σ h → ¬ d_same σ h
set_option maxHeartbeats 4000000 in
theorem l_dtidy {G : j_G} {X : k_X} {n : Nat} {σ : k_St} (hn : 101 ≤ n) (hL : 0 ≤ σ.2.1 68 7 ∧ σ.2.1 68 7 ≤ 16) (hnm : ∀ k, 0 ≤ k → k < σ.2.1 68 7 → 32 ≤ σ.1 71 k ∧ σ.1 71 k ≤ 126)  : ∀ (m : Nat) (k b : Int), 16 - k < (m : Int) → 0 ≤ k → k ≤ σ.2.1 68 7 → (b = 0 ∨ b = 1) → (b = 1 ↔ ∀ j, 0 ≤ j → j < k → d_tdy (σ.1 71) (σ.2.1 68 7) j) → j_at G mX12_isTidy 4 [(0, .ref 68), (1, j_i b), (2, j_i k)] [] (k_h X n σ) 0 0 (k_Q X (k_b n σ (d_tidy σ))) := by
  intro m
  induction m with
  | zero => intro k b h1 h2 h3; exact absurd h1 (by omega)
  | succ m ih =>
    intro k b hm h0 hN hb01 hb
    refine a_iload_n (pc := 4) (i := 2) (by decide +kernel) rfl ?_
    refine a_aload_n (pc := 5) (i := 0) (by decide +kernel) rfl ?_
    refine b_getI (pc := 6) fl_X12_195 (by decide +kernel) (sh_68 hn) rfl ?_
    refine a_icmp_ge (pc := 9) (off := 65) (tgt := 74) (by decide +kernel) (by decide) (by omega) (by omega) (fun c9 => ?_) (fun c9 => ?_)
    · refine a_iload_n (pc := 74) (i := 1) (by decide +kernel) rfl ?_
      refine a_zreturn (pc := 75) (by decide +kernel) rfl (by omega) ?_
      refine k_ret ?_
      refine ⟨b, rfl, rfl, rfl, ?_⟩
      rw [show k = σ.2.1 68 7 by omega] at hb
      rcases hb01 with g | g
      · exact Or.inr ⟨g, fun q => by have := hb.mpr q; omega⟩
      · exact Or.inl ⟨g, hb.mp g⟩
    · have x1 := hnm k (by omega) (by omega)
      refine a_aload_n (pc := 12) (i := 0) (by decide +kernel) rfl ?_
      refine b_getR (pc := 13) (b := 71) fl_X12_17 (by decide +kernel) (sh_68 hn) rfl ?_
      refine a_iload_n (pc := 16) (i := 2) (by decide +kernel) rfl ?_
      refine b_iaload (pc := 17) (by decide +kernel) (sh_71 hn) (by omega) (by omega) (by omega) ?_
      refine a_bipush (pc := 18) (n := 32) (by decide +kernel) rfl ?_
      refine a_icmp_ne (pc := 20) (off := 7) (tgt := 27) (by decide +kernel) (by decide) (by omega) (by omega) (fun c20 => ?_) (fun c20 => ?_)
      · refine a_iconst (pc := 27) (n := 0) (by decide +kernel) ?_
        refine a_istore_n (pc := 28) (i := 3) (lv' := [(0, .ref 68), (1, j_i b), (2, j_i k), (3, j_i 0)]) (by decide +kernel) (Nat.le_of_ble_eq_true rfl) rfl ?_
        refine a_iload_n (pc := 29) (i := 1) (by decide +kernel) rfl ?_
        refine a_iload_n (pc := 30) (i := 3) (by decide +kernel) rfl ?_
        refine a_if_eq (pc := 31) (off := 30) (tgt := 61) (by decide +kernel) (by decide) (by omega) (fun c31 => ?_) (fun c31 => ?_)
        · refine a_iconst (pc := 61) (n := 1) (by decide +kernel) ?_
          refine a_goto (pc := 62) (off := 4) (tgt := 66) (by decide +kernel) (by decide) ?_
          refine a_iand (pc := 66) (by decide +kernel) ?_
          rw [and_b1 hb01]
          refine a_istore_n (pc := 67) (i := 1) (lv' := [(0, .ref 68), (1, j_i b), (2, j_i k), (3, j_i 0)]) (by decide +kernel) (Nat.le_of_ble_eq_true rfl) rfl ?_
          refine a_iinc (pc := 68) (i := 2) (n := 1) (x := k) (lv' := [(0, .ref 68), (1, j_i b), (2, j_i (k + 1)), (3, j_i 0)]) (by decide +kernel) rfl (Nat.le_of_ble_eq_true rfl) rfl ?_
          refine a_goto (pc := 71) (off := -67) (tgt := 4) (by decide +kernel) (by decide) ?_
          refine a_sub (pc := 4) (lv' := [(0, .ref 68), (1, j_i b), (2, j_i (k + 1))]) (fun q hq => by simp only [List.mem_cons, List.not_mem_nil, or_false] at hq ⊢; rcases hq with rfl | rfl | rfl <;> simp) (ih (k + 1) b (by omega) (by omega) (by omega) hb01 ?_)
          have ht : d_tdy (σ.1 71) (σ.2.1 68 7) k := fun g => by first | exact absurd g c20 | exact ⟨by omega, by omega, c58⟩
          exact hb.trans ⟨fun g j j0 j1 => by by_cases e : j = k; rw [e]; exact ht; exact g j j0 (by omega), fun g j j0 j1 => g j j0 (by omega)⟩
        · exact absurd c31 (by decide)
      · refine a_iconst (pc := 23) (n := 1) (by decide +kernel) ?_
        refine a_goto (pc := 24) (off := 4) (tgt := 28) (by decide +kernel) (by decide) ?_
        refine a_istore_n (pc := 28) (i := 3) (lv' := [(0, .ref 68), (1, j_i b), (2, j_i k), (3, j_i 1)]) (by decide +kernel) (Nat.le_of_ble_eq_true rfl) rfl ?_
        refine a_iload_n (pc := 29) (i := 1) (by decide +kernel) rfl ?_
        refine a_iload_n (pc := 30) (i := 3) (by decide +kernel) rfl ?_
        refine a_if_eq (pc := 31) (off := 30) (tgt := 61) (by decide +kernel) (by decide) (by omega) (fun c31 => ?_) (fun c31 => ?_)
        · exact absurd c31 (by decide)
        · refine a_iload_n (pc := 34) (i := 2) (by decide +kernel) rfl ?_
          refine a_if_le (pc := 35) (off := 30) (tgt := 65) (by decide +kernel) (by decide) (by omega) (fun c35 => ?_) (fun c35 => ?_)
          · refine a_iconst (pc := 65) (n := 0) (by decide +kernel) ?_
            refine a_iand (pc := 66) (by decide +kernel) ?_
            rw [and_b0 hb01]
            refine a_istore_n (pc := 67) (i := 1) (lv' := [(0, .ref 68), (1, j_i 0), (2, j_i k), (3, j_i 1)]) (by decide +kernel) (Nat.le_of_ble_eq_true rfl) rfl ?_
            refine a_iinc (pc := 68) (i := 2) (n := 1) (x := k) (lv' := [(0, .ref 68), (1, j_i 0), (2, j_i (k + 1)), (3, j_i 1)]) (by decide +kernel) rfl (Nat.le_of_ble_eq_true rfl) rfl ?_
            refine a_goto (pc := 71) (off := -67) (tgt := 4) (by decide +kernel) (by decide) ?_
            refine a_sub (pc := 4) (lv' := [(0, .ref 68), (1, j_i 0), (2, j_i (k + 1))]) (fun q hq => by simp only [List.mem_cons, List.not_mem_nil, or_false] at hq ⊢; rcases hq with rfl | rfl | rfl <;> simp) (ih (k + 1) 0 (by omega) (by omega) (by omega) (Or.inl rfl) ?_)
            have ht : ¬ d_tdy (σ.1 71) (σ.2.1 68 7) k := fun g => by have g2 := g (by omega); omega
            exact ⟨fun g => absurd g (by omega), fun g => absurd (g k (by omega) (by omega)) ht⟩
          · refine a_iload_n (pc := 38) (i := 2) (by decide +kernel) rfl ?_
            refine a_aload_n (pc := 39) (i := 0) (by decide +kernel) rfl ?_
            refine b_getI (pc := 40) fl_X12_195 (by decide +kernel) (sh_68 hn) rfl ?_
            refine a_iconst (pc := 43) (n := 1) (by decide +kernel) ?_
            refine a_isub (pc := 44) (by decide +kernel) ?_
            refine a_icmp_ge (pc := 45) (off := 20) (tgt := 65) (by decide +kernel) (by decide) (by omega) (by omega) (fun c45 => ?_) (fun c45 => ?_)
            · refine a_iconst (pc := 65) (n := 0) (by decide +kernel) ?_
              refine a_iand (pc := 66) (by decide +kernel) ?_
              rw [and_b0 hb01]
              refine a_istore_n (pc := 67) (i := 1) (lv' := [(0, .ref 68), (1, j_i 0), (2, j_i k), (3, j_i 1)]) (by decide +kernel) (Nat.le_of_ble_eq_true rfl) rfl ?_
              refine a_iinc (pc := 68) (i := 2) (n := 1) (x := k) (lv' := [(0, .ref 68), (1, j_i 0), (2, j_i (k + 1)), (3, j_i 1)]) (by decide +kernel) rfl (Nat.le_of_ble_eq_true rfl) rfl ?_
              refine a_goto (pc := 71) (off := -67) (tgt := 4) (by decide +kernel) (by decide) ?_
              refine a_sub (pc := 4) (lv' := [(0, .ref 68), (1, j_i 0), (2, j_i (k + 1))]) (fun q hq => by simp only [List.mem_cons, List.not_mem_nil, or_false] at hq ⊢; rcases hq with rfl | rfl | rfl <;> simp) (ih (k + 1) 0 (by omega) (by omega) (by omega) (Or.inl rfl) ?_)
              have ht : ¬ d_tdy (σ.1 71) (σ.2.1 68 7) k := fun g => by have g2 := g (by omega); omega
              exact ⟨fun g => absurd g (by omega), fun g => absurd (g k (by omega) (by omega)) ht⟩
            · have x2 := hnm (k - 1) (by omega) (by omega)
              refine a_aload_n (pc := 48) (i := 0) (by decide +kernel) rfl ?_
              refine b_getR (pc := 49) (b := 71) fl_X12_17 (by decide +kernel) (sh_68 hn) rfl ?_
              refine a_iload_n (pc := 52) (i := 2) (by decide +kernel) rfl ?_
              refine a_iconst (pc := 53) (n := 1) (by decide +kernel) ?_
              refine a_isub (pc := 54) (by decide +kernel) ?_
              refine b_iaload (pc := 55) (by decide +kernel) (sh_71 hn) (by omega) (by omega) (by omega) ?_
              refine a_bipush (pc := 56) (n := 32) (by decide +kernel) rfl ?_
              refine a_icmp_eq (pc := 58) (off := 7) (tgt := 65) (by decide +kernel) (by decide) (by omega) (by omega) (fun c58 => ?_) (fun c58 => ?_)
              · refine a_iconst (pc := 65) (n := 0) (by decide +kernel) ?_
                refine a_iand (pc := 66) (by decide +kernel) ?_
                rw [and_b0 hb01]
                refine a_istore_n (pc := 67) (i := 1) (lv' := [(0, .ref 68), (1, j_i 0), (2, j_i k), (3, j_i 1)]) (by decide +kernel) (Nat.le_of_ble_eq_true rfl) rfl ?_
                refine a_iinc (pc := 68) (i := 2) (n := 1) (x := k) (lv' := [(0, .ref 68), (1, j_i 0), (2, j_i (k + 1)), (3, j_i 1)]) (by decide +kernel) rfl (Nat.le_of_ble_eq_true rfl) rfl ?_
                refine a_goto (pc := 71) (off := -67) (tgt := 4) (by decide +kernel) (by decide) ?_
                refine a_sub (pc := 4) (lv' := [(0, .ref 68), (1, j_i 0), (2, j_i (k + 1))]) (fun q hq => by simp only [List.mem_cons, List.not_mem_nil, or_false] at hq ⊢; rcases hq with rfl | rfl | rfl <;> simp) (ih (k + 1) 0 (by omega) (by omega) (by omega) (Or.inl rfl) ?_)
                have ht : ¬ d_tdy (σ.1 71) (σ.2.1 68 7) k := fun g => by have g2 := g (by omega); omega
                exact ⟨fun g => absurd g (by omega), fun g => absurd (g k (by omega) (by omega)) ht⟩
              · refine a_iconst (pc := 61) (n := 1) (by decide +kernel) ?_
                refine a_goto (pc := 62) (off := 4) (tgt := 66) (by decide +kernel) (by decide) ?_
                refine a_iand (pc := 66) (by decide +kernel) ?_
                rw [and_b1 hb01]
                refine a_istore_n (pc := 67) (i := 1) (lv' := [(0, .ref 68), (1, j_i b), (2, j_i k), (3, j_i 1)]) (by decide +kernel) (Nat.le_of_ble_eq_true rfl) rfl ?_
                refine a_iinc (pc := 68) (i := 2) (n := 1) (x := k) (lv' := [(0, .ref 68), (1, j_i b), (2, j_i (k + 1)), (3, j_i 1)]) (by decide +kernel) rfl (Nat.le_of_ble_eq_true rfl) rfl ?_
                refine a_goto (pc := 71) (off := -67) (tgt := 4) (by decide +kernel) (by decide) ?_
                refine a_sub (pc := 4) (lv' := [(0, .ref 68), (1, j_i b), (2, j_i (k + 1))]) (fun q hq => by simp only [List.mem_cons, List.not_mem_nil, or_false] at hq ⊢; rcases hq with rfl | rfl | rfl <;> simp) (ih (k + 1) b (by omega) (by omega) (by omega) hb01 ?_)
                have ht : d_tdy (σ.1 71) (σ.2.1 68 7) k := fun g => by first | exact absurd g c20 | exact ⟨by omega, by omega, c58⟩
                exact hb.trans ⟨fun g j j0 j1 => by by_cases e : j = k; rw [e]; exact ht; exact g j j0 (by omega), fun g j j0 j1 => g j j0 (by omega)⟩
set_option maxHeartbeats 4000000 in
theorem s_dtidy {G : j_G} {X : k_X} {n : Nat} {σ : k_St} (hn : 101 ≤ n) (hL : 0 ≤ σ.2.1 68 7 ∧ σ.2.1 68 7 ≤ 16) (hnm : ∀ k, 0 ≤ k → k < σ.2.1 68 7 → 32 ≤ σ.1 71 k ∧ σ.1 71 k ≤ 126)  : k_run G X mX12_isTidy [.ref 68] n σ 0 0 (k_b n σ (d_tidy σ)) := by
  refine k_enter (by decide +kernel) (Nat.le_of_ble_eq_true rfl) ?_
  show j_at _ _ _ [(0, .ref 68)] [] _ _ _ _
  refine a_iconst (pc := 0) (n := 1) (by decide +kernel) ?_
  refine a_istore_n (pc := 1) (i := 1) (lv' := [(0, .ref 68), (1, j_i 1)]) (by decide +kernel) (Nat.le_of_ble_eq_true rfl) rfl ?_
  refine a_iconst (pc := 2) (n := 0) (by decide +kernel) ?_
  refine a_istore_n (pc := 3) (i := 2) (lv' := [(0, .ref 68), (1, j_i 1), (2, j_i 0)]) (by decide +kernel) (Nat.le_of_ble_eq_true rfl) rfl ?_
  exact l_dtidy hn hL hnm 17 0 1 (by omega) (by omega) (by omega) (Or.inr rfl) ⟨fun _ j j0 j1 => absurd j0 (by omega), fun _ => rfl⟩
set_option maxHeartbeats 4000000 in
theorem l_dfree62 {G : j_G} {X : k_X} {n : Nat} {σ : k_St} (hn : 101 ≤ n) (hL : 0 ≤ σ.2.1 68 7 ∧ σ.2.1 68 7 ≤ 16) (hnm : ∀ k, 0 ≤ k → k < σ.2.1 68 7 → 32 ≤ σ.1 71 k ∧ σ.1 71 k ≤ 126) (hg : ∀ i : Int, -128 ≤ σ.1 69 i ∧ σ.1 69 i ≤ 9999) (hgE : 0 ≤ σ.1 69 301 ∧ σ.1 69 301 ≤ 30) {h f : Int} (hh : 0 ≤ h ∧ h < 30) {Q : k_P} (kk : ∀ k' b' : Int, (b' = 0 ∨ b' = 1) → (b' = 1 ↔ ∀ j, 0 ≤ j → j < σ.2.1 68 7 → σ.1 69 (302 + 36 * h + 3 + j) = σ.1 71 j) → j_at G mX12_isFreeName 102 [(0, .ref 68), (1, j_i f), (2, j_i h), (3, j_i b'), (4, j_i k')] [] (k_h X n σ) 0 0 (k_Q X Q))  : ∀ (m : Nat) (k b : Int), 16 - k < (m : Int) → 0 ≤ k → k ≤ σ.2.1 68 7 → (b = 0 ∨ b = 1) → (b = 1 ↔ ∀ j, 0 ≤ j → j < k → σ.1 69 (302 + 36 * h + 3 + j) = σ.1 71 j) → j_at G mX12_isFreeName 62 [(0, .ref 68), (1, j_i f), (2, j_i h), (3, j_i b), (4, j_i k)] [] (k_h X n σ) 0 0 (k_Q X Q) := by
  intro m
  induction m with
  | zero => intro k b h1 h2 h3; exact absurd h1 (by omega)
  | succ m ih =>
    intro k b hm h0 hN hb01 hb
    refine a_iload (pc := 62) (i := 4) (by decide +kernel) rfl ?_
    refine a_aload_n (pc := 64) (i := 0) (by decide +kernel) rfl ?_
    refine b_getI (pc := 65) fl_X12_195 (by decide +kernel) (sh_68 hn) rfl ?_
    refine a_icmp_ge (pc := 68) (off := 34) (tgt := 102) (by decide +kernel) (by decide) (by omega) (by omega) (fun c68 => ?_) (fun c68 => ?_)
    · exact kk k b hb01 (by rw [show k = σ.2.1 68 7 by omega] at hb; exact hb)
    · have x1 := hnm k (by omega) (by omega)
      refine a_iload_n (pc := 71) (i := 3) (by decide +kernel) rfl ?_
      refine a_aload_n (pc := 72) (i := 0) (by decide +kernel) rfl ?_
      refine a_iload_n (pc := 73) (i := 2) (by decide +kernel) rfl ?_
      refine a_iload (pc := 74) (i := 4) (by decide +kernel) rfl ?_
      refine b_pureV (pc := 76) [j_i h, j_i k] [j_i b] ml_X12_189 (by decide +kernel) rfl rfl (sh_68 hn) rfl rfl (Nat.le_of_ble_eq_true rfl) (j_fitI rfl rfl) (s_dsignOf hn (by omega) (by omega)) ?_
      have q1 := hg (302 + 36 * h + 3 + k)
      show j_at _ _ _ [(0, .ref 68), (1, j_i f), (2, j_i h), (3, j_i b), (4, j_i k)] [j_i (σ.1 69 (302 + 36 * h + 3 + k)), j_i b] _ _ _ _
      refine a_aload_n (pc := 79) (i := 0) (by decide +kernel) rfl ?_
      refine b_getR (pc := 80) (b := 71) fl_X12_17 (by decide +kernel) (sh_68 hn) rfl ?_
      refine a_iload (pc := 83) (i := 4) (by decide +kernel) rfl ?_
      refine b_iaload (pc := 85) (by decide +kernel) (sh_71 hn) (by omega) (by omega) (by omega) ?_
      refine a_icmp_ne (pc := 86) (off := 7) (tgt := 93) (by decide +kernel) (by decide) (by omega) (by omega) (fun c86 => ?_) (fun c86 => ?_)
      · refine a_iconst (pc := 93) (n := 0) (by decide +kernel) ?_
        refine a_iand (pc := 94) (by decide +kernel) ?_
        rw [and_b0 hb01]
        refine a_istore_n (pc := 95) (i := 3) (lv' := [(0, .ref 68), (1, j_i f), (2, j_i h), (3, j_i 0), (4, j_i k)]) (by decide +kernel) (Nat.le_of_ble_eq_true rfl) rfl ?_
        refine a_iinc (pc := 96) (i := 4) (n := 1) (x := k) (lv' := [(0, .ref 68), (1, j_i f), (2, j_i h), (3, j_i 0), (4, j_i (k + 1))]) (by decide +kernel) rfl (Nat.le_of_ble_eq_true rfl) rfl ?_
        refine a_goto (pc := 99) (off := -37) (tgt := 62) (by decide +kernel) (by decide) ?_
        exact ih (k + 1) 0 (by omega) (by omega) (by omega) (Or.inl rfl) ⟨fun g => absurd g (by omega), fun g => absurd (g k (by omega) (by omega)) c86⟩
      · refine a_iconst (pc := 89) (n := 1) (by decide +kernel) ?_
        refine a_goto (pc := 90) (off := 4) (tgt := 94) (by decide +kernel) (by decide) ?_
        refine a_iand (pc := 94) (by decide +kernel) ?_
        rw [and_b1 hb01]
        refine a_istore_n (pc := 95) (i := 3) (lv' := [(0, .ref 68), (1, j_i f), (2, j_i h), (3, j_i b), (4, j_i k)]) (by decide +kernel) (Nat.le_of_ble_eq_true rfl) rfl ?_
        refine a_iinc (pc := 96) (i := 4) (n := 1) (x := k) (lv' := [(0, .ref 68), (1, j_i f), (2, j_i h), (3, j_i b), (4, j_i (k + 1))]) (by decide +kernel) rfl (Nat.le_of_ble_eq_true rfl) rfl ?_
        refine a_goto (pc := 99) (off := -37) (tgt := 62) (by decide +kernel) (by decide) ?_
        exact ih (k + 1) b (by omega) (by omega) (by omega) hb01 (hb.trans ⟨fun g j j0 j1 => by by_cases e : j = k; rw [e]; exact c86; exact g j j0 (by omega), fun g j j0 j1 => g j j0 (by omega)⟩)
set_option maxHeartbeats 4000000 in
theorem l_dfree22 {G : j_G} {X : k_X} {n : Nat} {σ : k_St} (hn : 101 ≤ n) (hL : 0 ≤ σ.2.1 68 7 ∧ σ.2.1 68 7 ≤ 16) (hnm : ∀ k, 0 ≤ k → k < σ.2.1 68 7 → 32 ≤ σ.1 71 k ∧ σ.1 71 k ≤ 126) (hg : ∀ i : Int, -128 ≤ σ.1 69 i ∧ σ.1 69 i ≤ 9999) (hgE : 0 ≤ σ.1 69 301 ∧ σ.1 69 301 ≤ 30)  : ∀ (m : Nat) (h f : Int), 30 - h < (m : Int) → 0 ≤ h → h ≤ σ.1 69 301 → (f = 0 ∨ f = 1) → (f = 1 ↔ (0 < σ.2.1 68 7 ∧ d_tidy σ) ∧ ∀ j, 0 ≤ j → j < h → d_is σ j → ¬ d_same σ j) → j_at G mX12_isFreeName 22 [(0, .ref 68), (1, j_i f), (2, j_i h)] [] (k_h X n σ) 0 0 (k_Q X (k_b n σ (d_free σ))) := by
  intro m
  induction m with
  | zero => intro h f h1 h2 h3; exact absurd h1 (by omega)
  | succ m ih =>
    intro h f hm h0 hN hf01 hf
    refine a_iload_n (pc := 22) (i := 2) (by decide +kernel) rfl ?_
    refine a_aload_n (pc := 23) (i := 0) (by decide +kernel) rfl ?_
    refine b_pureV (pc := 24) [] [j_i h] ml_X12_180 (by decide +kernel) rfl rfl (sh_68 hn) rfl rfl (Nat.le_of_ble_eq_true rfl) (j_fitI rfl rfl) (s_dheadsEver hn) ?_
    have q1 := hg 301
    show j_at _ _ _ [(0, .ref 68), (1, j_i f), (2, j_i h)] [j_i (σ.1 69 301), j_i h] _ _ _ _
    refine a_icmp_ge (pc := 27) (off := 91) (tgt := 118) (by decide +kernel) (by decide) (by omega) (by omega) (fun c27 => ?_) (fun c27 => ?_)
    · refine a_iload_n (pc := 118) (i := 1) (by decide +kernel) rfl ?_
      refine a_zreturn (pc := 119) (by decide +kernel) rfl (by omega) ?_
      refine k_ret ?_
      refine ⟨f, rfl, rfl, rfl, ?_⟩
      rcases hf01 with g | g
      · refine Or.inr ⟨g, fun q => ?_⟩
        have := hf.mpr ⟨⟨q.1, q.2.1⟩, fun j j0 j1 => q.2.2 j⟩
        omega
      · have g2 := hf.mp g
        exact Or.inl ⟨g, g2.1.1, g2.1.2, fun j hj => g2.2 j hj.1 (by have := hj.2.1; omega) hj⟩
    · refine a_iload_n (pc := 30) (i := 1) (by decide +kernel) rfl ?_
      refine a_if_eq (pc := 31) (off := 87) (tgt := 118) (by decide +kernel) (by decide) (by omega) (fun c31 => ?_) (fun c31 => ?_)
      · refine a_iload_n (pc := 118) (i := 1) (by decide +kernel) rfl ?_
        refine a_zreturn (pc := 119) (by decide +kernel) rfl (by omega) ?_
        refine k_ret ?_
        refine ⟨f, rfl, rfl, rfl, ?_⟩
        rcases hf01 with g | g
        · refine Or.inr ⟨g, fun q => ?_⟩
          have := hf.mpr ⟨⟨q.1, q.2.1⟩, fun j j0 j1 => q.2.2 j⟩
          omega
        · have g2 := hf.mp g
          exact Or.inl ⟨g, g2.1.1, g2.1.2, fun j hj => g2.2 j hj.1 (by have := hj.2.1; omega) hj⟩
      · refine a_aload_n (pc := 34) (i := 0) (by decide +kernel) rfl ?_
        refine a_iload_n (pc := 35) (i := 2) (by decide +kernel) rfl ?_
        refine b_callV (pc := 36) (c' := 0) (sl' := 0) [j_i h] [] ml_X12_202 (by decide +kernel) rfl rfl (sh_68 hn) rfl rfl (Nat.le_of_ble_eq_true rfl) (j_fitI rfl rfl) (s_disHead hn hg (by omega) (by omega)) (fun v n' σ' hq => ?_)
        obtain ⟨x, rfl, e1, e2, hx⟩ := hq
        rw [e1, e2]; clear e1 e2
        rcases hx with ⟨rfl, p36⟩ | ⟨rfl, p36⟩
        · show j_at _ _ _ [(0, .ref 68), (1, j_i f), (2, j_i h)] [j_i 1] _ _ _ _
          have i36 := bi_y p36
          have u36 := p36.1
          have w36 := p36.2.1
          refine a_if_eq (pc := 39) (off := 73) (tgt := 112) (by decide +kernel) (by decide) (by omega) (fun c39 => ?_) (fun c39 => ?_)
          · exact absurd c39 (by decide)
          · refine a_aload_n (pc := 42) (i := 0) (by decide +kernel) rfl ?_
            refine a_iload_n (pc := 43) (i := 2) (by decide +kernel) rfl ?_
            refine b_pureV (pc := 44) [j_i h] [] ml_X12_186 (by decide +kernel) rfl rfl (sh_68 hn) rfl rfl (Nat.le_of_ble_eq_true rfl) (j_fitI rfl rfl) (s_dsignsOf hn (by omega)) ?_
            have q2 := hg (302 + 36 * h + 1)
            show j_at _ _ _ [(0, .ref 68), (1, j_i f), (2, j_i h)] [j_i (σ.1 69 (302 + 36 * h + 1))] _ _ _ _
            refine a_aload_n (pc := 47) (i := 0) (by decide +kernel) rfl ?_
            refine b_getI (pc := 48) fl_X12_195 (by decide +kernel) (sh_68 hn) rfl ?_
            refine a_icmp_eq (pc := 51) (off := 6) (tgt := 57) (by decide +kernel) (by decide) (by omega) (by omega) (fun c51 => ?_) (fun c51 => ?_)
            · refine a_iconst (pc := 57) (n := 1) (by decide +kernel) ?_
              refine a_istore_n (pc := 58) (i := 3) (lv' := [(0, .ref 68), (1, j_i f), (2, j_i h), (3, j_i 1)]) (by decide +kernel) (Nat.le_of_ble_eq_true rfl) rfl ?_
              refine a_iconst (pc := 59) (n := 0) (by decide +kernel) ?_
              refine a_istore (pc := 60) (i := 4) (lv' := [(0, .ref 68), (1, j_i f), (2, j_i h), (3, j_i 1), (4, j_i 0)]) (by decide +kernel) (Nat.le_of_ble_eq_true rfl) rfl ?_
              refine l_dfree62 hn hL hnm hg hgE (by omega) (fun k' b' hb1 hb2 => ?_) 17 0 1 (by omega) (by omega) (by omega) (Or.inr rfl) ⟨fun _ j j0 j1 => absurd j0 (by omega), fun _ => rfl⟩
              refine a_iload_n (pc := 102) (i := 3) (by decide +kernel) rfl ?_
              refine a_if_ne (pc := 103) (off := 7) (tgt := 110) (by decide +kernel) (by decide) (by omega) (fun c103 => ?_) (fun c103 => ?_)
              · refine a_iconst (pc := 110) (n := 0) (by decide +kernel) ?_
                refine a_istore_n (pc := 111) (i := 1) (lv' := [(0, .ref 68), (1, j_i 0), (2, j_i h), (3, j_i b'), (4, j_i k')]) (by decide +kernel) (Nat.le_of_ble_eq_true rfl) rfl ?_
                refine a_iinc (pc := 112) (i := 2) (n := 1) (x := h) (lv' := [(0, .ref 68), (1, j_i 0), (2, j_i (h + 1)), (3, j_i b'), (4, j_i k')]) (by decide +kernel) rfl (Nat.le_of_ble_eq_true rfl) rfl ?_
                refine a_goto (pc := 115) (off := -93) (tgt := 22) (by decide +kernel) (by decide) ?_
                refine a_sub (pc := 22) (lv' := [(0, .ref 68), (1, j_i 0), (2, j_i (h + 1))]) (fun q hq => by simp only [List.mem_cons, List.not_mem_nil, or_false] at hq ⊢; rcases hq with rfl | rfl | rfl <;> simp) (ih (h + 1) 0 (by omega) (by omega) (by omega) (Or.inl rfl) ?_)
                exact ⟨fun g => absurd g (by omega), fun g => absurd ⟨c51, hb2.mp (by omega)⟩ (g.2 h (by omega) (by omega) p36)⟩
              · refine a_iconst (pc := 106) (n := 1) (by decide +kernel) ?_
                refine a_goto (pc := 107) (off := 4) (tgt := 111) (by decide +kernel) (by decide) ?_
                refine a_istore_n (pc := 111) (i := 1) (lv' := [(0, .ref 68), (1, j_i 1), (2, j_i h), (3, j_i b'), (4, j_i k')]) (by decide +kernel) (Nat.le_of_ble_eq_true rfl) rfl ?_
                refine a_iinc (pc := 112) (i := 2) (n := 1) (x := h) (lv' := [(0, .ref 68), (1, j_i 1), (2, j_i (h + 1)), (3, j_i b'), (4, j_i k')]) (by decide +kernel) rfl (Nat.le_of_ble_eq_true rfl) rfl ?_
                refine a_goto (pc := 115) (off := -93) (tgt := 22) (by decide +kernel) (by decide) ?_
                refine a_sub (pc := 22) (lv' := [(0, .ref 68), (1, j_i 1), (2, j_i (h + 1))]) (fun q hq => by simp only [List.mem_cons, List.not_mem_nil, or_false] at hq ⊢; rcases hq with rfl | rfl | rfl <;> simp) (ih (h + 1) 1 (by omega) (by omega) (by omega) (Or.inr rfl) ?_)
                have ht : ¬ d_same σ h := fun g2 => by have := hb2.mpr g2.2; omega
                exact ⟨fun _ => ⟨(hf.mp (by omega)).1, fun j j0 j1 => by by_cases e : j = h; rw [e]; exact fun _ => ht; exact (hf.mp (by omega)).2 j j0 (by omega)⟩, fun _ => rfl⟩
            · refine a_goto (pc := 54) (off := 58) (tgt := 112) (by decide +kernel) (by decide) ?_
              refine a_iinc (pc := 112) (i := 2) (n := 1) (x := h) (lv' := [(0, .ref 68), (1, j_i f), (2, j_i (h + 1))]) (by decide +kernel) rfl (Nat.le_of_ble_eq_true rfl) rfl ?_
              refine a_goto (pc := 115) (off := -93) (tgt := 22) (by decide +kernel) (by decide) ?_
              refine a_sub (pc := 22) (lv' := [(0, .ref 68), (1, j_i f), (2, j_i (h + 1))]) (fun q hq => by simp only [List.mem_cons, List.not_mem_nil, or_false] at hq ⊢; rcases hq with rfl | rfl | rfl <;> simp) (ih (h + 1) f (by omega) (by omega) (by omega) hf01 ?_)
              have ht : d_is σ h → ¬ d_same σ h := fun g1 g2 => by first | exact p36 g1 | exact c51 g2.1
              exact hf.trans ⟨fun g => ⟨g.1, fun j j0 j1 => by by_cases e : j = h; rw [e]; exact ht; exact g.2 j j0 (by omega)⟩, fun g => ⟨g.1, fun j j0 j1 => g.2 j j0 (by omega)⟩⟩
        · show j_at _ _ _ [(0, .ref 68), (1, j_i f), (2, j_i h)] [j_i 0] _ _ _ _
          have i36 := bi_n p36
          refine a_if_eq (pc := 39) (off := 73) (tgt := 112) (by decide +kernel) (by decide) (by omega) (fun c39 => ?_) (fun c39 => ?_)
          · refine a_iinc (pc := 112) (i := 2) (n := 1) (x := h) (lv' := [(0, .ref 68), (1, j_i f), (2, j_i (h + 1))]) (by decide +kernel) rfl (Nat.le_of_ble_eq_true rfl) rfl ?_
            refine a_goto (pc := 115) (off := -93) (tgt := 22) (by decide +kernel) (by decide) ?_
            refine a_sub (pc := 22) (lv' := [(0, .ref 68), (1, j_i f), (2, j_i (h + 1))]) (fun q hq => by simp only [List.mem_cons, List.not_mem_nil, or_false] at hq ⊢; rcases hq with rfl | rfl | rfl <;> simp) (ih (h + 1) f (by omega) (by omega) (by omega) hf01 ?_)
            have ht : d_is σ h → ¬ d_same σ h := fun g1 g2 => by first | exact p36 g1 | exact c51 g2.1
            exact hf.trans ⟨fun g => ⟨g.1, fun j j0 j1 => by by_cases e : j = h; rw [e]; exact ht; exact g.2 j j0 (by omega)⟩, fun g => ⟨g.1, fun j j0 j1 => g.2 j j0 (by omega)⟩⟩
          · exact absurd c39 (by decide)
set_option maxHeartbeats 4000000 in
theorem s_dfree {G : j_G} {X : k_X} {n : Nat} {σ : k_St} (hn : 101 ≤ n) (hL : 0 ≤ σ.2.1 68 7 ∧ σ.2.1 68 7 ≤ 16) (hnm : ∀ k, 0 ≤ k → k < σ.2.1 68 7 → 32 ≤ σ.1 71 k ∧ σ.1 71 k ≤ 126) (hg : ∀ i : Int, -128 ≤ σ.1 69 i ∧ σ.1 69 i ≤ 9999) (hgE : 0 ≤ σ.1 69 301 ∧ σ.1 69 301 ≤ 30)  : k_run G X mX12_isFreeName [.ref 68] n σ 0 0 (k_b n σ (d_free σ)) := by
  refine k_enter (by decide +kernel) (Nat.le_of_ble_eq_true rfl) ?_
  show j_at _ _ _ [(0, .ref 68)] [] _ _ _ _
  refine a_aload_n (pc := 0) (i := 0) (by decide +kernel) rfl ?_
  refine b_getI (pc := 1) fl_X12_195 (by decide +kernel) (sh_68 hn) rfl ?_
  refine a_if_le (pc := 4) (off := 14) (tgt := 18) (by decide +kernel) (by decide) (by omega) (fun c4 => ?_) (fun c4 => ?_)
  · refine a_iconst (pc := 18) (n := 0) (by decide +kernel) ?_
    refine a_istore_n (pc := 19) (i := 1) (lv' := [(0, .ref 68), (1, j_i 0)]) (by decide +kernel) (Nat.le_of_ble_eq_true rfl) rfl ?_
    refine a_iconst (pc := 20) (n := 0) (by decide +kernel) ?_
    refine a_istore_n (pc := 21) (i := 2) (lv' := [(0, .ref 68), (1, j_i 0), (2, j_i 0)]) (by decide +kernel) (Nat.le_of_ble_eq_true rfl) rfl ?_
    exact l_dfree22 hn hL hnm hg hgE 31 0 0 (by omega) (by omega) (by omega) (Or.inl rfl) (⟨fun g => absurd g (by omega), fun g => by first | exact absurd g.1.1 (by omega) | exact absurd g.1.2 p8⟩)
  · refine a_aload_n (pc := 7) (i := 0) (by decide +kernel) rfl ?_
    refine b_callV (pc := 8) (c' := 0) (sl' := 0) [] [] ml_X12_198 (by decide +kernel) rfl rfl (sh_68 hn) rfl rfl (Nat.le_of_ble_eq_true rfl) (j_fitI rfl rfl) (s_dtidy hn hL hnm) (fun v n' σ' hq => ?_)
    obtain ⟨x, rfl, e1, e2, hx⟩ := hq
    rw [e1, e2]; clear e1 e2
    rcases hx with ⟨rfl, p8⟩ | ⟨rfl, p8⟩
    · show j_at _ _ _ [(0, .ref 68)] [j_i 1] _ _ _ _
      refine a_if_eq (pc := 11) (off := 7) (tgt := 18) (by decide +kernel) (by decide) (by omega) (fun c11 => ?_) (fun c11 => ?_)
      · exact absurd c11 (by decide)
      · refine a_iconst (pc := 14) (n := 1) (by decide +kernel) ?_
        refine a_goto (pc := 15) (off := 4) (tgt := 19) (by decide +kernel) (by decide) ?_
        refine a_istore_n (pc := 19) (i := 1) (lv' := [(0, .ref 68), (1, j_i 1)]) (by decide +kernel) (Nat.le_of_ble_eq_true rfl) rfl ?_
        refine a_iconst (pc := 20) (n := 0) (by decide +kernel) ?_
        refine a_istore_n (pc := 21) (i := 2) (lv' := [(0, .ref 68), (1, j_i 1), (2, j_i 0)]) (by decide +kernel) (Nat.le_of_ble_eq_true rfl) rfl ?_
        exact l_dfree22 hn hL hnm hg hgE 31 0 1 (by omega) (by omega) (by omega) (Or.inr rfl) (⟨fun _ => ⟨⟨by omega, p8⟩, fun j j0 j1 => absurd j0 (by omega)⟩, fun _ => rfl⟩)
    · show j_at _ _ _ [(0, .ref 68)] [j_i 0] _ _ _ _
      refine a_if_eq (pc := 11) (off := 7) (tgt := 18) (by decide +kernel) (by decide) (by omega) (fun c11 => ?_) (fun c11 => ?_)
      · refine a_iconst (pc := 18) (n := 0) (by decide +kernel) ?_
        refine a_istore_n (pc := 19) (i := 1) (lv' := [(0, .ref 68), (1, j_i 0)]) (by decide +kernel) (Nat.le_of_ble_eq_true rfl) rfl ?_
        refine a_iconst (pc := 20) (n := 0) (by decide +kernel) ?_
        refine a_istore_n (pc := 21) (i := 2) (lv' := [(0, .ref 68), (1, j_i 0), (2, j_i 0)]) (by decide +kernel) (Nat.le_of_ble_eq_true rfl) rfl ?_
        exact l_dfree22 hn hL hnm hg hgE 31 0 0 (by omega) (by omega) (by omega) (Or.inl rfl) (⟨fun g => absurd g (by omega), fun g => by first | exact absurd g.1.1 (by omega) | exact absurd g.1.2 p8⟩)
      · exact absurd c11 (by decide)
def d_nt (g N : Int → Int) (a L m : Int) : Int → Int := fun i => if a ≤ i ∧ i < a + m then (if i - a < L then N (i - a) else 0) else g i
theorem d_nt_s {g N : Int → Int} {a L k x : Int} (hk : 0 ≤ k) (hx : x = if k < L then N k else 0) : j_up (d_nt g N a L k) (a + k) x = d_nt g N a L (k + 1) := by
  funext i
  unfold j_up d_nt
  by_cases q : i = a + k
  · rw [if_pos q, if_pos (by omega), show i - a = k by omega, hx]
  · rw [if_neg q]
    by_cases r : a ≤ i ∧ i < a + k
    · rw [if_pos r, if_pos (show a ≤ i ∧ i < a + (k + 1) by omega)]
    · rw [if_neg r, if_neg (show ¬ (a ≤ i ∧ i < a + (k + 1)) by omega)]
theorem k_sA2 {σ : k_St} {a : Nat} {f g : Int → Int} : k_sA (k_sA σ a f) a g = k_sA σ a g := by
  unfold k_sA
  refine Prod.ext ?_ rfl
  funext b
  show (if b = a then g else if b = a then f else σ.1 b) = if b = a then g else σ.1 b
  by_cases h : b = a
  · simp only [if_pos h]
  · simp only [if_neg h]
theorem k_sA0 {σ : k_St} {a : Nat} : k_sA σ a (σ.1 a) = σ := by
  unfold k_sA
  refine Prod.ext ?_ rfl
  funext b
  show (if b = a then σ.1 a else σ.1 b) = σ.1 b
  by_cases h : b = a
  · rw [if_pos h, h]
  · rw [if_neg h]
set_option maxHeartbeats 4000000 in
theorem l_dnameTo {G : j_G} {X : k_X} {n : Nat} {σ : k_St} (hn : 101 ≤ n) (hL : 0 ≤ σ.2.1 68 7 ∧ σ.2.1 68 7 ≤ 16) (hnm : ∀ k, 0 ≤ k → k < σ.2.1 68 7 → 32 ≤ σ.1 71 k ∧ σ.1 71 k ≤ 126) {a : Int} (ha : 0 ≤ a ∧ a + 16 ≤ 1733)  : ∀ (m : Nat) (k : Int) (τ : k_St), 16 - k < (m : Int) → 0 ≤ k → k ≤ 16 → τ = k_sA σ 69 (d_nt (σ.1 69) (σ.1 71) a (σ.2.1 68 7) k) → j_at G mX12_nameTo 2 [(0, .ref 68), (1, j_i a), (2, j_i k)] [] (k_h X n τ) 0 0 (k_Q X (k_is n (k_sA σ 69 (d_nt (σ.1 69) (σ.1 71) a (σ.2.1 68 7) 16)) none)) := by
  intro m
  induction m with
  | zero => intro k τ h1 h2 h3; exact absurd h1 (by omega)
  | succ m ih =>
    intro k τ hm h0 hN hτ
    refine a_iload_n (pc := 2) (i := 2) (by decide +kernel) rfl ?_
    refine a_bipush (pc := 3) (n := 16) (by decide +kernel) rfl ?_
    refine a_icmp_ge (pc := 5) (off := 35) (tgt := 40) (by decide +kernel) (by decide) (by omega) (by omega) (fun c5 => ?_) (fun c5 => ?_)
    · refine a_return (pc := 40) (by decide +kernel) rfl ?_
      refine k_ret ?_
      exact ⟨rfl, rfl, by rw [hτ, show k = 16 by omega]⟩
    · refine a_aload_n (pc := 8) (i := 0) (by decide +kernel) rfl ?_
      refine b_getR (pc := 9) (b := 69) fl_X12_7 (by decide +kernel) (sh_68 hn) rfl ?_
      refine a_iload_n (pc := 12) (i := 1) (by decide +kernel) rfl ?_
      refine a_iload_n (pc := 13) (i := 2) (by decide +kernel) rfl ?_
      refine a_iadd (pc := 14) (by decide +kernel) ?_
      refine a_iload_n (pc := 15) (i := 2) (by decide +kernel) rfl ?_
      refine a_aload_n (pc := 16) (i := 0) (by decide +kernel) rfl ?_
      refine b_getI (pc := 17) fl_X12_195 (by decide +kernel) (sh_68 hn) rfl ?_
      rw [show τ.2.1 68 7 = σ.2.1 68 7 from (by rw [hτ]; rfl)]
      refine a_icmp_ge (pc := 20) (off := 12) (tgt := 32) (by decide +kernel) (by decide) (by omega) (by omega) (fun c20 => ?_) (fun c20 => ?_)
      · refine a_iconst (pc := 32) (n := 0) (by decide +kernel) ?_
        refine b_iastore (pc := 33) (by decide +kernel) (sh_69 hn) (by omega) (by omega) (by omega) ?_
        obtain ⟨σ1, hσ1⟩ : ∃ z, z = k_sA τ 69 (j_up (τ.1 69) (a + k) 0) := ⟨_, rfl⟩
        rw [← hσ1]
        refine a_iinc (pc := 34) (i := 2) (n := 1) (x := k) (lv' := [(0, .ref 68), (1, j_i a), (2, j_i (k + 1))]) (by decide +kernel) rfl (Nat.le_of_ble_eq_true rfl) rfl ?_
        refine a_goto (pc := 37) (off := -35) (tgt := 2) (by decide +kernel) (by decide) ?_
        exact ih (k + 1) σ1 (by omega) (by omega) (by omega) (by rw [hσ1, hτ, k_AA, k_sA2, d_nt_s (by omega) (by first | rw [if_pos (by omega)] | rw [if_neg (by omega)])])
      · refine a_aload_n (pc := 23) (i := 0) (by decide +kernel) rfl ?_
        refine b_getR (pc := 24) (b := 71) fl_X12_17 (by decide +kernel) (sh_68 hn) rfl ?_
        have x1 := hnm k (by omega) (by omega)
        refine a_iload_n (pc := 27) (i := 2) (by decide +kernel) rfl ?_
        refine b_iaload (pc := 28) (by decide +kernel) (sh_71 hn) (by omega) (by omega) (by omega) ?_
        rw [show τ.1 71 = σ.1 71 from (by rw [hτ, k_AN (by omega)])]
        refine a_goto (pc := 29) (off := 4) (tgt := 33) (by decide +kernel) (by decide) ?_
        refine b_iastore (pc := 33) (by decide +kernel) (sh_69 hn) (by omega) (by omega) (by omega) ?_
        obtain ⟨σ2, hσ2⟩ : ∃ z, z = k_sA τ 69 (j_up (τ.1 69) (a + k) (σ.1 71 k)) := ⟨_, rfl⟩
        rw [← hσ2]
        refine a_iinc (pc := 34) (i := 2) (n := 1) (x := k) (lv' := [(0, .ref 68), (1, j_i a), (2, j_i (k + 1))]) (by decide +kernel) rfl (Nat.le_of_ble_eq_true rfl) rfl ?_
        refine a_goto (pc := 37) (off := -35) (tgt := 2) (by decide +kernel) (by decide) ?_
        exact ih (k + 1) σ2 (by omega) (by omega) (by omega) (by rw [hσ2, hτ, k_AA, k_sA2, d_nt_s (by omega) (by first | rw [if_pos (by omega)] | rw [if_neg (by omega)])])
set_option maxHeartbeats 4000000 in
theorem s_dnameTo {G : j_G} {X : k_X} {n : Nat} {σ : k_St} (hn : 101 ≤ n) (hL : 0 ≤ σ.2.1 68 7 ∧ σ.2.1 68 7 ≤ 16) (hnm : ∀ k, 0 ≤ k → k < σ.2.1 68 7 → 32 ≤ σ.1 71 k ∧ σ.1 71 k ≤ 126) {a : Int} (ha : 0 ≤ a ∧ a + 16 ≤ 1733)  : k_run G X mX12_nameTo [.ref 68, j_i a] n σ 0 0 (k_is n (k_sA σ 69 (d_nt (σ.1 69) (σ.1 71) a (σ.2.1 68 7) 16)) none) := by
  refine k_enter (by decide +kernel) (Nat.le_of_ble_eq_true rfl) ?_
  show j_at _ _ _ [(0, .ref 68), (1, j_i a)] [] _ _ _ _
  refine a_iconst (pc := 0) (n := 0) (by decide +kernel) ?_
  refine a_istore_n (pc := 1) (i := 2) (lv' := [(0, .ref 68), (1, j_i a), (2, j_i 0)]) (by decide +kernel) (Nat.le_of_ble_eq_true rfl) rfl ?_
  exact l_dnameTo hn hL hnm ha 17 0 σ (by omega) (by omega) (by omega) (by rw [show d_nt (σ.1 69) (σ.1 71) a (σ.2.1 68 7) 0 = σ.1 69 by funext i; unfold d_nt; rw [if_neg (by omega)], k_sA0])
