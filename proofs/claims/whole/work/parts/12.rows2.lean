def k_ex (n : Nat) (σ : k_St) (P : Int → Prop) : k_P := fun v n' σ' => ∃ x : Int, v = some (j_i x) ∧ n' = n ∧ σ' = σ ∧ P x
theorem k_exI {n : Nat} {σ : k_St} {P : Int → Prop} {x : Int} (h : P x) : k_ex n σ P (some (j_i x)) n σ := ⟨x, rfl, rfl, rfl, h⟩
/-- the first blank of a row, or -9 -/
def r_blank (σ : k_St) (a R : Nat) (row : Int) (r : Int) : Prop := (r = -9 ∧ ∀ i, 0 ≤ i → i < r_cnt σ a R row → r_sgn σ a R row i ≠ 32) ∨ (0 ≤ r ∧ r < r_cnt σ a R row ∧ r_sgn σ a R row r = 32 ∧ ∀ i, 0 ≤ i → i < r → r_sgn σ a R row i ≠ 32)
def r_tidy (σ : k_St) (a R : Nat) (row : Int) : Prop := ∀ i, 0 ≤ i → i < r_cnt σ a R row → r_sgn σ a R row i = 32 → i ≠ 0 ∧ i ≠ r_cnt σ a R row - 1 ∧ r_sgn σ a R row (i - 1) ≠ 32
def r_lets (σ : k_St) (a R : Nat) (row : Int) : Prop := ∀ i, 0 ≤ i → i < r_cnt σ a R row → f_letter (r_sgn σ a R row i)
/-- two rows by their bytes -/
def r_cmp (s t : Int → Int) (r : Int) : Prop := (r = 0 ∧ ∀ i, 0 ≤ i → i < 16 → s i = t i) ∨ ∃ i, 0 ≤ i ∧ i < 16 ∧ (∀ j, 0 ≤ j → j < i → s j = t j) ∧ s i ≠ t i ∧ r = f_sgn (s i) (t i)
def r_alike (σ : k_St) (a R : Nat) (row : Int) (b R2 : Nat) (row2 : Int) : Prop := ∀ i, 0 ≤ i → i < r_cnt σ b R2 row2 → f_fold (r_sgn σ a R row i) = f_fold (r_sgn σ b R2 row2 i)
theorem f_sgn_cases (x y : Int) : f_sgn x y = -1 ∧ x < y ∨ f_sgn x y = 0 ∧ x = y ∨ f_sgn x y = 1 ∧ y < x := by
  unfold f_sgn
  by_cases h1 : x < y
  · rw [if_pos h1]; omega
  · by_cases h2 : x = y
    · rw [if_neg h1, if_pos h2]; omega
    · rw [if_neg h1, if_neg h2]; omega
theorem lt_succ_cases {P : Int → Prop} {i : Int} (h : ∀ j, 0 ≤ j → j < i → P j) (hi : P i) : ∀ j, 0 ≤ j → j < i + 1 → P j := fun j h0 h1 => by
  rcases (show j < i ∨ j = i by omega) with q | q
  · exact h j h0 q
  · rw [q]; exact hi
set_option maxHeartbeats 4000000 in
theorem l_firstBlank {G : j_G} {X : k_X} {n : Nat} {σ : k_St} {a R : Nat} {row : Int} (hR : r_at X n a R) (hw : r_wf σ a R) (hrow : -2147483648 ≤ row ∧ row ≤ 2147483647)  : ∀ (m : Nat) (i : Int), 16 - i < (m : Int) → 0 ≤ i → i ≤ r_cnt σ a R row → (∀ j, 0 ≤ j → j < i → r_sgn σ a R row j ≠ 32) → j_at G mX9_firstBlank 2 [(0, .ref a), (1, j_i row), (2, j_i i)] [] (k_h X n σ) 0 0 (k_Q X (k_ex n σ (r_blank σ a R row))) := by
  intro m
  induction m with
  | zero => intro i h1 h2 h3; exact absurd h3 (by have := r_cnt_in hw row; omega)
  | succ m ih =>
    intro i hm h0 hN hI
    obtain ⟨h5, h30, hs0, hs1, hs2⟩ := id hR
    have qz := r_cnt_in hw row
    refine a_iload_n (pc := 2) (i := 2) (by decide +kernel) rfl ?_
    refine a_aload_n (pc := 3) (i := 0) (by decide +kernel) rfl ?_
    refine a_iload_n (pc := 4) (i := 1) (by decide +kernel) rfl ?_
    refine b_pureV (pc := 5) [j_i row] [j_i i] ml_X9_29 (by decide +kernel) rfl rfl hs0 rfl rfl (Nat.le_of_ble_eq_true rfl) (j_fitI rfl rfl) (s_countOf hR hw (by omega)) ?_
    have qc := r_cnt_in hw row
    show j_at _ _ _ [(0, .ref a), (1, j_i row), (2, j_i i)] [j_i (r_cnt σ a R row), j_i i] _ _ _ _
    refine a_icmp_ge (pc := 8) (off := 22) (tgt := 30) (by decide +kernel) (by decide) (by omega) (by omega) (fun c8 => ?_) (fun c8 => ?_)
    · refine a_bipush (pc := 30) (n := (-9)) (by decide +kernel) rfl ?_
      refine a_ireturn (pc := 32) (by decide +kernel) rfl ?_
      refine k_ret ?_
      exact k_exI (Or.inl ⟨rfl, fun j h0 h1 => hI j h0 (by omega)⟩)
    · refine a_aload_n (pc := 11) (i := 0) (by decide +kernel) rfl ?_
      refine a_iload_n (pc := 12) (i := 1) (by decide +kernel) rfl ?_
      refine a_iload_n (pc := 13) (i := 2) (by decide +kernel) rfl ?_
      refine b_pureV (pc := 14) [j_i row, j_i i] [] ml_X9_33 (by decide +kernel) rfl rfl hs0 rfl rfl (Nat.le_of_ble_eq_true rfl) (j_fitI rfl rfl) (s_signAt hR hw (by omega) (by omega)) ?_
      have qs1 := r_sgn_in hw row i
      show j_at _ _ _ [(0, .ref a), (1, j_i row), (2, j_i i)] [j_i (r_sgn σ a R row i)] _ _ _ _
      refine a_bipush (pc := 17) (n := 32) (by decide +kernel) rfl ?_
      refine a_icmp_ne (pc := 19) (off := 5) (tgt := 24) (by decide +kernel) (by decide) (by omega) (by omega) (fun c19 => ?_) (fun c19 => ?_)
      · refine a_iinc (pc := 24) (i := 2) (n := 1) (x := i) (lv' := [(0, .ref a), (1, j_i row), (2, j_i (i + 1))]) (by decide +kernel) rfl (Nat.le_of_ble_eq_true rfl) rfl ?_
        refine a_goto (pc := 27) (off := -25) (tgt := 2) (by decide +kernel) (by decide) ?_
        exact ih (i + 1) (by omega) (by omega) (by omega) (lt_succ_cases hI c19)
      · refine a_iload_n (pc := 22) (i := 2) (by decide +kernel) rfl ?_
        refine a_ireturn (pc := 23) (by decide +kernel) rfl ?_
        refine k_ret ?_
        exact k_exI (Or.inr ⟨by omega, by omega, c19, hI⟩)
set_option maxHeartbeats 4000000 in
theorem s_firstBlank {G : j_G} {X : k_X} {n : Nat} {σ : k_St} {a R : Nat} {row : Int} (hR : r_at X n a R) (hw : r_wf σ a R) (hrow : -2147483648 ≤ row ∧ row ≤ 2147483647)  : k_run G X mX9_firstBlank [.ref a, j_i row] n σ 0 0 (k_ex n σ (r_blank σ a R row)) := by
  obtain ⟨h5, h30, hs0, hs1, hs2⟩ := id hR
  refine k_enter (by decide +kernel) (Nat.le_of_ble_eq_true rfl) ?_
  show j_at _ _ _ [(0, .ref a), (1, j_i row)] [] _ _ _ _
  refine a_iconst (pc := 0) (n := 0) (by decide +kernel) ?_
  refine a_istore_n (pc := 1) (i := 2) (lv' := [(0, .ref a), (1, j_i row), (2, j_i 0)]) (by decide +kernel) (Nat.le_of_ble_eq_true rfl) rfl ?_
  exact l_firstBlank hR hw hrow 17 0 (by omega) (by omega) (by have := r_cnt_in hw row; omega) (fun j h0 h1 => absurd h0 (by omega))
set_option maxHeartbeats 4000000 in
theorem l_isTidy {G : j_G} {X : k_X} {n : Nat} {σ : k_St} {a R : Nat} {row : Int} (hR : r_at X n a R) (hw : r_wf σ a R) (hrow : -2147483648 ≤ row ∧ row ≤ 2147483647)  : ∀ (m : Nat) (i : Int), 16 - i < (m : Int) → 0 ≤ i → i ≤ r_cnt σ a R row → (∀ j, 0 ≤ j → j < i → r_sgn σ a R row j = 32 → j ≠ 0 ∧ j ≠ r_cnt σ a R row - 1 ∧ r_sgn σ a R row (j - 1) ≠ 32) → j_at G mX9_isTidy 8 [(0, .ref a), (1, j_i row), (2, j_i (r_cnt σ a R row)), (3, j_i i)] [] (k_h X n σ) 0 0 (k_Q X (k_b n σ (r_tidy σ a R row))) := by
  intro m
  induction m with
  | zero => intro i h1 h2 h3; exact absurd h3 (by have := r_cnt_in hw row; omega)
  | succ m ih =>
    intro i hm h0 hN hI
    obtain ⟨h5, h30, hs0, hs1, hs2⟩ := id hR
    have qz := r_cnt_in hw row
    refine a_iload_n (pc := 8) (i := 3) (by decide +kernel) rfl ?_
    refine a_iload_n (pc := 9) (i := 2) (by decide +kernel) rfl ?_
    refine a_icmp_ge (pc := 10) (off := 58) (tgt := 68) (by decide +kernel) (by decide) (by omega) (by omega) (fun c10 => ?_) (fun c10 => ?_)
    · refine a_iconst (pc := 68) (n := 1) (by decide +kernel) ?_
      refine a_zreturn (pc := 69) (by decide +kernel) rfl (by omega) ?_
      refine k_ret ?_
      exact k_by (fun j h0 h1 => hI j h0 (by omega))
    · refine a_iload_n (pc := 13) (i := 3) (by decide +kernel) rfl ?_
      refine a_if_eq (pc := 14) (off := 10) (tgt := 24) (by decide +kernel) (by decide) (by omega) (fun c14 => ?_) (fun c14 => ?_)
      · refine a_iconst (pc := 24) (n := 1) (by decide +kernel) ?_
        refine a_goto (pc := 25) (off := 4) (tgt := 29) (by decide +kernel) (by decide) ?_
        refine a_istore (pc := 29) (i := 4) (lv' := [(0, .ref a), (1, j_i row), (2, j_i (r_cnt σ a R row)), (3, j_i i), (4, j_i 1)]) (by decide +kernel) (Nat.le_of_ble_eq_true rfl) rfl ?_
        refine a_aload_n (pc := 31) (i := 0) (by decide +kernel) rfl ?_
        refine a_iload_n (pc := 32) (i := 1) (by decide +kernel) rfl ?_
        refine a_iload_n (pc := 33) (i := 3) (by decide +kernel) rfl ?_
        refine b_pureV (pc := 34) [j_i row, j_i i] [] ml_X9_33 (by decide +kernel) rfl rfl hs0 rfl rfl (Nat.le_of_ble_eq_true rfl) (j_fitI rfl rfl) (s_signAt hR hw (by omega) (by omega)) ?_
        have qs1 := r_sgn_in hw row i
        show j_at _ _ _ [(0, .ref a), (1, j_i row), (2, j_i (r_cnt σ a R row)), (3, j_i i), (4, j_i 1)] [j_i (r_sgn σ a R row i)] _ _ _ _
        refine a_bipush (pc := 37) (n := 32) (by decide +kernel) rfl ?_
        refine a_icmp_ne (pc := 39) (off := 23) (tgt := 62) (by decide +kernel) (by decide) (by omega) (by omega) (fun c39 => ?_) (fun c39 => ?_)
        · refine a_iinc (pc := 62) (i := 3) (n := 1) (x := i) (lv' := [(0, .ref a), (1, j_i row), (2, j_i (r_cnt σ a R row)), (3, j_i (i + 1)), (4, j_i 1)]) (by decide +kernel) rfl (Nat.le_of_ble_eq_true rfl) rfl ?_
          refine a_goto (pc := 65) (off := -57) (tgt := 8) (by decide +kernel) (by decide) ?_
          exact a_sub (fun q hq => by simp only [List.mem_cons, List.not_mem_nil, or_false] at hq ⊢; rcases hq with rfl | rfl | rfl | rfl <;> simp) (ih (i + 1) (by omega) (by omega) (by omega) (lt_succ_cases hI (fun hb => by first | exact absurd hb c39 | exact ⟨by omega, by omega, c57⟩)))
        · refine a_iload (pc := 42) (i := 4) (by decide +kernel) rfl ?_
          refine a_if_ne (pc := 44) (off := 16) (tgt := 60) (by decide +kernel) (by decide) (by omega) (fun c44 => ?_) (fun c44 => ?_)
          · refine a_iconst (pc := 60) (n := 0) (by decide +kernel) ?_
            refine a_zreturn (pc := 61) (by decide +kernel) rfl (by omega) ?_
            refine k_ret ?_
            refine k_bn (fun h9 => ?_)
            have h8 := h9 i h0 (by omega) c39
            first | exact absurd c57 h8.2.2 | omega
          · exact absurd c44 (by decide)
      · refine a_iload_n (pc := 17) (i := 3) (by decide +kernel) rfl ?_
        refine a_iload_n (pc := 18) (i := 2) (by decide +kernel) rfl ?_
        refine a_iconst (pc := 19) (n := 1) (by decide +kernel) ?_
        refine a_isub (pc := 20) (by decide +kernel) ?_
        refine a_icmp_ne (pc := 21) (off := 7) (tgt := 28) (by decide +kernel) (by decide) (by omega) (by omega) (fun c21 => ?_) (fun c21 => ?_)
        · refine a_iconst (pc := 28) (n := 0) (by decide +kernel) ?_
          refine a_istore (pc := 29) (i := 4) (lv' := [(0, .ref a), (1, j_i row), (2, j_i (r_cnt σ a R row)), (3, j_i i), (4, j_i 0)]) (by decide +kernel) (Nat.le_of_ble_eq_true rfl) rfl ?_
          refine a_aload_n (pc := 31) (i := 0) (by decide +kernel) rfl ?_
          refine a_iload_n (pc := 32) (i := 1) (by decide +kernel) rfl ?_
          refine a_iload_n (pc := 33) (i := 3) (by decide +kernel) rfl ?_
          refine b_pureV (pc := 34) [j_i row, j_i i] [] ml_X9_33 (by decide +kernel) rfl rfl hs0 rfl rfl (Nat.le_of_ble_eq_true rfl) (j_fitI rfl rfl) (s_signAt hR hw (by omega) (by omega)) ?_
          have qs2 := r_sgn_in hw row i
          show j_at _ _ _ [(0, .ref a), (1, j_i row), (2, j_i (r_cnt σ a R row)), (3, j_i i), (4, j_i 0)] [j_i (r_sgn σ a R row i)] _ _ _ _
          refine a_bipush (pc := 37) (n := 32) (by decide +kernel) rfl ?_
          refine a_icmp_ne (pc := 39) (off := 23) (tgt := 62) (by decide +kernel) (by decide) (by omega) (by omega) (fun c39 => ?_) (fun c39 => ?_)
          · refine a_iinc (pc := 62) (i := 3) (n := 1) (x := i) (lv' := [(0, .ref a), (1, j_i row), (2, j_i (r_cnt σ a R row)), (3, j_i (i + 1)), (4, j_i 0)]) (by decide +kernel) rfl (Nat.le_of_ble_eq_true rfl) rfl ?_
            refine a_goto (pc := 65) (off := -57) (tgt := 8) (by decide +kernel) (by decide) ?_
            exact a_sub (fun q hq => by simp only [List.mem_cons, List.not_mem_nil, or_false] at hq ⊢; rcases hq with rfl | rfl | rfl | rfl <;> simp) (ih (i + 1) (by omega) (by omega) (by omega) (lt_succ_cases hI (fun hb => by first | exact absurd hb c39 | exact ⟨by omega, by omega, c57⟩)))
          · refine a_iload (pc := 42) (i := 4) (by decide +kernel) rfl ?_
            refine a_if_ne (pc := 44) (off := 16) (tgt := 60) (by decide +kernel) (by decide) (by omega) (fun c44 => ?_) (fun c44 => ?_)
            · exact absurd c44 (by decide)
            · refine a_aload_n (pc := 47) (i := 0) (by decide +kernel) rfl ?_
              refine a_iload_n (pc := 48) (i := 1) (by decide +kernel) rfl ?_
              refine a_iload_n (pc := 49) (i := 3) (by decide +kernel) rfl ?_
              refine a_iconst (pc := 50) (n := 1) (by decide +kernel) ?_
              refine a_isub (pc := 51) (by decide +kernel) ?_
              refine b_pureV (pc := 52) [j_i row, j_i (i - 1)] [] ml_X9_33 (by decide +kernel) rfl rfl hs0 rfl rfl (Nat.le_of_ble_eq_true rfl) (j_fitI rfl rfl) (s_signAt hR hw (by omega) (by omega)) ?_
              have qs3 := r_sgn_in hw row (i - 1)
              show j_at _ _ _ [(0, .ref a), (1, j_i row), (2, j_i (r_cnt σ a R row)), (3, j_i i), (4, j_i 0)] [j_i (r_sgn σ a R row (i - 1))] _ _ _ _
              refine a_bipush (pc := 55) (n := 32) (by decide +kernel) rfl ?_
              refine a_icmp_ne (pc := 57) (off := 5) (tgt := 62) (by decide +kernel) (by decide) (by omega) (by omega) (fun c57 => ?_) (fun c57 => ?_)
              · refine a_iinc (pc := 62) (i := 3) (n := 1) (x := i) (lv' := [(0, .ref a), (1, j_i row), (2, j_i (r_cnt σ a R row)), (3, j_i (i + 1)), (4, j_i 0)]) (by decide +kernel) rfl (Nat.le_of_ble_eq_true rfl) rfl ?_
                refine a_goto (pc := 65) (off := -57) (tgt := 8) (by decide +kernel) (by decide) ?_
                exact a_sub (fun q hq => by simp only [List.mem_cons, List.not_mem_nil, or_false] at hq ⊢; rcases hq with rfl | rfl | rfl | rfl <;> simp) (ih (i + 1) (by omega) (by omega) (by omega) (lt_succ_cases hI (fun hb => by first | exact absurd hb c39 | exact ⟨by omega, by omega, c57⟩)))
              · refine a_iconst (pc := 60) (n := 0) (by decide +kernel) ?_
                refine a_zreturn (pc := 61) (by decide +kernel) rfl (by omega) ?_
                refine k_ret ?_
                refine k_bn (fun h9 => ?_)
                have h8 := h9 i h0 (by omega) c39
                first | exact absurd c57 h8.2.2 | omega
        · refine a_iconst (pc := 24) (n := 1) (by decide +kernel) ?_
          refine a_goto (pc := 25) (off := 4) (tgt := 29) (by decide +kernel) (by decide) ?_
          refine a_istore (pc := 29) (i := 4) (lv' := [(0, .ref a), (1, j_i row), (2, j_i (r_cnt σ a R row)), (3, j_i i), (4, j_i 1)]) (by decide +kernel) (Nat.le_of_ble_eq_true rfl) rfl ?_
          refine a_aload_n (pc := 31) (i := 0) (by decide +kernel) rfl ?_
          refine a_iload_n (pc := 32) (i := 1) (by decide +kernel) rfl ?_
          refine a_iload_n (pc := 33) (i := 3) (by decide +kernel) rfl ?_
          refine b_pureV (pc := 34) [j_i row, j_i i] [] ml_X9_33 (by decide +kernel) rfl rfl hs0 rfl rfl (Nat.le_of_ble_eq_true rfl) (j_fitI rfl rfl) (s_signAt hR hw (by omega) (by omega)) ?_
          have qs4 := r_sgn_in hw row i
          show j_at _ _ _ [(0, .ref a), (1, j_i row), (2, j_i (r_cnt σ a R row)), (3, j_i i), (4, j_i 1)] [j_i (r_sgn σ a R row i)] _ _ _ _
          refine a_bipush (pc := 37) (n := 32) (by decide +kernel) rfl ?_
          refine a_icmp_ne (pc := 39) (off := 23) (tgt := 62) (by decide +kernel) (by decide) (by omega) (by omega) (fun c39 => ?_) (fun c39 => ?_)
          · refine a_iinc (pc := 62) (i := 3) (n := 1) (x := i) (lv' := [(0, .ref a), (1, j_i row), (2, j_i (r_cnt σ a R row)), (3, j_i (i + 1)), (4, j_i 1)]) (by decide +kernel) rfl (Nat.le_of_ble_eq_true rfl) rfl ?_
            refine a_goto (pc := 65) (off := -57) (tgt := 8) (by decide +kernel) (by decide) ?_
            exact a_sub (fun q hq => by simp only [List.mem_cons, List.not_mem_nil, or_false] at hq ⊢; rcases hq with rfl | rfl | rfl | rfl <;> simp) (ih (i + 1) (by omega) (by omega) (by omega) (lt_succ_cases hI (fun hb => by first | exact absurd hb c39 | exact ⟨by omega, by omega, c57⟩)))
          · refine a_iload (pc := 42) (i := 4) (by decide +kernel) rfl ?_
            refine a_if_ne (pc := 44) (off := 16) (tgt := 60) (by decide +kernel) (by decide) (by omega) (fun c44 => ?_) (fun c44 => ?_)
            · refine a_iconst (pc := 60) (n := 0) (by decide +kernel) ?_
              refine a_zreturn (pc := 61) (by decide +kernel) rfl (by omega) ?_
              refine k_ret ?_
              refine k_bn (fun h9 => ?_)
              have h8 := h9 i h0 (by omega) c39
              first | exact absurd c57 h8.2.2 | omega
            · exact absurd c44 (by decide)
set_option maxHeartbeats 4000000 in
theorem s_isTidy {G : j_G} {X : k_X} {n : Nat} {σ : k_St} {a R : Nat} {row : Int} (hR : r_at X n a R) (hw : r_wf σ a R) (hrow : -2147483648 ≤ row ∧ row ≤ 2147483647)  : k_run G X mX9_isTidy [.ref a, j_i row] n σ 0 0 (k_b n σ (r_tidy σ a R row)) := by
  obtain ⟨h5, h30, hs0, hs1, hs2⟩ := id hR
  refine k_enter (by decide +kernel) (Nat.le_of_ble_eq_true rfl) ?_
  show j_at _ _ _ [(0, .ref a), (1, j_i row)] [] _ _ _ _
  refine a_aload_n (pc := 0) (i := 0) (by decide +kernel) rfl ?_
  refine a_iload_n (pc := 1) (i := 1) (by decide +kernel) rfl ?_
  refine b_pureV (pc := 2) [j_i row] [] ml_X9_29 (by decide +kernel) rfl rfl hs0 rfl rfl (Nat.le_of_ble_eq_true rfl) (j_fitI rfl rfl) (s_countOf hR hw (by omega)) ?_
  have qc := r_cnt_in hw row
  show j_at _ _ _ [(0, .ref a), (1, j_i row)] [j_i (r_cnt σ a R row)] _ _ _ _
  refine a_istore_n (pc := 5) (i := 2) (lv' := [(0, .ref a), (1, j_i row), (2, j_i (r_cnt σ a R row))]) (by decide +kernel) (Nat.le_of_ble_eq_true rfl) rfl ?_
  refine a_iconst (pc := 6) (n := 0) (by decide +kernel) ?_
  refine a_istore_n (pc := 7) (i := 3) (lv' := [(0, .ref a), (1, j_i row), (2, j_i (r_cnt σ a R row)), (3, j_i 0)]) (by decide +kernel) (Nat.le_of_ble_eq_true rfl) rfl ?_
  exact l_isTidy hR hw hrow 17 0 (by omega) (by omega) (by omega) (fun j h0 h1 => absurd h0 (by omega))
set_option maxHeartbeats 4000000 in
theorem l_isOfLetters {G : j_G} {X : k_X} {n : Nat} {σ : k_St} {a R : Nat} {row : Int} (hR : r_at X n a R) (hw : r_wf σ a R) (hrow : -2147483648 ≤ row ∧ row ≤ 2147483647)  : ∀ (m : Nat) (i : Int), 16 - i < (m : Int) → 0 ≤ i → i ≤ r_cnt σ a R row → (∀ j, 0 ≤ j → j < i → f_letter (r_sgn σ a R row j)) → j_at G mX9_isOfLetters 2 [(0, .ref a), (1, j_i row), (2, j_i i)] [] (k_h X n σ) 0 0 (k_Q X (k_b n σ (r_lets σ a R row))) := by
  intro m
  induction m with
  | zero => intro i h1 h2 h3; exact absurd h3 (by have := r_cnt_in hw row; omega)
  | succ m ih =>
    intro i hm h0 hN hI
    obtain ⟨h5, h30, hs0, hs1, hs2⟩ := id hR
    have qz := r_cnt_in hw row
    refine a_iload_n (pc := 2) (i := 2) (by decide +kernel) rfl ?_
    refine a_aload_n (pc := 3) (i := 0) (by decide +kernel) rfl ?_
    refine a_iload_n (pc := 4) (i := 1) (by decide +kernel) rfl ?_
    refine b_pureV (pc := 5) [j_i row] [j_i i] ml_X9_29 (by decide +kernel) rfl rfl hs0 rfl rfl (Nat.le_of_ble_eq_true rfl) (j_fitI rfl rfl) (s_countOf hR hw (by omega)) ?_
    have qc := r_cnt_in hw row
    show j_at _ _ _ [(0, .ref a), (1, j_i row), (2, j_i i)] [j_i (r_cnt σ a R row), j_i i] _ _ _ _
    refine a_icmp_ge (pc := 8) (off := 23) (tgt := 31) (by decide +kernel) (by decide) (by omega) (by omega) (fun c8 => ?_) (fun c8 => ?_)
    · refine a_iconst (pc := 31) (n := 1) (by decide +kernel) ?_
      refine a_zreturn (pc := 32) (by decide +kernel) rfl (by omega) ?_
      refine k_ret ?_
      exact k_by (fun j h0 h1 => hI j h0 (by omega))
    · refine a_aload_n (pc := 11) (i := 0) (by decide +kernel) rfl ?_
      refine a_iload_n (pc := 12) (i := 1) (by decide +kernel) rfl ?_
      refine a_iload_n (pc := 13) (i := 2) (by decide +kernel) rfl ?_
      refine b_pureV (pc := 14) [j_i row, j_i i] [] ml_X9_33 (by decide +kernel) rfl rfl hs0 rfl rfl (Nat.le_of_ble_eq_true rfl) (j_fitI rfl rfl) (s_signAt hR hw (by omega) (by omega)) ?_
      have qs1 := r_sgn_in hw row i
      show j_at _ _ _ [(0, .ref a), (1, j_i row), (2, j_i i)] [j_i (r_sgn σ a R row i)] _ _ _ _
      refine b_callS (pc := 17) (c' := 0) (sl' := 0) [j_i (r_sgn σ a R row i)] [] ml_X9_49 (by decide +kernel) rfl rfl (Nat.le_of_ble_eq_true rfl) (j_fitI rfl rfl) (s_isLetter (by omega)) (fun v n' σ' hq => ?_)
      obtain ⟨x, rfl, e1, e2, hx⟩ := hq
      rw [e1, e2]; clear e1 e2
      rcases hx with ⟨rfl, p17⟩ | ⟨rfl, p17⟩
      · show j_at _ _ _ [(0, .ref a), (1, j_i row), (2, j_i i)] [j_i 1] _ _ _ _
        refine a_if_ne (pc := 20) (off := 5) (tgt := 25) (by decide +kernel) (by decide) (by omega) (fun c20 => ?_) (fun c20 => ?_)
        · refine a_iinc (pc := 25) (i := 2) (n := 1) (x := i) (lv' := [(0, .ref a), (1, j_i row), (2, j_i (i + 1))]) (by decide +kernel) rfl (Nat.le_of_ble_eq_true rfl) rfl ?_
          refine a_goto (pc := 28) (off := -26) (tgt := 2) (by decide +kernel) (by decide) ?_
          exact ih (i + 1) (by omega) (by omega) (by omega) (lt_succ_cases hI p17)
        · exact absurd c20 (by decide)
      · show j_at _ _ _ [(0, .ref a), (1, j_i row), (2, j_i i)] [j_i 0] _ _ _ _
        refine a_if_ne (pc := 20) (off := 5) (tgt := 25) (by decide +kernel) (by decide) (by omega) (fun c20 => ?_) (fun c20 => ?_)
        · exact absurd c20 (by decide)
        · refine a_iconst (pc := 23) (n := 0) (by decide +kernel) ?_
          refine a_zreturn (pc := 24) (by decide +kernel) rfl (by omega) ?_
          refine k_ret ?_
          exact k_bn (fun h9 => p17 (h9 i h0 (by omega)))
set_option maxHeartbeats 4000000 in
theorem s_isOfLetters {G : j_G} {X : k_X} {n : Nat} {σ : k_St} {a R : Nat} {row : Int} (hR : r_at X n a R) (hw : r_wf σ a R) (hrow : -2147483648 ≤ row ∧ row ≤ 2147483647)  : k_run G X mX9_isOfLetters [.ref a, j_i row] n σ 0 0 (k_b n σ (r_lets σ a R row)) := by
  obtain ⟨h5, h30, hs0, hs1, hs2⟩ := id hR
  refine k_enter (by decide +kernel) (Nat.le_of_ble_eq_true rfl) ?_
  show j_at _ _ _ [(0, .ref a), (1, j_i row)] [] _ _ _ _
  refine a_iconst (pc := 0) (n := 0) (by decide +kernel) ?_
  refine a_istore_n (pc := 1) (i := 2) (lv' := [(0, .ref a), (1, j_i row), (2, j_i 0)]) (by decide +kernel) (Nat.le_of_ble_eq_true rfl) rfl ?_
  exact l_isOfLetters hR hw hrow 17 0 (by omega) (by omega) (by have := r_cnt_in hw row; omega) (fun j h0 h1 => absurd h0 (by omega))
set_option maxHeartbeats 4000000 in
theorem l_byBytes {G : j_G} {X : k_X} {n : Nat} {σ : k_St} {a R : Nat} {b R2 : Nat} {row row2 : Int} (hR : r_at X n a R) (hw : r_wf σ a R) (hrow : -2147483648 ≤ row ∧ row ≤ 2147483647) (hRb : r_at X n b R2) (hwb : r_wf σ b R2) (hrow2 : -2147483648 ≤ row2 ∧ row2 ≤ 2147483647)  : ∀ (m : Nat) (i : Int), 16 - i < (m : Int) → 0 ≤ i → i ≤ 16 → (∀ j, 0 ≤ j → j < i → r_sgn σ a R row j = r_sgn σ b R2 row2 j) → j_at G mX9_byBytes 3 [(0, .ref a), (1, j_i row), (2, .ref b), (3, j_i row2), (4, j_i i)] [] (k_h X n σ) 0 0 (k_Q X (k_ex n σ (r_cmp (r_sgn σ a R row) (r_sgn σ b R2 row2)))) := by
  intro m
  induction m with
  | zero => intro i h1 h2 h3; exact absurd h3 (by omega)
  | succ m ih =>
    intro i hm h0 hN hI
    obtain ⟨h5, h30, hs0, hs1, hs2⟩ := id hR
    obtain ⟨g5, g30, gs0, gs1, gs2⟩ := id hRb
    refine a_iload (pc := 3) (i := 4) (by decide +kernel) rfl ?_
    refine a_bipush (pc := 5) (n := 16) (by decide +kernel) rfl ?_
    refine a_icmp_ge (pc := 7) (off := 36) (tgt := 43) (by decide +kernel) (by decide) (by omega) (by omega) (fun c7 => ?_) (fun c7 => ?_)
    · refine a_iconst (pc := 43) (n := 0) (by decide +kernel) ?_
      refine a_ireturn (pc := 44) (by decide +kernel) rfl ?_
      refine k_ret ?_
      exact k_exI (Or.inl ⟨rfl, fun j h0 h1 => hI j h0 (by omega)⟩)
    · refine a_aload_n (pc := 10) (i := 0) (by decide +kernel) rfl ?_
      refine a_iload_n (pc := 11) (i := 1) (by decide +kernel) rfl ?_
      refine a_iload (pc := 12) (i := 4) (by decide +kernel) rfl ?_
      refine b_pureV (pc := 14) [j_i row, j_i i] [] ml_X9_33 (by decide +kernel) rfl rfl hs0 rfl rfl (Nat.le_of_ble_eq_true rfl) (j_fitI rfl rfl) (s_signAt hR hw (by omega) (by omega)) ?_
      have qs1 := r_sgn_in hw row i
      show j_at _ _ _ [(0, .ref a), (1, j_i row), (2, .ref b), (3, j_i row2), (4, j_i i)] [j_i (r_sgn σ a R row i)] _ _ _ _
      refine a_aload_n (pc := 17) (i := 2) (by decide +kernel) rfl ?_
      refine a_iload_n (pc := 18) (i := 3) (by decide +kernel) rfl ?_
      refine a_iload (pc := 19) (i := 4) (by decide +kernel) rfl ?_
      refine b_pureV (pc := 21) [j_i row2, j_i i] [j_i (r_sgn σ a R row i)] ml_X9_33 (by decide +kernel) rfl rfl gs0 rfl rfl (Nat.le_of_ble_eq_true rfl) (j_fitI rfl rfl) (s_signAt hRb hwb (by omega) (by omega)) ?_
      have qs2 := r_sgn_in hwb row2 i
      show j_at _ _ _ [(0, .ref a), (1, j_i row), (2, .ref b), (3, j_i row2), (4, j_i i)] [j_i (r_sgn σ b R2 row2 i), j_i (r_sgn σ a R row i)] _ _ _ _
      refine b_pureS (pc := 24) [j_i (r_sgn σ a R row i), j_i (r_sgn σ b R2 row2 i)] [] ml_X9_53 (by decide +kernel) rfl rfl (Nat.le_of_ble_eq_true rfl) (j_fitI rfl rfl) (s_icompare (by omega) (by omega)) ?_
      show j_at _ _ _ [(0, .ref a), (1, j_i row), (2, .ref b), (3, j_i row2), (4, j_i i)] [j_i (f_sgn (r_sgn σ a R row i) (r_sgn σ b R2 row2 i))] _ _ _ _
      have hz := f_sgn_cases (r_sgn σ a R row i) (r_sgn σ b R2 row2 i)
      refine a_istore (pc := 27) (i := 5) (lv' := [(0, .ref a), (1, j_i row), (2, .ref b), (3, j_i row2), (4, j_i i), (5, j_i (f_sgn (r_sgn σ a R row i) (r_sgn σ b R2 row2 i)))]) (by decide +kernel) (Nat.le_of_ble_eq_true rfl) rfl ?_
      refine a_iload (pc := 29) (i := 5) (by decide +kernel) rfl ?_
      refine a_if_eq (pc := 31) (off := 6) (tgt := 37) (by decide +kernel) (by decide) (by omega) (fun c31 => ?_) (fun c31 => ?_)
      · refine a_iinc (pc := 37) (i := 4) (n := 1) (x := i) (lv' := [(0, .ref a), (1, j_i row), (2, .ref b), (3, j_i row2), (4, j_i (i + 1)), (5, j_i (f_sgn (r_sgn σ a R row i) (r_sgn σ b R2 row2 i)))]) (by decide +kernel) rfl (Nat.le_of_ble_eq_true rfl) rfl ?_
        refine a_goto (pc := 40) (off := -37) (tgt := 3) (by decide +kernel) (by decide) ?_
        exact a_sub (fun q hq => by simp only [List.mem_cons, List.not_mem_nil, or_false] at hq ⊢; rcases hq with rfl | rfl | rfl | rfl | rfl <;> simp) (ih (i + 1) (by omega) (by omega) (by omega) (lt_succ_cases hI (by omega)))
      · refine a_iload (pc := 34) (i := 5) (by decide +kernel) rfl ?_
        refine a_ireturn (pc := 36) (by decide +kernel) rfl ?_
        refine k_ret ?_
        refine k_exI (Or.inr ⟨i, h0, c7, hI, ?_, rfl⟩)
        intro h9; apply c31; unfold f_sgn; rw [if_neg (by omega), if_pos h9]
set_option maxHeartbeats 4000000 in
theorem s_byBytes {G : j_G} {X : k_X} {n : Nat} {σ : k_St} {a R : Nat} {b R2 : Nat} {row row2 : Int} (hR : r_at X n a R) (hw : r_wf σ a R) (hrow : -2147483648 ≤ row ∧ row ≤ 2147483647) (hRb : r_at X n b R2) (hwb : r_wf σ b R2) (hrow2 : -2147483648 ≤ row2 ∧ row2 ≤ 2147483647)  : k_run G X mX9_byBytes [.ref a, j_i row, .ref b, j_i row2] n σ 0 0 (k_ex n σ (r_cmp (r_sgn σ a R row) (r_sgn σ b R2 row2))) := by
  obtain ⟨h5, h30, hs0, hs1, hs2⟩ := id hR
  obtain ⟨g5, g30, gs0, gs1, gs2⟩ := id hRb
  refine k_enter (by decide +kernel) (Nat.le_of_ble_eq_true rfl) ?_
  show j_at _ _ _ [(0, .ref a), (1, j_i row), (2, .ref b), (3, j_i row2)] [] _ _ _ _
  refine a_iconst (pc := 0) (n := 0) (by decide +kernel) ?_
  refine a_istore (pc := 1) (i := 4) (lv' := [(0, .ref a), (1, j_i row), (2, .ref b), (3, j_i row2), (4, j_i 0)]) (by decide +kernel) (Nat.le_of_ble_eq_true rfl) rfl ?_
  exact l_byBytes hR hw hrow hRb hwb hrow2 17 0 (by omega) (by omega) (by omega) (fun j h0 h1 => absurd h0 (by omega))
set_option maxHeartbeats 4000000 in
theorem l_beginsAlike {G : j_G} {X : k_X} {n : Nat} {σ : k_St} {a R : Nat} {b R2 : Nat} {row row2 : Int} (hR : r_at X n a R) (hw : r_wf σ a R) (hrow : -2147483648 ≤ row ∧ row ≤ 2147483647) (hRb : r_at X n b R2) (hwb : r_wf σ b R2) (hrow2 : -2147483648 ≤ row2 ∧ row2 ≤ 2147483647)  : ∀ (m : Nat) (i : Int), 16 - i < (m : Int) → 0 ≤ i → i ≤ r_cnt σ b R2 row2 → (∀ j, 0 ≤ j → j < i → f_fold (r_sgn σ a R row j) = f_fold (r_sgn σ b R2 row2 j)) → j_at G mX9_beginsAlike 3 [(0, .ref a), (1, j_i row), (2, .ref b), (3, j_i row2), (4, j_i i)] [] (k_h X n σ) 0 0 (k_Q X (k_b n σ (r_alike σ a R row b R2 row2))) := by
  intro m
  induction m with
  | zero => intro i h1 h2 h3; exact absurd h3 (by have := r_cnt_in hwb row2; omega)
  | succ m ih =>
    intro i hm h0 hN hI
    obtain ⟨h5, h30, hs0, hs1, hs2⟩ := id hR
    obtain ⟨g5, g30, gs0, gs1, gs2⟩ := id hRb
    have qz := r_cnt_in hwb row2
    refine a_iload (pc := 3) (i := 4) (by decide +kernel) rfl ?_
    refine a_aload_n (pc := 5) (i := 2) (by decide +kernel) rfl ?_
    refine a_iload_n (pc := 6) (i := 3) (by decide +kernel) rfl ?_
    refine b_pureV (pc := 7) [j_i row2] [j_i i] ml_X9_29 (by decide +kernel) rfl rfl gs0 rfl rfl (Nat.le_of_ble_eq_true rfl) (j_fitI rfl rfl) (s_countOf hRb hwb (by omega)) ?_
    have qc := r_cnt_in hwb row2
    show j_at _ _ _ [(0, .ref a), (1, j_i row), (2, .ref b), (3, j_i row2), (4, j_i i)] [j_i (r_cnt σ b R2 row2), j_i i] _ _ _ _
    refine a_icmp_ge (pc := 10) (off := 34) (tgt := 44) (by decide +kernel) (by decide) (by omega) (by omega) (fun c10 => ?_) (fun c10 => ?_)
    · refine a_iconst (pc := 44) (n := 1) (by decide +kernel) ?_
      refine a_zreturn (pc := 45) (by decide +kernel) rfl (by omega) ?_
      refine k_ret ?_
      exact k_by (fun j h0 h1 => hI j h0 (by omega))
    · refine a_aload_n (pc := 13) (i := 0) (by decide +kernel) rfl ?_
      refine a_iload_n (pc := 14) (i := 1) (by decide +kernel) rfl ?_
      refine a_iload (pc := 15) (i := 4) (by decide +kernel) rfl ?_
      refine b_pureV (pc := 17) [j_i row, j_i i] [] ml_X9_33 (by decide +kernel) rfl rfl hs0 rfl rfl (Nat.le_of_ble_eq_true rfl) (j_fitI rfl rfl) (s_signAt hR hw (by omega) (by omega)) ?_
      have qs1 := r_sgn_in hw row i
      show j_at _ _ _ [(0, .ref a), (1, j_i row), (2, .ref b), (3, j_i row2), (4, j_i i)] [j_i (r_sgn σ a R row i)] _ _ _ _
      refine b_pureS (pc := 20) [j_i (r_sgn σ a R row i)] [] ml_X9_58 (by decide +kernel) rfl rfl (Nat.le_of_ble_eq_true rfl) (j_fitI rfl rfl) (s_folded (by omega)) ?_
      have qf2 := f_fold_in (s := r_sgn σ a R row i) (by omega)
      show j_at _ _ _ [(0, .ref a), (1, j_i row), (2, .ref b), (3, j_i row2), (4, j_i i)] [j_i (f_fold (r_sgn σ a R row i))] _ _ _ _
      refine a_aload_n (pc := 23) (i := 2) (by decide +kernel) rfl ?_
      refine a_iload_n (pc := 24) (i := 3) (by decide +kernel) rfl ?_
      refine a_iload (pc := 25) (i := 4) (by decide +kernel) rfl ?_
      refine b_pureV (pc := 27) [j_i row2, j_i i] [j_i (f_fold (r_sgn σ a R row i))] ml_X9_33 (by decide +kernel) rfl rfl gs0 rfl rfl (Nat.le_of_ble_eq_true rfl) (j_fitI rfl rfl) (s_signAt hRb hwb (by omega) (by omega)) ?_
      have qs3 := r_sgn_in hwb row2 i
      show j_at _ _ _ [(0, .ref a), (1, j_i row), (2, .ref b), (3, j_i row2), (4, j_i i)] [j_i (r_sgn σ b R2 row2 i), j_i (f_fold (r_sgn σ a R row i))] _ _ _ _
      refine b_pureS (pc := 30) [j_i (r_sgn σ b R2 row2 i)] [j_i (f_fold (r_sgn σ a R row i))] ml_X9_58 (by decide +kernel) rfl rfl (Nat.le_of_ble_eq_true rfl) (j_fitI rfl rfl) (s_folded (by omega)) ?_
      have qf4 := f_fold_in (s := r_sgn σ b R2 row2 i) (by omega)
      show j_at _ _ _ [(0, .ref a), (1, j_i row), (2, .ref b), (3, j_i row2), (4, j_i i)] [j_i (f_fold (r_sgn σ b R2 row2 i)), j_i (f_fold (r_sgn σ a R row i))] _ _ _ _
      refine a_icmp_eq (pc := 33) (off := 5) (tgt := 38) (by decide +kernel) (by decide) (by omega) (by omega) (fun c33 => ?_) (fun c33 => ?_)
      · refine a_iinc (pc := 38) (i := 4) (n := 1) (x := i) (lv' := [(0, .ref a), (1, j_i row), (2, .ref b), (3, j_i row2), (4, j_i (i + 1))]) (by decide +kernel) rfl (Nat.le_of_ble_eq_true rfl) rfl ?_
        refine a_goto (pc := 41) (off := -38) (tgt := 3) (by decide +kernel) (by decide) ?_
        exact ih (i + 1) (by omega) (by omega) (by omega) (lt_succ_cases hI c33)
      · refine a_iconst (pc := 36) (n := 0) (by decide +kernel) ?_
        refine a_zreturn (pc := 37) (by decide +kernel) rfl (by omega) ?_
        refine k_ret ?_
        exact k_bn (fun h9 => c33 (h9 i h0 (by omega)))
set_option maxHeartbeats 4000000 in
theorem s_beginsAlike {G : j_G} {X : k_X} {n : Nat} {σ : k_St} {a R : Nat} {b R2 : Nat} {row row2 : Int} (hR : r_at X n a R) (hw : r_wf σ a R) (hrow : -2147483648 ≤ row ∧ row ≤ 2147483647) (hRb : r_at X n b R2) (hwb : r_wf σ b R2) (hrow2 : -2147483648 ≤ row2 ∧ row2 ≤ 2147483647)  : k_run G X mX9_beginsAlike [.ref a, j_i row, .ref b, j_i row2] n σ 0 0 (k_b n σ (r_alike σ a R row b R2 row2)) := by
  obtain ⟨h5, h30, hs0, hs1, hs2⟩ := id hR
  obtain ⟨g5, g30, gs0, gs1, gs2⟩ := id hRb
  refine k_enter (by decide +kernel) (Nat.le_of_ble_eq_true rfl) ?_
  show j_at _ _ _ [(0, .ref a), (1, j_i row), (2, .ref b), (3, j_i row2)] [] _ _ _ _
  refine a_iconst (pc := 0) (n := 0) (by decide +kernel) ?_
  refine a_istore (pc := 1) (i := 4) (lv' := [(0, .ref a), (1, j_i row), (2, .ref b), (3, j_i row2), (4, j_i 0)]) (by decide +kernel) (Nat.le_of_ble_eq_true rfl) rfl ?_
  exact l_beginsAlike hR hw hrow hRb hwb hrow2 17 0 (by omega) (by omega) (by have := r_cnt_in hwb row2; omega) (fun j h0 h1 => absurd h0 (by omega))
