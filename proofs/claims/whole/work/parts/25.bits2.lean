theorem y_st_y {σ : k_St} {d : Nat} {a k v a' k' v' : Int} : y_st (y_st σ d a k v) d a' k' v' = y_st σ d a' k' v' := by
  show k_sI (k_sI (k_sI (y_st σ d a k v) d 0 a') d 1 k') d 2 v' = _
  rw [y_st_p0, y_st_p1, y_st_p2]
theorem f_bk_in (s : Int → Int) (i : Int) : 0 ≤ f_bk s i ∧ f_bk s i ≤ 4 := by unfold f_bk; (repeat' split) <;> omega
theorem f_bv_in {s : Int → Int} {i : Int} (hs : ¬ (48 ≤ s 16 ∧ s 16 ≤ 57)) (hr : -128 ≤ s i ∧ s i ≤ 127) (h0 : 0 ≤ i) (h1 : i ≤ 16) : -128 ≤ f_bv s i ∧ f_bv s i < 10 ^ 16 := by
  unfold f_bv; split
  · have := f_num_in hs 17 i 0 (by omega) h0 h1 (by omega) (by exact Int.pow_pos (by decide)); omega
  · unfold f_fold; split <;> omega
theorem f_be_in {s : Int → Int} {i : Int} (hs : ∀ j, 16 ≤ j → s j = -9) (h0 : 0 ≤ i) (h1 : i ≤ 16) (hk : f_bk s i ≠ 0) : i ≤ f_be s i ∧ f_be s i ≤ 16 := by
  have h16 := hs 16 (by omega)
  unfold f_be; split
  · have := f_num_in (s := s) (by rw [h16]; omega) 17 i 0 (by omega) h0 h1 (by omega) (by exact Int.pow_pos (by decide)); omega
  · have : i ≠ 16 := fun e => hk (by unfold f_bk; rw [e, h16]; simp)
    omega
set_option maxHeartbeats 4000000 in
theorem s_readNumber {G : j_G} {X : k_X} {n : Nat} {σ : k_St} {d b R : Nat} (hd : k_has X n d (.inr (.inr (1, [0, 0, 1])))) (hRb : r_at X n b R) (hwb : r_wf σ b R) {row : Int} (hrow : -2147483648 ≤ row ∧ row ≤ 2147483647) (hi : 0 ≤ σ.2.1 d 0 ∧ σ.2.1 d 0 ≤ 16)  : k_run G X mX1_readNumber [.ref d, .ref b, j_i row] n σ 0 0 (k_is n (y_st σ d (f_num (r_sgn σ b R row) 17 (σ.2.1 d 0) 0).2 3 (f_num (r_sgn σ b R row) 17 (σ.2.1 d 0) 0).1) none) := by
  obtain ⟨g5, g30, gs0, gs1, gs2⟩ := id hRb
  refine k_enter (by decide +kernel) (Nat.le_of_ble_eq_true rfl) ?_
  show j_at _ _ _ [(0, .ref d), (1, .ref b), (2, j_i row)] [] _ _ _ _
  refine a_aload_n (pc := 0) (i := 0) (by decide +kernel) rfl ?_
  refine a_iconst (pc := 1) (n := 3) (by decide +kernel) ?_
  refine b_putI (pc := 2) fl_X1_15 (by decide +kernel) hd rfl rfl rfl ?_
  obtain ⟨σ1, hσ1⟩ : ∃ z, z = k_sI σ d 1 3 := ⟨_, rfl⟩
  rw [← hσ1]
  refine a_aload_n (pc := 5) (i := 0) (by decide +kernel) rfl ?_
  refine a_lconst (pc := 6) (n := 0) (by decide +kernel) ?_
  show j_at _ _ _ [(0, .ref d), (1, .ref b), (2, j_i row)] [j_l 0, .ref d] _ _ _ _
  refine b_putL (pc := 7) fl_X1_18 (by decide +kernel) hd rfl rfl rfl ?_
  obtain ⟨σ2, hσ2⟩ : ∃ z, z = k_sI σ1 d 2 0 := ⟨_, rfl⟩
  rw [← hσ2]
  have e9 : σ2 = y_st σ d (σ.2.1 d 0) 3 0 := by
    rw [hσ2, hσ1]
    have e := y_st_id (σ := σ) (d := d)
    have e2 : k_sI (k_sI (y_st σ d (σ.2.1 d 0) (σ.2.1 d 1) (σ.2.1 d 2)) d 1 3) d 2 0 = y_st σ d (σ.2.1 d 0) 3 0 := by rw [y_st_p1, y_st_p2]
    rw [← e] at e2
    exact e2
  rw [e9]
  exact l_readNumber hd hRb hwb hrow 17 (σ.2.1 d 0) 0 (by omega) hi.1 hi.2 (by omega) (Int.pow_pos (by decide))
set_option maxHeartbeats 4000000 in
theorem l_step40 {G : j_G} {X : k_X} {n : Nat} {σ : k_St} {d b R : Nat} (hd : k_has X n d (.inr (.inr (1, [0, 0, 1])))) (hRb : r_at X n b R) (hwb : r_wf σ b R) {row : Int} (hrow : -2147483648 ≤ row ∧ row ≤ 2147483647) {i k0 v0 l : Int} (h0 : 0 ≤ i) (h1 : i ≤ 16) : j_at G mX1_step 40 [(0, .ref d), (1, .ref b), (2, j_i row), (3, j_i l)] [] (k_h X n (y_st σ d i k0 v0)) 0 0 (k_Q X (k_is n (y_st σ d (f_be (r_sgn σ b R row) i) (f_bk (r_sgn σ b R row) i) (f_bv (r_sgn σ b R row) i)) none)) := by
  obtain ⟨g5, g30, gs0, gs1, gs2⟩ := id hRb
  obtain ⟨τ, hτ⟩ : ∃ z, z = y_st σ d i k0 v0 := ⟨_, rfl⟩
  rw [← hτ]
  have hwt : r_wf τ b R := by rw [hτ]; exact hwb
  have t0 : τ.2.1 d 0 = i := by rw [hτ]; exact y_st_0
  have hsd := r_sgn_16 (row := row) hwb 16 (by omega)
  have es : ∀ {j : Int}, -2147483648 ≤ j ∧ j ≤ 2147483647 → k_run G X mX9_signAt [.ref b, j_i row, j_i j] n τ 0 0 (k_is n τ (some (j_i (r_sgn σ b R row j)))) := fun {j} hj => by
    have q := s_signAt (G := G) (X := X) hRb hwt hrow hj
    rw [show r_sgn τ b R row j = r_sgn σ b R row j by rw [hτ]; rfl] at q
    exact q
  refine a_aload_n (pc := 40) (i := 1) (by decide +kernel) rfl ?_
  refine a_iload_n (pc := 41) (i := 2) (by decide +kernel) rfl ?_
  refine a_aload_n (pc := 42) (i := 0) (by decide +kernel) rfl ?_
  refine b_getI (pc := 43) fl_X1_9 (by decide +kernel) hd rfl ?_
  rw [show τ.2.1 d 0 = i from t0]
  refine b_pureV (pc := 46) [j_i row, j_i i] [] ml_X1_22 (by decide +kernel) rfl rfl gs0 rfl rfl (Nat.le_of_ble_eq_true rfl) (j_fitI rfl rfl) (es (by omega)) ?_
  have qs1 := r_sgn_in hwb row i
  show j_at _ _ _ [(0, .ref d), (1, .ref b), (2, j_i row), (3, j_i l)] [j_i (r_sgn σ b R row i)] _ _ _ _
  refine a_istore (pc := 49) (i := 4) (lv' := [(0, .ref d), (1, .ref b), (2, j_i row), (3, j_i l), (4, j_i (r_sgn σ b R row i))]) (by decide +kernel) (Nat.le_of_ble_eq_true rfl) rfl ?_
  refine a_iload (pc := 51) (i := 4) (by decide +kernel) rfl ?_
  refine b_callS (pc := 53) (c' := 0) (sl' := 0) [j_i (r_sgn σ b R row i)] [] ml_X1_28 (by decide +kernel) rfl rfl (Nat.le_of_ble_eq_true rfl) (j_fitI rfl rfl) (s_isDigit (by omega)) (fun v n' σ' hq => ?_)
  obtain ⟨x, rfl, e1, e2, hx⟩ := hq
  rw [e1, e2]; clear e1 e2
  rcases hx with ⟨rfl, p53⟩ | ⟨rfl, p53⟩
  · show j_at _ _ _ [(0, .ref d), (1, .ref b), (2, j_i row), (3, j_i l), (4, j_i (r_sgn σ b R row i))] [j_i 1] _ _ _ _
    refine a_if_eq (pc := 56) (off := 10) (tgt := 66) (by decide +kernel) (by decide) (by omega) (fun c56 => ?_) (fun c56 => ?_)
    · exact absurd c56 (by decide)
    · refine a_aload_n (pc := 59) (i := 0) (by decide +kernel) rfl ?_
      refine a_aload_n (pc := 60) (i := 1) (by decide +kernel) rfl ?_
      refine a_iload_n (pc := 61) (i := 2) (by decide +kernel) rfl ?_
      refine b_callV (pc := 62) (c' := 0) (sl' := 0) [.ref b, j_i row] [] ml_X1_32 (by decide +kernel) rfl rfl hd rfl rfl (Nat.le_of_ble_eq_true rfl) (j_fitI rfl rfl) (s_readNumber hd hRb hwt hrow (by omega)) (fun v n' σ' hq => ?_)
      obtain ⟨rfl, e1, e2⟩ := hq
      rw [e1, e2]; clear e1 e2
      rw [t0, show r_sgn τ b R row = r_sgn σ b R row by rw [hτ]; rfl, hτ, y_st_y]
      show j_at _ _ _ [(0, .ref d), (1, .ref b), (2, j_i row), (3, j_i l), (4, j_i (r_sgn σ b R row i))] [] _ _ _ _
      refine a_return (pc := 65) (by decide +kernel) rfl ?_
      refine k_ret ?_
      refine ⟨rfl, rfl, ?_⟩
      unfold f_digit at p53
      unfold f_be f_bk f_bv
      rw [if_pos p53, if_pos p53, if_pos p53]
  · show j_at _ _ _ [(0, .ref d), (1, .ref b), (2, j_i row), (3, j_i l), (4, j_i (r_sgn σ b R row i))] [j_i 0] _ _ _ _
    refine a_if_eq (pc := 56) (off := 10) (tgt := 66) (by decide +kernel) (by decide) (by omega) (fun c56 => ?_) (fun c56 => ?_)
    · refine a_aload_n (pc := 66) (i := 0) (by decide +kernel) rfl ?_
      refine a_iload (pc := 67) (i := 4) (by decide +kernel) rfl ?_
      refine a_bipush (pc := 69) (n := (-9)) (by decide +kernel) rfl ?_
      refine a_icmp_ne (pc := 71) (off := 7) (tgt := 78) (by decide +kernel) (by decide) (by omega) (by omega) (fun c71 => ?_) (fun c71 => ?_)
      · refine a_iload (pc := 78) (i := 4) (by decide +kernel) rfl ?_
        refine a_bipush (pc := 80) (n := 32) (by decide +kernel) rfl ?_
        refine a_icmp_ne (pc := 82) (off := 7) (tgt := 89) (by decide +kernel) (by decide) (by omega) (by omega) (fun c82 => ?_) (fun c82 => ?_)
        · refine a_iload (pc := 89) (i := 4) (by decide +kernel) rfl ?_
          refine b_callS (pc := 91) (c' := 0) (sl' := 0) [j_i (r_sgn σ b R row i)] [.ref d] ml_X1_36 (by decide +kernel) rfl rfl (Nat.le_of_ble_eq_true rfl) (j_fitI rfl rfl) (s_isLetter (by omega)) (fun v n' σ' hq => ?_)
          obtain ⟨x, rfl, e1, e2, hx⟩ := hq
          rw [e1, e2]; clear e1 e2
          rcases hx with ⟨rfl, p91⟩ | ⟨rfl, p91⟩
          · show j_at _ _ _ [(0, .ref d), (1, .ref b), (2, j_i row), (3, j_i l), (4, j_i (r_sgn σ b R row i))] [j_i 1, .ref d] _ _ _ _
            refine a_if_eq (pc := 94) (off := 7) (tgt := 101) (by decide +kernel) (by decide) (by omega) (fun c94 => ?_) (fun c94 => ?_)
            · exact absurd c94 (by decide)
            · refine a_iconst (pc := 97) (n := 4) (by decide +kernel) ?_
              refine a_goto (pc := 98) (off := 4) (tgt := 102) (by decide +kernel) (by decide) ?_
              refine b_putI (pc := 102) fl_X1_15 (by decide +kernel) hd rfl rfl rfl ?_
              obtain ⟨σ3, hσ3⟩ : ∃ z, z = k_sI τ d 1 4 := ⟨_, rfl⟩
              rw [← hσ3]
              refine a_aload_n (pc := 105) (i := 0) (by decide +kernel) rfl ?_
              refine a_iload (pc := 106) (i := 4) (by decide +kernel) rfl ?_
              refine b_pureS (pc := 108) [j_i (r_sgn σ b R row i)] [.ref d] ml_X1_39 (by decide +kernel) rfl rfl (Nat.le_of_ble_eq_true rfl) (j_fitI rfl rfl) (s_folded (by omega)) ?_
              have qf4 := f_fold_in (s := r_sgn σ b R row i) (by omega)
              show j_at _ _ _ [(0, .ref d), (1, .ref b), (2, j_i row), (3, j_i l), (4, j_i (r_sgn σ b R row i))] [j_i (f_fold (r_sgn σ b R row i)), .ref d] _ _ _ _
              refine a_i2l (pc := 111) (v := Int64.ofInt (f_fold (r_sgn σ b R row i))) (by decide +kernel) (j_i2l (by omega)) ?_
              refine b_putL (pc := 112) fl_X1_18 (by decide +kernel) hd rfl rfl rfl ?_
              obtain ⟨σ5, hσ5⟩ : ∃ z, z = k_sI σ3 d 2 (f_fold (r_sgn σ b R row i)) := ⟨_, rfl⟩
              rw [← hσ5]
              refine a_aload_n (pc := 115) (i := 0) (by decide +kernel) rfl ?_
              refine a_dup (pc := 116) (by decide +kernel) rfl ?_
              refine b_getI (pc := 117) fl_X1_9 (by decide +kernel) hd rfl ?_
              rw [show σ5.2.1 d 0 = σ3.2.1 d 0 by rw [hσ5]; exact k_IN (by omega)]
              rw [show σ3.2.1 d 0 = τ.2.1 d 0 by rw [hσ3]; exact k_IN (by omega)]
              rw [show τ.2.1 d 0 = i from t0]
              refine a_iconst (pc := 120) (n := 1) (by decide +kernel) ?_
              refine a_iadd (pc := 121) (by decide +kernel) ?_
              refine b_putI (pc := 122) fl_X1_9 (by decide +kernel) hd rfl rfl rfl ?_
              obtain ⟨σ6, hσ6⟩ : ∃ z, z = k_sI σ5 d 0 (i + 1) := ⟨_, rfl⟩
              rw [← hσ6]
              refine a_return (pc := 125) (by decide +kernel) rfl ?_
              refine k_ret ?_
              refine ⟨rfl, rfl, ?_⟩
              unfold f_digit at p53
              try unfold f_letter at p91
              rw [hσ6, hσ5, hσ3, hτ, y_st_p1, y_st_p2, y_st_p0]
              unfold f_be f_bk f_bv
              rw [if_neg p53, if_neg p53, if_neg p53]
              first | rw [if_pos c71] | rw [if_neg c71, if_pos c82] | rw [if_neg c71, if_neg c82, if_pos p91] | rw [if_neg c71, if_neg c82, if_neg p91]
          · show j_at _ _ _ [(0, .ref d), (1, .ref b), (2, j_i row), (3, j_i l), (4, j_i (r_sgn σ b R row i))] [j_i 0, .ref d] _ _ _ _
            refine a_if_eq (pc := 94) (off := 7) (tgt := 101) (by decide +kernel) (by decide) (by omega) (fun c94 => ?_) (fun c94 => ?_)
            · refine a_iconst (pc := 101) (n := 2) (by decide +kernel) ?_
              refine b_putI (pc := 102) fl_X1_15 (by decide +kernel) hd rfl rfl rfl ?_
              obtain ⟨σ7, hσ7⟩ : ∃ z, z = k_sI τ d 1 2 := ⟨_, rfl⟩
              rw [← hσ7]
              refine a_aload_n (pc := 105) (i := 0) (by decide +kernel) rfl ?_
              refine a_iload (pc := 106) (i := 4) (by decide +kernel) rfl ?_
              refine b_pureS (pc := 108) [j_i (r_sgn σ b R row i)] [.ref d] ml_X1_39 (by decide +kernel) rfl rfl (Nat.le_of_ble_eq_true rfl) (j_fitI rfl rfl) (s_folded (by omega)) ?_
              have qf8 := f_fold_in (s := r_sgn σ b R row i) (by omega)
              show j_at _ _ _ [(0, .ref d), (1, .ref b), (2, j_i row), (3, j_i l), (4, j_i (r_sgn σ b R row i))] [j_i (f_fold (r_sgn σ b R row i)), .ref d] _ _ _ _
              refine a_i2l (pc := 111) (v := Int64.ofInt (f_fold (r_sgn σ b R row i))) (by decide +kernel) (j_i2l (by omega)) ?_
              refine b_putL (pc := 112) fl_X1_18 (by decide +kernel) hd rfl rfl rfl ?_
              obtain ⟨σ9, hσ9⟩ : ∃ z, z = k_sI σ7 d 2 (f_fold (r_sgn σ b R row i)) := ⟨_, rfl⟩
              rw [← hσ9]
              refine a_aload_n (pc := 115) (i := 0) (by decide +kernel) rfl ?_
              refine a_dup (pc := 116) (by decide +kernel) rfl ?_
              refine b_getI (pc := 117) fl_X1_9 (by decide +kernel) hd rfl ?_
              rw [show σ9.2.1 d 0 = σ7.2.1 d 0 by rw [hσ9]; exact k_IN (by omega)]
              rw [show σ7.2.1 d 0 = τ.2.1 d 0 by rw [hσ7]; exact k_IN (by omega)]
              rw [show τ.2.1 d 0 = i from t0]
              refine a_iconst (pc := 120) (n := 1) (by decide +kernel) ?_
              refine a_iadd (pc := 121) (by decide +kernel) ?_
              refine b_putI (pc := 122) fl_X1_9 (by decide +kernel) hd rfl rfl rfl ?_
              obtain ⟨σ10, hσ10⟩ : ∃ z, z = k_sI σ9 d 0 (i + 1) := ⟨_, rfl⟩
              rw [← hσ10]
              refine a_return (pc := 125) (by decide +kernel) rfl ?_
              refine k_ret ?_
              refine ⟨rfl, rfl, ?_⟩
              unfold f_digit at p53
              try unfold f_letter at p91
              rw [hσ10, hσ9, hσ7, hτ, y_st_p1, y_st_p2, y_st_p0]
              unfold f_be f_bk f_bv
              rw [if_neg p53, if_neg p53, if_neg p53]
              first | rw [if_pos c71] | rw [if_neg c71, if_pos c82] | rw [if_neg c71, if_neg c82, if_pos p91] | rw [if_neg c71, if_neg c82, if_neg p91]
            · exact absurd c94 (by decide)
        · refine a_iconst (pc := 85) (n := 1) (by decide +kernel) ?_
          refine a_goto (pc := 86) (off := 16) (tgt := 102) (by decide +kernel) (by decide) ?_
          refine b_putI (pc := 102) fl_X1_15 (by decide +kernel) hd rfl rfl rfl ?_
          obtain ⟨σ11, hσ11⟩ : ∃ z, z = k_sI τ d 1 1 := ⟨_, rfl⟩
          rw [← hσ11]
          refine a_aload_n (pc := 105) (i := 0) (by decide +kernel) rfl ?_
          refine a_iload (pc := 106) (i := 4) (by decide +kernel) rfl ?_
          refine b_pureS (pc := 108) [j_i (r_sgn σ b R row i)] [.ref d] ml_X1_39 (by decide +kernel) rfl rfl (Nat.le_of_ble_eq_true rfl) (j_fitI rfl rfl) (s_folded (by omega)) ?_
          have qf12 := f_fold_in (s := r_sgn σ b R row i) (by omega)
          show j_at _ _ _ [(0, .ref d), (1, .ref b), (2, j_i row), (3, j_i l), (4, j_i (r_sgn σ b R row i))] [j_i (f_fold (r_sgn σ b R row i)), .ref d] _ _ _ _
          refine a_i2l (pc := 111) (v := Int64.ofInt (f_fold (r_sgn σ b R row i))) (by decide +kernel) (j_i2l (by omega)) ?_
          refine b_putL (pc := 112) fl_X1_18 (by decide +kernel) hd rfl rfl rfl ?_
          obtain ⟨σ13, hσ13⟩ : ∃ z, z = k_sI σ11 d 2 (f_fold (r_sgn σ b R row i)) := ⟨_, rfl⟩
          rw [← hσ13]
          refine a_aload_n (pc := 115) (i := 0) (by decide +kernel) rfl ?_
          refine a_dup (pc := 116) (by decide +kernel) rfl ?_
          refine b_getI (pc := 117) fl_X1_9 (by decide +kernel) hd rfl ?_
          rw [show σ13.2.1 d 0 = σ11.2.1 d 0 by rw [hσ13]; exact k_IN (by omega)]
          rw [show σ11.2.1 d 0 = τ.2.1 d 0 by rw [hσ11]; exact k_IN (by omega)]
          rw [show τ.2.1 d 0 = i from t0]
          refine a_iconst (pc := 120) (n := 1) (by decide +kernel) ?_
          refine a_iadd (pc := 121) (by decide +kernel) ?_
          refine b_putI (pc := 122) fl_X1_9 (by decide +kernel) hd rfl rfl rfl ?_
          obtain ⟨σ14, hσ14⟩ : ∃ z, z = k_sI σ13 d 0 (i + 1) := ⟨_, rfl⟩
          rw [← hσ14]
          refine a_return (pc := 125) (by decide +kernel) rfl ?_
          refine k_ret ?_
          refine ⟨rfl, rfl, ?_⟩
          unfold f_digit at p53
          try unfold f_letter at p91
          rw [hσ14, hσ13, hσ11, hτ, y_st_p1, y_st_p2, y_st_p0]
          unfold f_be f_bk f_bv
          rw [if_neg p53, if_neg p53, if_neg p53]
          first | rw [if_pos c71] | rw [if_neg c71, if_pos c82] | rw [if_neg c71, if_neg c82, if_pos p91] | rw [if_neg c71, if_neg c82, if_neg p91]
      · refine a_iconst (pc := 74) (n := 0) (by decide +kernel) ?_
        refine a_goto (pc := 75) (off := 27) (tgt := 102) (by decide +kernel) (by decide) ?_
        refine b_putI (pc := 102) fl_X1_15 (by decide +kernel) hd rfl rfl rfl ?_
        obtain ⟨σ15, hσ15⟩ : ∃ z, z = k_sI τ d 1 0 := ⟨_, rfl⟩
        rw [← hσ15]
        refine a_aload_n (pc := 105) (i := 0) (by decide +kernel) rfl ?_
        refine a_iload (pc := 106) (i := 4) (by decide +kernel) rfl ?_
        refine b_pureS (pc := 108) [j_i (r_sgn σ b R row i)] [.ref d] ml_X1_39 (by decide +kernel) rfl rfl (Nat.le_of_ble_eq_true rfl) (j_fitI rfl rfl) (s_folded (by omega)) ?_
        have qf16 := f_fold_in (s := r_sgn σ b R row i) (by omega)
        show j_at _ _ _ [(0, .ref d), (1, .ref b), (2, j_i row), (3, j_i l), (4, j_i (r_sgn σ b R row i))] [j_i (f_fold (r_sgn σ b R row i)), .ref d] _ _ _ _
        refine a_i2l (pc := 111) (v := Int64.ofInt (f_fold (r_sgn σ b R row i))) (by decide +kernel) (j_i2l (by omega)) ?_
        refine b_putL (pc := 112) fl_X1_18 (by decide +kernel) hd rfl rfl rfl ?_
        obtain ⟨σ17, hσ17⟩ : ∃ z, z = k_sI σ15 d 2 (f_fold (r_sgn σ b R row i)) := ⟨_, rfl⟩
        rw [← hσ17]
        refine a_aload_n (pc := 115) (i := 0) (by decide +kernel) rfl ?_
        refine a_dup (pc := 116) (by decide +kernel) rfl ?_
        refine b_getI (pc := 117) fl_X1_9 (by decide +kernel) hd rfl ?_
        rw [show σ17.2.1 d 0 = σ15.2.1 d 0 by rw [hσ17]; exact k_IN (by omega)]
        rw [show σ15.2.1 d 0 = τ.2.1 d 0 by rw [hσ15]; exact k_IN (by omega)]
        rw [show τ.2.1 d 0 = i from t0]
        refine a_iconst (pc := 120) (n := 1) (by decide +kernel) ?_
        refine a_iadd (pc := 121) (by decide +kernel) ?_
        refine b_putI (pc := 122) fl_X1_9 (by decide +kernel) hd rfl rfl rfl ?_
        obtain ⟨σ18, hσ18⟩ : ∃ z, z = k_sI σ17 d 0 (i + 1) := ⟨_, rfl⟩
        rw [← hσ18]
        refine a_return (pc := 125) (by decide +kernel) rfl ?_
        refine k_ret ?_
        refine ⟨rfl, rfl, ?_⟩
        unfold f_digit at p53
        try unfold f_letter at p91
        rw [hσ18, hσ17, hσ15, hτ, y_st_p1, y_st_p2, y_st_p0]
        unfold f_be f_bk f_bv
        rw [if_neg p53, if_neg p53, if_neg p53]
        first | rw [if_pos c71] | rw [if_neg c71, if_pos c82] | rw [if_neg c71, if_neg c82, if_pos p91] | rw [if_neg c71, if_neg c82, if_neg p91]
    · exact absurd c56 (by decide)
set_option maxHeartbeats 4000000 in
theorem l_step0 {G : j_G} {X : k_X} {n : Nat} {σ : k_St} {d b R : Nat} (hd : k_has X n d (.inr (.inr (1, [0, 0, 1])))) (hRb : r_at X n b R) (hwb : r_wf σ b R) {row : Int} (hrow : -2147483648 ≤ row ∧ row ≤ 2147483647) {k0 v0 : Int} : ∀ (m : Nat) (i : Int), 16 - i < (m : Int) → 0 ≤ i → i ≤ 16 → j_at G mX1_step 0 [(0, .ref d), (1, .ref b), (2, j_i row), (3, j_i 1)] [] (k_h X n (y_st σ d i k0 v0)) 0 0 (k_Q X (k_is n (y_st σ d (f_be (r_sgn σ b R row) (f_sk (r_sgn σ b R row) m i)) (f_bk (r_sgn σ b R row) (f_sk (r_sgn σ b R row) m i)) (f_bv (r_sgn σ b R row) (f_sk (r_sgn σ b R row) m i))) none)) := by
  intro m
  induction m with
  | zero => intro i h1 h2 h3; exact absurd h3 (by omega)
  | succ m ih =>
    intro i hm h0 hN
    obtain ⟨g5, g30, gs0, gs1, gs2⟩ := id hRb
    obtain ⟨τ, hτ⟩ : ∃ z, z = y_st σ d i k0 v0 := ⟨_, rfl⟩
    rw [← hτ]
    have hwt : r_wf τ b R := by rw [hτ]; exact hwb
    have t0 : τ.2.1 d 0 = i := by rw [hτ]; exact y_st_0
    have hsd := r_sgn_16 (row := row) hwb 16 (by omega)
    have es : ∀ {j : Int}, -2147483648 ≤ j ∧ j ≤ 2147483647 → k_run G X mX9_signAt [.ref b, j_i row, j_i j] n τ 0 0 (k_is n τ (some (j_i (r_sgn σ b R row j)))) := fun {j} hj => by
      have q := s_signAt (G := G) (X := X) hRb hwt hrow hj
      rw [show r_sgn τ b R row j = r_sgn σ b R row j by rw [hτ]; rfl] at q
      exact q
    refine a_iload_n (pc := 0) (i := 3) (by decide +kernel) rfl ?_
    refine a_if_eq (pc := 1) (off := 39) (tgt := 40) (by decide +kernel) (by decide) (by omega) (fun c1 => ?_) (fun c1 => ?_)
    · exact absurd c1 (by decide)
    · refine a_aload_n (pc := 4) (i := 0) (by decide +kernel) rfl ?_
      refine b_getI (pc := 5) fl_X1_9 (by decide +kernel) hd rfl ?_
      rw [show τ.2.1 d 0 = i from t0]
      refine a_bipush (pc := 8) (n := 16) (by decide +kernel) rfl ?_
      refine a_icmp_ge (pc := 10) (off := 30) (tgt := 40) (by decide +kernel) (by decide) (by omega) (by omega) (fun c10 => ?_) (fun c10 => ?_)
      · have e8 : f_sk (r_sgn σ b R row) (m + 1) i = i := if_neg (by first | exact c24 | (rw [show i = 16 by omega, hsd]; omega))
        rw [e8, hτ]
        exact l_step40 hd hRb hwb hrow h0 hN
      · refine a_aload_n (pc := 13) (i := 1) (by decide +kernel) rfl ?_
        refine a_iload_n (pc := 14) (i := 2) (by decide +kernel) rfl ?_
        refine a_aload_n (pc := 15) (i := 0) (by decide +kernel) rfl ?_
        refine b_getI (pc := 16) fl_X1_9 (by decide +kernel) hd rfl ?_
        rw [show τ.2.1 d 0 = i from t0]
        refine b_pureV (pc := 19) [j_i row, j_i i] [] ml_X1_22 (by decide +kernel) rfl rfl gs0 rfl rfl (Nat.le_of_ble_eq_true rfl) (j_fitI rfl rfl) (es (by omega)) ?_
        have qs1 := r_sgn_in hwb row i
        show j_at _ _ _ [(0, .ref d), (1, .ref b), (2, j_i row), (3, j_i 1)] [j_i (r_sgn σ b R row i)] _ _ _ _
        refine a_bipush (pc := 22) (n := 32) (by decide +kernel) rfl ?_
        refine a_icmp_ne (pc := 24) (off := 16) (tgt := 40) (by decide +kernel) (by decide) (by omega) (by omega) (fun c24 => ?_) (fun c24 => ?_)
        · have e8 : f_sk (r_sgn σ b R row) (m + 1) i = i := if_neg (by first | exact c24 | (rw [show i = 16 by omega, hsd]; omega))
          rw [e8, hτ]
          exact l_step40 hd hRb hwb hrow h0 hN
        · refine a_aload_n (pc := 27) (i := 0) (by decide +kernel) rfl ?_
          refine a_dup (pc := 28) (by decide +kernel) rfl ?_
          refine b_getI (pc := 29) fl_X1_9 (by decide +kernel) hd rfl ?_
          rw [show τ.2.1 d 0 = i from t0]
          refine a_iconst (pc := 32) (n := 1) (by decide +kernel) ?_
          refine a_iadd (pc := 33) (by decide +kernel) ?_
          refine b_putI (pc := 34) fl_X1_9 (by decide +kernel) hd rfl rfl rfl ?_
          obtain ⟨σ2, hσ2⟩ : ∃ z, z = k_sI τ d 0 (i + 1) := ⟨_, rfl⟩
          rw [← hσ2]
          refine a_goto (pc := 37) (off := -37) (tgt := 0) (by decide +kernel) (by decide) ?_
          rw [hσ2, hτ, y_st_p0]
          have e8 : f_sk (r_sgn σ b R row) (m + 1) i = f_sk (r_sgn σ b R row) m (i + 1) := if_pos c24
          rw [e8]
          exact ih (i + 1) (by omega) (by omega) (by omega)
set_option maxHeartbeats 4000000 in
theorem s_step {G : j_G} {X : k_X} {n : Nat} {σ : k_St} {d b R : Nat} (hd : k_has X n d (.inr (.inr (1, [0, 0, 1])))) (hRb : r_at X n b R) (hwb : r_wf σ b R) {row : Int} (hrow : -2147483648 ≤ row ∧ row ≤ 2147483647) (hi : 0 ≤ σ.2.1 d 0 ∧ σ.2.1 d 0 ≤ 16) {l : Int} (hl : l = 0 ∨ l = 1) : k_run G X mX1_step [.ref d, .ref b, j_i row, j_i l] n σ 0 0 (k_is n (y_st σ d (f_be (r_sgn σ b R row) (f_bat (r_sgn σ b R row) l (σ.2.1 d 0))) (f_bk (r_sgn σ b R row) (f_bat (r_sgn σ b R row) l (σ.2.1 d 0))) (f_bv (r_sgn σ b R row) (f_bat (r_sgn σ b R row) l (σ.2.1 d 0)))) none) := by
  rcases hl with rfl | rfl
  · skip
    refine k_enter (by decide +kernel) (Nat.le_of_ble_eq_true rfl) ?_
    show j_at _ _ _ [(0, .ref d), (1, .ref b), (2, j_i row), (3, j_i 0)] [] _ _ _ _
    refine a_iload_n (pc := 0) (i := 3) (by decide +kernel) rfl ?_
    refine a_if_eq (pc := 1) (off := 39) (tgt := 40) (by decide +kernel) (by decide) (by omega) (fun c1 => ?_) (fun c1 => ?_)
    · have e := l_step40 (G := G) (X := X) (i := σ.2.1 d 0) (k0 := σ.2.1 d 1) (v0 := σ.2.1 d 2) (l := 0) hd hRb hwb hrow hi.1 hi.2
      rw [← y_st_id] at e
      unfold f_bat
      rw [if_pos rfl]
      exact e
    · exact absurd c1 (by decide)
  · refine k_enter (by decide +kernel) (Nat.le_of_ble_eq_true rfl) ?_
    have e := l_step0 (G := G) (X := X) (k0 := σ.2.1 d 1) (v0 := σ.2.1 d 2) hd hRb hwb hrow 17 (σ.2.1 d 0) (by omega) hi.1 hi.2
    rw [← y_st_id] at e
    unfold f_bat
    rw [if_neg (by decide)]
    exact e
