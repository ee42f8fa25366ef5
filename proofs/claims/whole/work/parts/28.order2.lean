set_option maxHeartbeats 4000000 in
theorem s_orderOf {G : j_G} {X : k_X} {n : Nat} {σ : k_St} (hn : 101 ≤ n) (hw : h_wf σ 8) (hy : y_wf σ) {a b od : Int} (ha : -2147483648 ≤ a ∧ a ≤ 2147483647) (hb : -2147483648 ≤ b ∧ b ≤ 2147483647) (ho : od = 0 ∨ od = 1) : k_run G X mX5_orderOf [.ref 33, .ref 8, j_i a, j_i b, j_i od] n σ 0 0 (o_post n σ (o_rel σ a b od)) := by
  obtain ⟨he, hw9, hw12, hg⟩ := id hw
  have hw9 : r_wf σ 9 30 := hw9
  have hw12 : r_wf σ 12 30 := hw12
  have hra : r_at X n (h_rows σ a 1) 30 := by rcases h_rows_c σ a 1 with e | e <;> rw [e]; exact rA_9 hn; exact rA_12 hn
  have hwa : r_wf σ (h_rows σ a 1) 30 := by rcases h_rows_c σ a 1 with e | e <;> rw [e] <;> assumption
  have hrb : r_at X n (h_rows σ b 1) 30 := by rcases h_rows_c σ b 1 with e | e <;> rw [e]; exact rA_9 hn; exact rA_12 hn
  have hwb : r_wf σ (h_rows σ b 1) 30 := by rcases h_rows_c σ b 1 with e | e <;> rw [e] <;> assumption
  rcases ho with rfl | rfl
  · skip
    refine k_enter (by decide +kernel) (Nat.le_of_ble_eq_true rfl) ?_
    show j_at _ _ _ [(0, .ref 33), (1, .ref 8), (2, j_i a), (3, j_i b), (4, j_i 0)] [] _ _ _ _
    refine a_aload_n (pc := 0) (i := 1) (by decide +kernel) rfl ?_
    refine a_iload_n (pc := 1) (i := 2) (by decide +kernel) rfl ?_
    refine a_iconst (pc := 2) (n := 1) (by decide +kernel) ?_
    refine b_pureV (pc := 3) [j_i a, j_i 1] [] ml_X5_46 (by decide +kernel) rfl rfl (sh_8 hn) rfl rfl (Nat.le_of_ble_eq_true rfl) (j_fitI rfl rfl) (s_hrows hn hw (by omega) (by omega)) ?_
    show j_at _ _ _ [(0, .ref 33), (1, .ref 8), (2, j_i a), (3, j_i b), (4, j_i 0)] [.ref (h_rows σ a 1)] _ _ _ _
    refine a_astore (pc := 6) (i := 5) (lv' := [(0, .ref 33), (1, .ref 8), (2, j_i a), (3, j_i b), (4, j_i 0), (5, .ref (h_rows σ a 1))]) (by decide +kernel) (Nat.le_of_ble_eq_true rfl) rfl ?_
    refine a_aload_n (pc := 8) (i := 1) (by decide +kernel) rfl ?_
    refine a_iload_n (pc := 9) (i := 3) (by decide +kernel) rfl ?_
    refine a_iconst (pc := 10) (n := 1) (by decide +kernel) ?_
    refine b_pureV (pc := 11) [j_i b, j_i 1] [] ml_X5_46 (by decide +kernel) rfl rfl (sh_8 hn) rfl rfl (Nat.le_of_ble_eq_true rfl) (j_fitI rfl rfl) (s_hrows hn hw (by omega) (by omega)) ?_
    show j_at _ _ _ [(0, .ref 33), (1, .ref 8), (2, j_i a), (3, j_i b), (4, j_i 0), (5, .ref (h_rows σ a 1))] [.ref (h_rows σ b 1)] _ _ _ _
    refine a_astore (pc := 14) (i := 6) (lv' := [(0, .ref 33), (1, .ref 8), (2, j_i a), (3, j_i b), (4, j_i 0), (5, .ref (h_rows σ a 1)), (6, .ref (h_rows σ b 1))]) (by decide +kernel) (Nat.le_of_ble_eq_true rfl) rfl ?_
    refine a_aload_n (pc := 16) (i := 0) (by decide +kernel) rfl ?_
    refine b_getR (pc := 17) (b := 37) fl_X5_27 (by decide +kernel) (sh_33 hn) rfl ?_
    refine a_aload_n (pc := 20) (i := 0) (by decide +kernel) rfl ?_
    refine a_aload (pc := 21) (i := 5) (by decide +kernel) rfl ?_
    refine a_iload_n (pc := 23) (i := 2) (by decide +kernel) rfl ?_
    refine b_callV (pc := 24) (c' := 0) (sl' := 0) [.ref (h_rows σ a 1), j_i a] [.ref 37] ml_X5_52 (by decide +kernel) rfl rfl (sh_33 hn) rfl rfl (Nat.le_of_ble_eq_true rfl) (j_fitI rfl rfl) (s_keyStart hn hy hra hwa ha) (fun v n' σ' hq => ?_)
    obtain ⟨i1, rfl, e1, e2, hi1⟩ := hq
    rw [e1, e2]; clear e1 e2
    have qi1 := y_ks_0 hy hwa hi1
    show j_at _ _ _ [(0, .ref 33), (1, .ref 8), (2, j_i a), (3, j_i b), (4, j_i 0), (5, .ref (h_rows σ a 1)), (6, .ref (h_rows σ b 1))] [j_i i1, .ref 37] _ _ _ _
    refine b_callV (pc := 27) (c' := 0) (sl' := 0) [j_i i1] [] ml_X5_56 (by decide +kernel) rfl rfl (sh_37 hn) rfl rfl (Nat.le_of_ble_eq_true rfl) (j_fitI rfl rfl) (s_bbegin (sh_37 hn)) (fun v n' σ' hq => ?_)
    obtain ⟨rfl, e1, e2⟩ := hq
    rw [e1, e2]; clear e1 e2
    obtain ⟨σ2, hσ2⟩ : ∃ z, z = y_st σ 37 i1 0 0 := ⟨_, rfl⟩
    rw [← hσ2]
    show j_at _ _ _ [(0, .ref 33), (1, .ref 8), (2, j_i a), (3, j_i b), (4, j_i 0), (5, .ref (h_rows σ a 1)), (6, .ref (h_rows σ b 1))] [] _ _ _ _
    refine a_aload_n (pc := 30) (i := 0) (by decide +kernel) rfl ?_
    refine b_getR (pc := 31) (b := 38) fl_X5_31 (by decide +kernel) (sh_33 hn) rfl ?_
    refine a_aload_n (pc := 34) (i := 0) (by decide +kernel) rfl ?_
    refine a_aload (pc := 35) (i := 6) (by decide +kernel) rfl ?_
    refine a_iload_n (pc := 37) (i := 3) (by decide +kernel) rfl ?_
    refine b_callV (pc := 38) (c' := 0) (sl' := 0) [.ref (h_rows σ b 1), j_i b] [.ref 38] ml_X5_52 (by decide +kernel) rfl rfl (sh_33 hn) rfl rfl (Nat.le_of_ble_eq_true rfl) (j_fitI rfl rfl) (s_keyStart hn (by rw [hσ2]; exact hy) hrb (by rw [hσ2]; exact hwb) hb) (fun v n' σ' hq => ?_)
    obtain ⟨i3, rfl, e1, e2, hi3⟩ := hq
    rw [e1, e2]; clear e1 e2
    rw [y_ks_congr (σ := σ) (by rw [hσ2]; rfl) (by rw [hσ2, y_st_f]; rfl)] at hi3
    have qi3 := y_ks_0 hy hwb hi3
    show j_at _ _ _ [(0, .ref 33), (1, .ref 8), (2, j_i a), (3, j_i b), (4, j_i 0), (5, .ref (h_rows σ a 1)), (6, .ref (h_rows σ b 1))] [j_i i3, .ref 38] _ _ _ _
    refine b_callV (pc := 41) (c' := 0) (sl' := 0) [j_i i3] [] ml_X5_56 (by decide +kernel) rfl rfl (sh_38 hn) rfl rfl (Nat.le_of_ble_eq_true rfl) (j_fitI rfl rfl) (s_bbegin (sh_38 hn)) (fun v n' σ' hq => ?_)
    obtain ⟨rfl, e1, e2⟩ := hq
    rw [e1, e2]; clear e1 e2
    obtain ⟨σ4, hσ4⟩ : ∃ z, z = y_st σ2 38 i3 0 0 := ⟨_, rfl⟩
    rw [← hσ4]
    show j_at _ _ _ [(0, .ref 33), (1, .ref 8), (2, j_i a), (3, j_i b), (4, j_i 0), (5, .ref (h_rows σ a 1)), (6, .ref (h_rows σ b 1))] [] _ _ _ _
    refine a_iconst (pc := 44) (n := 0) (by decide +kernel) ?_
    refine a_istore (pc := 45) (i := 7) (lv' := [(0, .ref 33), (1, .ref 8), (2, j_i a), (3, j_i b), (4, j_i 0), (5, .ref (h_rows σ a 1)), (6, .ref (h_rows σ b 1)), (7, j_i 0)]) (by decide +kernel) (Nat.le_of_ble_eq_true rfl) rfl ?_
    refine a_post (pc := 47) (fun v h9 q9 => ?_) (l_order0 hn hw hy ha hb hra hwa hrb hwb 17 0 i1 i3 σ4 (by omega) (by rw [hσ4, hσ2]; exact k_bx_y (Or.inr rfl) (k_bx_y (Or.inl rfl) ⟨rfl, fun _ _ _ _ => rfl, rfl⟩)) (by rw [hσ4, y_st_f, hσ2]; exact y_st_0) (by rw [hσ4]; exact y_st_0) (by omega) (by omega) qi1 qi3)
    obtain ⟨n9, σ9, r1, r2, r3, r, r4, r5⟩ := q9
    exact ⟨n9, σ9, r1, r2, r3, r, r4, i1, i3, hi1, hi3, r5⟩
  · skip
    refine k_enter (by decide +kernel) (Nat.le_of_ble_eq_true rfl) ?_
    show j_at _ _ _ [(0, .ref 33), (1, .ref 8), (2, j_i a), (3, j_i b), (4, j_i 1)] [] _ _ _ _
    refine a_aload_n (pc := 0) (i := 1) (by decide +kernel) rfl ?_
    refine a_iload_n (pc := 1) (i := 2) (by decide +kernel) rfl ?_
    refine a_iconst (pc := 2) (n := 1) (by decide +kernel) ?_
    refine b_pureV (pc := 3) [j_i a, j_i 1] [] ml_X5_46 (by decide +kernel) rfl rfl (sh_8 hn) rfl rfl (Nat.le_of_ble_eq_true rfl) (j_fitI rfl rfl) (s_hrows hn hw (by omega) (by omega)) ?_
    show j_at _ _ _ [(0, .ref 33), (1, .ref 8), (2, j_i a), (3, j_i b), (4, j_i 1)] [.ref (h_rows σ a 1)] _ _ _ _
    refine a_astore (pc := 6) (i := 5) (lv' := [(0, .ref 33), (1, .ref 8), (2, j_i a), (3, j_i b), (4, j_i 1), (5, .ref (h_rows σ a 1))]) (by decide +kernel) (Nat.le_of_ble_eq_true rfl) rfl ?_
    refine a_aload_n (pc := 8) (i := 1) (by decide +kernel) rfl ?_
    refine a_iload_n (pc := 9) (i := 3) (by decide +kernel) rfl ?_
    refine a_iconst (pc := 10) (n := 1) (by decide +kernel) ?_
    refine b_pureV (pc := 11) [j_i b, j_i 1] [] ml_X5_46 (by decide +kernel) rfl rfl (sh_8 hn) rfl rfl (Nat.le_of_ble_eq_true rfl) (j_fitI rfl rfl) (s_hrows hn hw (by omega) (by omega)) ?_
    show j_at _ _ _ [(0, .ref 33), (1, .ref 8), (2, j_i a), (3, j_i b), (4, j_i 1), (5, .ref (h_rows σ a 1))] [.ref (h_rows σ b 1)] _ _ _ _
    refine a_astore (pc := 14) (i := 6) (lv' := [(0, .ref 33), (1, .ref 8), (2, j_i a), (3, j_i b), (4, j_i 1), (5, .ref (h_rows σ a 1)), (6, .ref (h_rows σ b 1))]) (by decide +kernel) (Nat.le_of_ble_eq_true rfl) rfl ?_
    refine a_aload_n (pc := 16) (i := 0) (by decide +kernel) rfl ?_
    refine b_getR (pc := 17) (b := 37) fl_X5_27 (by decide +kernel) (sh_33 hn) rfl ?_
    refine a_aload_n (pc := 20) (i := 0) (by decide +kernel) rfl ?_
    refine a_aload (pc := 21) (i := 5) (by decide +kernel) rfl ?_
    refine a_iload_n (pc := 23) (i := 2) (by decide +kernel) rfl ?_
    refine b_callV (pc := 24) (c' := 0) (sl' := 0) [.ref (h_rows σ a 1), j_i a] [.ref 37] ml_X5_52 (by decide +kernel) rfl rfl (sh_33 hn) rfl rfl (Nat.le_of_ble_eq_true rfl) (j_fitI rfl rfl) (s_keyStart hn hy hra hwa ha) (fun v n' σ' hq => ?_)
    obtain ⟨i1, rfl, e1, e2, hi1⟩ := hq
    rw [e1, e2]; clear e1 e2
    have qi1 := y_ks_0 hy hwa hi1
    show j_at _ _ _ [(0, .ref 33), (1, .ref 8), (2, j_i a), (3, j_i b), (4, j_i 1), (5, .ref (h_rows σ a 1)), (6, .ref (h_rows σ b 1))] [j_i i1, .ref 37] _ _ _ _
    refine b_callV (pc := 27) (c' := 0) (sl' := 0) [j_i i1] [] ml_X5_56 (by decide +kernel) rfl rfl (sh_37 hn) rfl rfl (Nat.le_of_ble_eq_true rfl) (j_fitI rfl rfl) (s_bbegin (sh_37 hn)) (fun v n' σ' hq => ?_)
    obtain ⟨rfl, e1, e2⟩ := hq
    rw [e1, e2]; clear e1 e2
    obtain ⟨σ2, hσ2⟩ : ∃ z, z = y_st σ 37 i1 0 0 := ⟨_, rfl⟩
    rw [← hσ2]
    show j_at _ _ _ [(0, .ref 33), (1, .ref 8), (2, j_i a), (3, j_i b), (4, j_i 1), (5, .ref (h_rows σ a 1)), (6, .ref (h_rows σ b 1))] [] _ _ _ _
    refine a_aload_n (pc := 30) (i := 0) (by decide +kernel) rfl ?_
    refine b_getR (pc := 31) (b := 38) fl_X5_31 (by decide +kernel) (sh_33 hn) rfl ?_
    refine a_aload_n (pc := 34) (i := 0) (by decide +kernel) rfl ?_
    refine a_aload (pc := 35) (i := 6) (by decide +kernel) rfl ?_
    refine a_iload_n (pc := 37) (i := 3) (by decide +kernel) rfl ?_
    refine b_callV (pc := 38) (c' := 0) (sl' := 0) [.ref (h_rows σ b 1), j_i b] [.ref 38] ml_X5_52 (by decide +kernel) rfl rfl (sh_33 hn) rfl rfl (Nat.le_of_ble_eq_true rfl) (j_fitI rfl rfl) (s_keyStart hn (by rw [hσ2]; exact hy) hrb (by rw [hσ2]; exact hwb) hb) (fun v n' σ' hq => ?_)
    obtain ⟨i3, rfl, e1, e2, hi3⟩ := hq
    rw [e1, e2]; clear e1 e2
    rw [y_ks_congr (σ := σ) (by rw [hσ2]; rfl) (by rw [hσ2, y_st_f]; rfl)] at hi3
    have qi3 := y_ks_0 hy hwb hi3
    show j_at _ _ _ [(0, .ref 33), (1, .ref 8), (2, j_i a), (3, j_i b), (4, j_i 1), (5, .ref (h_rows σ a 1)), (6, .ref (h_rows σ b 1))] [j_i i3, .ref 38] _ _ _ _
    refine b_callV (pc := 41) (c' := 0) (sl' := 0) [j_i i3] [] ml_X5_56 (by decide +kernel) rfl rfl (sh_38 hn) rfl rfl (Nat.le_of_ble_eq_true rfl) (j_fitI rfl rfl) (s_bbegin (sh_38 hn)) (fun v n' σ' hq => ?_)
    obtain ⟨rfl, e1, e2⟩ := hq
    rw [e1, e2]; clear e1 e2
    obtain ⟨σ4, hσ4⟩ : ∃ z, z = y_st σ2 38 i3 0 0 := ⟨_, rfl⟩
    rw [← hσ4]
    show j_at _ _ _ [(0, .ref 33), (1, .ref 8), (2, j_i a), (3, j_i b), (4, j_i 1), (5, .ref (h_rows σ a 1)), (6, .ref (h_rows σ b 1))] [] _ _ _ _
    refine a_iconst (pc := 44) (n := 0) (by decide +kernel) ?_
    refine a_istore (pc := 45) (i := 7) (lv' := [(0, .ref 33), (1, .ref 8), (2, j_i a), (3, j_i b), (4, j_i 1), (5, .ref (h_rows σ a 1)), (6, .ref (h_rows σ b 1)), (7, j_i 0)]) (by decide +kernel) (Nat.le_of_ble_eq_true rfl) rfl ?_
    refine a_post (pc := 47) (fun v h9 q9 => ?_) (l_order1 hn hw hy ha hb hra hwa hrb hwb 17 0 i1 i3 σ4 (by omega) (by rw [hσ4, hσ2]; exact k_bx_y (Or.inr rfl) (k_bx_y (Or.inl rfl) ⟨rfl, fun _ _ _ _ => rfl, rfl⟩)) (by rw [hσ4, y_st_f, hσ2]; exact y_st_0) (by rw [hσ4]; exact y_st_0) (by omega) (by omega) qi1 qi3)
    obtain ⟨n9, σ9, r1, r2, r3, r, r4, r5⟩ := q9
    exact ⟨n9, σ9, r1, r2, r3, r, r4, i1, i3, hi1, hi3, r5⟩
