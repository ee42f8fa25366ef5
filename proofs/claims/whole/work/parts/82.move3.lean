set_option maxHeartbeats 4000000 in
theorem e_move {G : j_G} {X : k_X} {n : Nat} {σ : k_St} (hn : 101 ≤ n) (hg : ∀ i : Int, -128 ≤ σ.1 69 i ∧ σ.1 69 i ≤ 9999) (hgr : (0 ≤ σ.1 69 0 ∧ σ.1 69 0 ≤ 300) ∧ (0 ≤ σ.1 69 301 ∧ σ.1 69 301 ≤ 30) ∧ (0 ≤ σ.1 69 1382 ∧ σ.1 69 1382 ≤ 50)) (hf4 : 0 ≤ σ.2.1 68 4 ∧ σ.2.1 68 4 < 40) (hm5 : 0 ≤ σ.2.1 68 5 ∧ σ.2.1 68 5 ≤ 40) (hgg : ∀ m, 0 ≤ m → m < σ.1 69 1382 → 0 ≤ σ.1 69 (1383 + 7 * m + 2) ∧ σ.1 69 (1383 + 7 * m + 2) ≤ σ.1 69 0) {i : Int} (hi : -2147483648 ≤ i ∧ i ≤ 2147483647) {m : Int} (hm : -2147483648 ≤ m ∧ m ≤ 2147483647) {j : Int} (hj : -2147483648 ≤ j ∧ j ≤ 2147483647)  : k_run G X mX12_move [.ref 68, j_i i, j_i m, j_i j] n σ 0 0 (fun v n' σ' => (m < 0 ∧ v = some (j_i (-14)) ∧ n' = n ∧ σ' = k_sI (k_sI σ 68 0 0) 68 0 4) ∨ (0 ≤ m ∧ ¬ mv_ok (σ.1 69 0) i m j ∧ v = some (j_i (-13)) ∧ n' = n ∧ σ' = k_sI (k_sI σ 68 0 0) 68 0 3) ∨ (m = 0 ∧ mv_ok (σ.1 69 0) i m j ∧ v = some (j_i 0) ∧ n' = n ∧ σ' = k_sI σ 68 0 0) ∨ (0 < m ∧ mv_ok (σ.1 69 0) i m j ∧ v = some (j_i m) ∧ n' = n ∧ ∃ τ f, mv_F (d_kp (k_sI σ 68 0 0)) τ ∧ (∀ x, x < 1 ∨ 1 + σ.1 69 0 ≤ x → f x = σ.1 69 x) ∧ (∀ t, 0 ≤ t → t < σ.1 69 0 → f (1 + t) = σ.1 69 (1 + mv_to j m i t)) ∧ σ' = k_sA τ 69 (d_gm (mv_g i m j) f (σ.1 69 1382)))) := by
  obtain ⟨hgW, hgE, hgM⟩ := hgr
  refine k_enter (by decide +kernel) (Nat.le_of_ble_eq_true rfl) ?_
  show j_at _ _ _ [(0, .ref 68), (1, j_i i), (2, j_i m), (3, j_i j)] [] _ _ _ _
  refine a_aload_n (pc := 0) (i := 0) (by decide +kernel) rfl ?_
  refine a_iconst (pc := 1) (n := 0) (by decide +kernel) ?_
  refine b_putI (pc := 2) fl_X12_115 (by decide +kernel) (sh_68 hn) rfl rfl rfl ?_
  obtain ⟨σ1, hσ1⟩ : ∃ z, z = k_sI σ 68 0 0 := ⟨_, rfl⟩
  rw [← hσ1]
  have hf41 : 0 ≤ σ1.2.1 68 4 ∧ σ1.2.1 68 4 < 40 := by rw [hσ1, k_IN (by omega)]; exact hf4
  have hm51 : 0 ≤ σ1.2.1 68 5 ∧ σ1.2.1 68 5 ≤ 40 := by rw [hσ1, k_IN (by omega)]; exact hm5
  refine a_iload_n (pc := 5) (i := 2) (by decide +kernel) rfl ?_
  refine a_if_ge (pc := 6) (off := 9) (tgt := 15) (by decide +kernel) (by decide) (by omega) (fun c6 => ?_) (fun c6 => ?_)
  · refine a_iload_n (pc := 15) (i := 1) (by decide +kernel) rfl ?_
    refine a_if_lt (pc := 16) (off := 35) (tgt := 51) (by decide +kernel) (by decide) (by omega) (fun c16 => ?_) (fun c16 => ?_)
    · refine a_aload_n (pc := 51) (i := 0) (by decide +kernel) rfl ?_
      refine a_iconst (pc := 52) (n := 3) (by decide +kernel) ?_
      refine b_callV (pc := 53) (c' := 0) (sl' := 0) [j_i 3] [] ml_X12_142 (by decide +kernel) rfl rfl (sh_68 hn) rfl rfl (Nat.le_of_ble_eq_true rfl) (j_fitI rfl rfl) (s_dfails hn) (fun v n' σ' hq => ?_)
      obtain ⟨rfl, e1, e2⟩ := hq
      rw [e1, e2]; clear e1 e2
      show j_at _ _ _ [(0, .ref 68), (1, j_i i), (2, j_i m), (3, j_i j)] [j_i (-10 - 3)] _ _ _ _
      refine a_ireturn (pc := 56) (by decide +kernel) rfl ?_
      refine k_ret ?_
      exact Or.inr (Or.inl ⟨by omega, by unfold mv_ok; omega, rfl, rfl, by rw [hσ1]⟩)
    · refine a_iload_n (pc := 19) (i := 1) (by decide +kernel) rfl ?_
      refine a_aload_n (pc := 20) (i := 0) (by decide +kernel) rfl ?_
      refine b_pureV (pc := 21) [] [j_i i] ml_X12_124 (by decide +kernel) rfl rfl (sh_68 hn) rfl rfl (Nat.le_of_ble_eq_true rfl) (j_fitI rfl rfl) (s_dwords hn) ?_
      rw [show σ1.1 = σ.1 by rw [hσ1]; rfl]
      show j_at _ _ _ [(0, .ref 68), (1, j_i i), (2, j_i m), (3, j_i j)] [j_i (σ.1 69 0), j_i i] _ _ _ _
      refine a_icmp_gt (pc := 24) (off := 27) (tgt := 51) (by decide +kernel) (by decide) (by omega) (by omega) (fun c24 => ?_) (fun c24 => ?_)
      · refine a_aload_n (pc := 51) (i := 0) (by decide +kernel) rfl ?_
        refine a_iconst (pc := 52) (n := 3) (by decide +kernel) ?_
        refine b_callV (pc := 53) (c' := 0) (sl' := 0) [j_i 3] [] ml_X12_142 (by decide +kernel) rfl rfl (sh_68 hn) rfl rfl (Nat.le_of_ble_eq_true rfl) (j_fitI rfl rfl) (s_dfails hn) (fun v n' σ' hq => ?_)
        obtain ⟨rfl, e1, e2⟩ := hq
        rw [e1, e2]; clear e1 e2
        show j_at _ _ _ [(0, .ref 68), (1, j_i i), (2, j_i m), (3, j_i j)] [j_i (-10 - 3)] _ _ _ _
        refine a_ireturn (pc := 56) (by decide +kernel) rfl ?_
        refine k_ret ?_
        exact Or.inr (Or.inl ⟨by omega, by unfold mv_ok; omega, rfl, rfl, by rw [hσ1]⟩)
      · refine a_iload_n (pc := 27) (i := 2) (by decide +kernel) rfl ?_
        refine a_aload_n (pc := 28) (i := 0) (by decide +kernel) rfl ?_
        refine b_pureV (pc := 29) [] [j_i m] ml_X12_124 (by decide +kernel) rfl rfl (sh_68 hn) rfl rfl (Nat.le_of_ble_eq_true rfl) (j_fitI rfl rfl) (s_dwords hn) ?_
        rw [show σ1.1 = σ.1 by rw [hσ1]; rfl]
        show j_at _ _ _ [(0, .ref 68), (1, j_i i), (2, j_i m), (3, j_i j)] [j_i (σ.1 69 0), j_i m] _ _ _ _
        refine a_iload_n (pc := 32) (i := 1) (by decide +kernel) rfl ?_
        refine a_isub (pc := 33) (by decide +kernel) ?_
        refine a_icmp_gt (pc := 34) (off := 17) (tgt := 51) (by decide +kernel) (by decide) (by omega) (by omega) (fun c34 => ?_) (fun c34 => ?_)
        · refine a_aload_n (pc := 51) (i := 0) (by decide +kernel) rfl ?_
          refine a_iconst (pc := 52) (n := 3) (by decide +kernel) ?_
          refine b_callV (pc := 53) (c' := 0) (sl' := 0) [j_i 3] [] ml_X12_142 (by decide +kernel) rfl rfl (sh_68 hn) rfl rfl (Nat.le_of_ble_eq_true rfl) (j_fitI rfl rfl) (s_dfails hn) (fun v n' σ' hq => ?_)
          obtain ⟨rfl, e1, e2⟩ := hq
          rw [e1, e2]; clear e1 e2
          show j_at _ _ _ [(0, .ref 68), (1, j_i i), (2, j_i m), (3, j_i j)] [j_i (-10 - 3)] _ _ _ _
          refine a_ireturn (pc := 56) (by decide +kernel) rfl ?_
          refine k_ret ?_
          exact Or.inr (Or.inl ⟨by omega, by unfold mv_ok; omega, rfl, rfl, by rw [hσ1]⟩)
        · refine a_iload_n (pc := 37) (i := 3) (by decide +kernel) rfl ?_
          refine a_iconst (pc := 38) (n := 0) (by decide +kernel) ?_
          refine a_aload_n (pc := 39) (i := 0) (by decide +kernel) rfl ?_
          refine b_pureV (pc := 40) [] [j_i 0, j_i j] ml_X12_124 (by decide +kernel) rfl rfl (sh_68 hn) rfl rfl (Nat.le_of_ble_eq_true rfl) (j_fitI rfl rfl) (s_dwords hn) ?_
          rw [show σ1.1 = σ.1 by rw [hσ1]; rfl]
          show j_at _ _ _ [(0, .ref 68), (1, j_i i), (2, j_i m), (3, j_i j)] [j_i (σ.1 69 0), j_i 0, j_i j] _ _ _ _
          refine a_iload_n (pc := 43) (i := 2) (by decide +kernel) rfl ?_
          refine a_isub (pc := 44) (by decide +kernel) ?_
          refine b_callS (pc := 45) (c' := 0) (sl' := 0) [j_i j, j_i 0, j_i ((σ.1 69 0) - m)] [] ml_X12_128 (by decide +kernel) rfl rfl (Nat.le_of_ble_eq_true rfl) (j_fitI rfl rfl) (s_dwithin (by omega) (by omega) (by omega)) (fun v n' σ' hq => ?_)
          obtain ⟨x, rfl, e1, e2, hx⟩ := hq
          rw [e1, e2]; clear e1 e2
          rcases hx with ⟨rfl, p45⟩ | ⟨rfl, p45⟩
          · show j_at _ _ _ [(0, .ref 68), (1, j_i i), (2, j_i m), (3, j_i j)] [j_i 1] _ _ _ _
            refine a_if_ne (pc := 48) (off := 9) (tgt := 57) (by decide +kernel) (by decide) (by omega) (fun c48 => ?_) (fun c48 => ?_)
            · refine a_iload_n (pc := 57) (i := 2) (by decide +kernel) rfl ?_
              refine a_if_ne (pc := 58) (off := 5) (tgt := 63) (by decide +kernel) (by decide) (by omega) (fun c58 => ?_) (fun c58 => ?_)
              · refine a_aload_n (pc := 63) (i := 0) (by decide +kernel) rfl ?_
                refine b_callV (pc := 64) (c' := 0) (sl' := 0) [] [] ml_X12_132 (by decide +kernel) rfl rfl (sh_68 hn) rfl rfl (Nat.le_of_ble_eq_true rfl) (j_fitI rfl rfl) (s_dkeep hn hf41 hm51) (fun v n' σ' hq => ?_)
                obtain ⟨rfl, e1, e2⟩ := hq
                rw [e1, e2]; clear e1 e2
                obtain ⟨σ5, hσ5⟩ : ∃ z, z = d_kp σ1 := ⟨_, rfl⟩
                rw [← hσ5]
                show j_at _ _ _ [(0, .ref 68), (1, j_i i), (2, j_i m), (3, j_i j)] [] _ _ _ _
                refine a_iconst (pc := 67) (n := 0) (by decide +kernel) ?_
                refine a_istore (pc := 68) (i := 4) (lv' := [(0, .ref 68), (1, j_i i), (2, j_i m), (3, j_i j), (4, j_i 0)]) (by decide +kernel) (Nat.le_of_ble_eq_true rfl) rfl ?_
                refine a_iconst (pc := 70) (n := 0) (by decide +kernel) ?_
                refine a_istore (pc := 71) (i := 5) (lv' := [(0, .ref 68), (1, j_i i), (2, j_i m), (3, j_i j), (4, j_i 0), (5, j_i 0)]) (by decide +kernel) (Nat.le_of_ble_eq_true rfl) rfl ?_
                have hk69 : σ5.1 69 = σ.1 69 := by rw [hσ5, d_kp_69 (by omega), hσ1]; rfl
                refine l_dmove73 (ρ := σ5) (W := σ.1 69 0) hn hgW (by omega) (by omega) (by omega) (by omega) (by omega) (by rw [hk69]) (fun τ1 hF hI => ?_) 302 0 σ5 (by omega) (by omega) (by omega) ⟨fun _ _ _ => rfl, rfl⟩ (fun x x0 x1 => absurd x0 (by omega))
                refine a_iconst (pc := 185) (n := 0) (by decide +kernel) ?_
                refine a_istore (pc := 186) (i := 5) (lv' := [(0, .ref 68), (1, j_i i), (2, j_i m), (3, j_i j), (4, j_i (σ.1 69 0)), (5, j_i 0)]) (by decide +kernel) (Nat.le_of_ble_eq_true rfl) rfl ?_
                refine l_dmove188 (ρ := τ1) hn hgW (by omega) (by omega) (by omega) (by omega) (by omega) (fun τ2 hτ2 k9 => ?_) 302 0 τ1 (by omega) (by omega) (by omega) (by rw [j_cpy_0, k_sA0])
                refine a_iconst (pc := 217) (n := 0) (by decide +kernel) ?_
                refine a_istore (pc := 218) (i := 5) (lv' := [(0, .ref 68), (1, j_i i), (2, j_i m), (3, j_i j), (4, j_i (σ.1 69 0)), (5, j_i 0)]) (by decide +kernel) (Nat.le_of_ble_eq_true rfl) rfl ?_
                obtain ⟨f, hf⟩ : ∃ f, f = j_cpy (τ1.1 78) (τ1.1 69) 0 1 (σ.1 69 0) := ⟨_, rfl⟩
                have ef : ∀ x, x < 1 ∨ 1 + σ.1 69 0 ≤ x → f x = σ.1 69 x := fun x hx => by rw [hf]; unfold j_cpy; rw [if_neg (by omega), hF.1 69 (by omega) (by omega), hk69]
                have ew : ∀ t, 0 ≤ t → t < σ.1 69 0 → f (1 + t) = σ.1 69 (1 + mv_to j m i t) := fun t t0 t1 => by
                  have b := mv_in (i := j) (j := i) (m := m) (k := t) (W := σ.1 69 0) (by omega) (by omega) (by omega) (by omega) (by omega) t0 t1
                  have z := (hI (mv_to j m i t) b.1 b.2).2
                  rw [mv_inv (by omega), hk69] at z
                  rw [hf]; unfold j_cpy; rw [if_pos (by omega), show 0 + (1 + t - 1) = t by omega]; exact z
                refine l_dmove220 (ρ := τ1) (f := f) hn hgW (by omega) (by omega) (by omega) (by omega) (by omega) (ef 1382 (by omega)) hgM (fun x x0 x1 => by rw [ef _ (by omega)]; exact hgg x x0 x1) (fun x x0 x1 => (hI x x0 x1).1) (fun τ3 hτ3 k8 => ?_) 51 0 τ2 (by omega) (by omega) (by omega) (by rw [hτ2, d_gm_0, hf])
                refine a_iload_n (pc := 275) (i := 2) (by decide +kernel) rfl ?_
                refine a_ireturn (pc := 276) (by decide +kernel) rfl ?_
                refine k_ret ?_
                exact Or.inr (Or.inr (Or.inr ⟨by omega, by unfold mv_ok; omega, rfl, rfl, τ1, f, hF, ef, ew, hτ3⟩))
              · refine a_iconst (pc := 61) (n := 0) (by decide +kernel) ?_
                refine a_ireturn (pc := 62) (by decide +kernel) rfl ?_
                refine k_ret ?_
                exact Or.inr (Or.inr (Or.inl ⟨by omega, by unfold mv_ok; omega, rfl, rfl, rfl⟩))
            · exact absurd c48 (by decide)
          · show j_at _ _ _ [(0, .ref 68), (1, j_i i), (2, j_i m), (3, j_i j)] [j_i 0] _ _ _ _
            refine a_if_ne (pc := 48) (off := 9) (tgt := 57) (by decide +kernel) (by decide) (by omega) (fun c48 => ?_) (fun c48 => ?_)
            · exact absurd c48 (by decide)
            · refine a_aload_n (pc := 51) (i := 0) (by decide +kernel) rfl ?_
              refine a_iconst (pc := 52) (n := 3) (by decide +kernel) ?_
              refine b_callV (pc := 53) (c' := 0) (sl' := 0) [j_i 3] [] ml_X12_142 (by decide +kernel) rfl rfl (sh_68 hn) rfl rfl (Nat.le_of_ble_eq_true rfl) (j_fitI rfl rfl) (s_dfails hn) (fun v n' σ' hq => ?_)
              obtain ⟨rfl, e1, e2⟩ := hq
              rw [e1, e2]; clear e1 e2
              show j_at _ _ _ [(0, .ref 68), (1, j_i i), (2, j_i m), (3, j_i j)] [j_i (-10 - 3)] _ _ _ _
              refine a_ireturn (pc := 56) (by decide +kernel) rfl ?_
              refine k_ret ?_
              exact Or.inr (Or.inl ⟨by omega, by unfold mv_ok; omega, rfl, rfl, by rw [hσ1]⟩)
  · refine a_aload_n (pc := 9) (i := 0) (by decide +kernel) rfl ?_
    refine a_iconst (pc := 10) (n := 4) (by decide +kernel) ?_
    refine b_callV (pc := 11) (c' := 0) (sl' := 0) [j_i 4] [] ml_X12_142 (by decide +kernel) rfl rfl (sh_68 hn) rfl rfl (Nat.le_of_ble_eq_true rfl) (j_fitI rfl rfl) (s_dfails hn) (fun v n' σ' hq => ?_)
    obtain ⟨rfl, e1, e2⟩ := hq
    rw [e1, e2]; clear e1 e2
    show j_at _ _ _ [(0, .ref 68), (1, j_i i), (2, j_i m), (3, j_i j)] [j_i (-10 - 4)] _ _ _ _
    refine a_ireturn (pc := 14) (by decide +kernel) rfl ?_
    refine k_ret ?_
    exact Or.inl ⟨by omega, rfl, rfl, by rw [hσ1]⟩
