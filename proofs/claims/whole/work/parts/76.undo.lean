def un_C (σ : k_St) (r : Int) (σ' : k_St) : Prop := (σ.2.1 22 2 = 0 ∧ r = -3 ∧ σ' = σ) ∨ (0 < σ.2.1 22 2 ∧ r = σ.2.1 22 2 - 1 ∧ ∃ s : Nat, s < 40 ∧ (σ.2.1 22 1 + 40 - 1) % 40 = (s : Int) ∧ σ' = a_rs σ s (σ.2.1 22 2))
theorem s_restore {G : j_G} {X : k_X} {n : Nat} {σ : k_St} (hR : RR n σ) : k_run G X mX0_restore [.ref 22, .ref 6] n σ 0 0 (fun v n' σ' => n' = n ∧ ((σ.2.1 22 2 = 0 ∧ v = some (j_i 0) ∧ σ' = σ) ∨ (0 < σ.2.1 22 2 ∧ v = some (j_i 1) ∧ ∃ s : Nat, s < 40 ∧ (σ.2.1 22 1 + 40 - 1) % 40 = (s : Int) ∧ σ' = a_rs σ s (σ.2.1 22 2)))) := by
  have hn := RR_n hR
  obtain ⟨r, r1, r2, r3, r4, r5, r6, r7, r8, r9, r10, r11, r12, r13⟩ := hR.2.1
  by_cases h : σ.2.1 22 2 = 0
  · refine k_runw (fun v n' τ hq => ?_) (s_restore0 hn r5 h)
    obtain ⟨q1, q2, q3⟩ := hq
    exact ⟨q2, Or.inl ⟨h, q1, q3⟩⟩
  · obtain ⟨s, hs⟩ : ∃ s : Nat, (σ.2.1 22 1 + 40 - 1) % 40 = (s : Int) := ⟨((σ.2.1 22 1 + 40 - 1) % 40).toNat, by omega⟩
    have hs4 : s < 40 := by omega
    have hsr : s < r := by
      by_cases g : r < 40
      · have := r7 g; omega
      · omega
    refine k_runw (fun v n' τ hq => ?_) (s_restore1 hn hs4 r5 hs (r11 s hsr) (by omega) (by omega) (r3 s hsr))
    obtain ⟨q1, q2, q3⟩ := hq
    exact ⟨q2, Or.inr ⟨by omega, q1, s, hs4, hs, q3⟩⟩
theorem a_rs_1 {σ : k_St} {s : Nat} {k : Int} {c : Nat} : (a_rs σ s k).1 c = (kp_cp σ 6 (101 + 16 * s)).1 c := rfl
theorem a_rs_f {σ : k_St} {s : Nat} {k : Int} {c j : Nat} (h : ¬ (c = 22 ∧ (j = 1 ∨ j = 2))) : (a_rs σ s k).2.1 c j = (kp_cp σ 6 (101 + 16 * s)).2.1 c j := by unfold a_rs; rw [k_IN (by omega), k_IN (by omega)]
set_option maxHeartbeats 4000000 in
theorem c_undo {G : j_G} {X : k_X} {n : Nat} {σ : k_St} (hR : RR n σ)  : k_run G X mX11_undo [.ref 5] n σ 0 0 (fun v n' σ' => ∃ r : Int, v = some (j_i r) ∧ n' = n ∧ un_C σ r σ') := by
  obtain ⟨hK, hAc, hNm, hPs, hPt, hSm, hIx⟩ := id hR
  have hn := RR_n hR
  have hk := hK.1
  have hwh : h_wf σ 8 := hk.2.1
  have hwm : m_wf σ 16 := hk.2.2
  have hW : 0 ≤ σ.2.1 6 1 ∧ σ.2.1 6 1 ≤ 300 := hk.1
  have hfl := hSm.1
  refine k_enter (by decide +kernel) (Nat.le_of_ble_eq_true rfl) ?_
  show j_at _ _ _ [(0, .ref 5)] [] _ _ _ _
  refine a_aload_n (pc := 0) (i := 0) (by decide +kernel) rfl ?_
  refine b_getR (pc := 1) (b := 22) fl_X11_29 (by decide +kernel) (sh_5 hn) rfl ?_
  refine a_aload_n (pc := 4) (i := 0) (by decide +kernel) rfl ?_
  refine b_getR (pc := 5) (b := 6) fl_X11_12 (by decide +kernel) (sh_5 hn) rfl ?_
  refine b_callV (pc := 8) (c' := 0) (sl' := 0) [.ref 6] [] ml_X11_361 (by decide +kernel) rfl rfl (sh_22 hn) rfl rfl (Nat.le_of_ble_eq_true rfl) (j_fitI rfl rfl) (s_restore hR) (fun v n' σ' hq => ?_)
  obtain ⟨e1, ⟨q1, rfl, e2⟩ | ⟨q1, rfl, s, q2, q3, e2⟩⟩ := hq
  · rw [e1, e2]; clear e1 e2
    show j_at _ _ _ [(0, .ref 5)] [j_i 0] _ _ _ _
    refine a_if_eq (pc := 11) (off := 13) (tgt := 24) (by decide +kernel) (by decide) (by omega) (fun c11 => ?_) (fun c11 => ?_)
    · refine a_bipush (pc := 24) (n := (-3)) (by decide +kernel) rfl ?_
      refine a_ireturn (pc := 26) (by decide +kernel) rfl ?_
      refine k_ret ?_
      exact ⟨_, rfl, rfl, Or.inl ⟨q1, rfl, rfl⟩⟩
    · exact absurd c11 (by decide)
  · rw [e1]; clear e1
    obtain ⟨σ9, hσ9⟩ : ∃ z, z = a_rs σ s (σ.2.1 22 2) := ⟨_, rfl⟩
    rw [e2, ← hσ9]; clear e2
    show j_at _ _ _ [(0, .ref 5)] [j_i 1] _ _ _ _
    refine a_if_eq (pc := 11) (off := 13) (tgt := 24) (by decide +kernel) (by decide) (by omega) (fun c11 => ?_) (fun c11 => ?_)
    · exact absurd c11 (by decide)
    · refine a_aload_n (pc := 14) (i := 0) (by decide +kernel) rfl ?_
      refine b_getR (pc := 15) (b := 22) fl_X11_29 (by decide +kernel) (sh_5 hn) rfl ?_
      refine b_getI (pc := 18) fl_X11_365 (by decide +kernel) (sh_22 hn) rfl ?_
      rw [show σ9.2.1 22 2 = σ.2.1 22 2 - 1 from (by rw [hσ9]; unfold a_rs; rw [k_II])]
      refine a_goto (pc := 21) (off := 5) (tgt := 26) (by decide +kernel) (by decide) ?_
      refine a_ireturn (pc := 26) (by decide +kernel) rfl ?_
      refine k_ret ?_
      exact ⟨_, rfl, rfl, Or.inr ⟨q1, rfl, s, q2, q3, hσ9⟩⟩
set_option maxHeartbeats 4000000 in
theorem l_dundo {G : j_G} {X : k_X} {n : Nat} {ρ : k_St} (hn : 101 ≤ n) {s : Int} (hs : 0 ≤ s ∧ s < 40)  : ∀ (m : Nat) (k : Int) (τ : k_St), 1733 - k < (m : Int) → 0 ≤ k → k ≤ 1733 → τ = k_sA ρ 69 (j_cpy (ρ.1 70) (ρ.1 69) (s * 1733) 0 k) → j_at G mX12_undo 39 [(0, .ref 68), (1, j_i (s * 1733)), (2, j_i k)] [] (k_h X n τ) 0 0 (k_Q X (k_is n (k_sA ρ 69 (j_cpy (ρ.1 70) (ρ.1 69) (s * 1733) 0 1733)) (some (j_i (ρ.2.1 68 5))))) := by
  intro m
  induction m with
  | zero => intro k τ h1 h2 h3; exact absurd h1 (by omega)
  | succ m ih =>
    intro k τ hm h0 hN hτ
    refine a_iload_n (pc := 39) (i := 2) (by decide +kernel) rfl ?_
    refine a_sipush (pc := 40) (n := 1733) (by decide +kernel) rfl ?_
    refine a_icmp_ge (pc := 43) (off := 23) (tgt := 66) (by decide +kernel) (by decide) (by omega) (by omega) (fun c43 => ?_) (fun c43 => ?_)
    · refine a_aload_n (pc := 66) (i := 0) (by decide +kernel) rfl ?_
      refine b_getI (pc := 67) fl_X12_118 (by decide +kernel) (sh_68 hn) rfl ?_
      rw [show τ.2.1 68 5 = ρ.2.1 68 5 from (by rw [hτ]; rfl)]
      refine a_ireturn (pc := 70) (by decide +kernel) rfl ?_
      refine k_ret ?_
      exact ⟨rfl, rfl, by rw [hτ, show k = 1733 by omega]⟩
    · refine a_aload_n (pc := 46) (i := 0) (by decide +kernel) rfl ?_
      refine b_getR (pc := 47) (b := 69) fl_X12_7 (by decide +kernel) (sh_68 hn) rfl ?_
      refine a_iload_n (pc := 50) (i := 2) (by decide +kernel) rfl ?_
      refine a_aload_n (pc := 51) (i := 0) (by decide +kernel) rfl ?_
      refine b_getR (pc := 52) (b := 70) fl_X12_14 (by decide +kernel) (sh_68 hn) rfl ?_
      refine a_iload_n (pc := 55) (i := 1) (by decide +kernel) rfl ?_
      refine a_iload_n (pc := 56) (i := 2) (by decide +kernel) rfl ?_
      refine a_iadd (pc := 57) (by decide +kernel) ?_
      refine b_iaload (pc := 58) (by decide +kernel) (sh_70 hn) (by omega) (by omega) (by omega) ?_
      rw [show τ.1 70 = ρ.1 70 from (by rw [hτ, k_AN (by omega)])]
      refine b_iastore (pc := 59) (by decide +kernel) (sh_69 hn) (by omega) (by omega) (by omega) ?_
      obtain ⟨σ1, hσ1⟩ : ∃ z, z = k_sA τ 69 (j_up (τ.1 69) k (ρ.1 70 ((s * 1733) + k))) := ⟨_, rfl⟩
      rw [← hσ1]
      refine a_iinc (pc := 60) (i := 2) (n := 1) (x := k) (lv' := [(0, .ref 68), (1, j_i (s * 1733)), (2, j_i (k + 1))]) (by decide +kernel) rfl (Nat.le_of_ble_eq_true rfl) rfl ?_
      refine a_goto (pc := 63) (off := -24) (tgt := 39) (by decide +kernel) (by decide) ?_
      exact ih (k + 1) σ1 (by omega) (by omega) (by omega) (by rw [hσ1, hτ, k_AA, k_sA2, ← j_cpy_s (by omega), show (0 : Int) + k = k by omega])
set_option maxHeartbeats 4000000 in
theorem d_undo {G : j_G} {X : k_X} {n : Nat} {σ : k_St} (hn : 101 ≤ n) (hf4 : 0 ≤ σ.2.1 68 4 ∧ σ.2.1 68 4 < 40) (hm5 : 0 ≤ σ.2.1 68 5 ∧ σ.2.1 68 5 ≤ 40)  : k_run G X mX12_undo [.ref 68] n σ 0 0 (fun v n' σ' => (σ.2.1 68 5 = 0 ∧ v = some (j_i (-3)) ∧ n' = n ∧ σ' = σ) ∨ (0 < σ.2.1 68 5 ∧ v = some (j_i (σ.2.1 68 5 - 1)) ∧ n' = n ∧ σ' = k_sA (k_sI σ 68 5 (σ.2.1 68 5 - 1)) 69 (j_cpy (σ.1 70) (σ.1 69) ((σ.2.1 68 4 + (σ.2.1 68 5 - 1)) % 40 * 1733) 0 1733))) := by
  refine k_enter (by decide +kernel) (Nat.le_of_ble_eq_true rfl) ?_
  show j_at _ _ _ [(0, .ref 68)] [] _ _ _ _
  refine a_aload_n (pc := 0) (i := 0) (by decide +kernel) rfl ?_
  refine b_getI (pc := 1) fl_X12_118 (by decide +kernel) (sh_68 hn) rfl ?_
  refine a_if_ne (pc := 4) (off := 6) (tgt := 10) (by decide +kernel) (by decide) (by omega) (fun c4 => ?_) (fun c4 => ?_)
  · refine a_aload_n (pc := 10) (i := 0) (by decide +kernel) rfl ?_
    refine a_dup (pc := 11) (by decide +kernel) rfl ?_
    refine b_getI (pc := 12) fl_X12_118 (by decide +kernel) (sh_68 hn) rfl ?_
    refine a_iconst (pc := 15) (n := 1) (by decide +kernel) ?_
    refine a_isub (pc := 16) (by decide +kernel) ?_
    refine b_putI (pc := 17) fl_X12_118 (by decide +kernel) (sh_68 hn) rfl rfl rfl ?_
    obtain ⟨σ1, hσ1⟩ : ∃ z, z = k_sI σ 68 5 ((σ.2.1 68 5) - 1) := ⟨_, rfl⟩
    rw [← hσ1]
    refine a_aload_n (pc := 20) (i := 0) (by decide +kernel) rfl ?_
    refine b_getI (pc := 21) fl_X12_121 (by decide +kernel) (sh_68 hn) rfl ?_
    rw [show σ1.2.1 68 4 = σ.2.1 68 4 by rw [hσ1]; exact k_IN (by omega)]
    refine a_aload_n (pc := 24) (i := 0) (by decide +kernel) rfl ?_
    refine b_getI (pc := 25) fl_X12_118 (by decide +kernel) (sh_68 hn) rfl ?_
    rw [show σ1.2.1 68 5 = (σ.2.1 68 5) - 1 by rw [hσ1]; exact k_II]
    refine a_iadd (pc := 28) (by decide +kernel) ?_
    refine a_bipush (pc := 29) (n := 40) (by decide +kernel) rfl ?_
    refine a_irem (pc := 31) (by decide +kernel) (by omega) (by omega) ?_
    refine a_sipush (pc := 32) (n := 1733) (by decide +kernel) rfl ?_
    refine a_imul (pc := 35) (by decide +kernel) ?_
    refine a_istore_n (pc := 36) (i := 1) (lv' := [(0, .ref 68), (1, j_i ((((σ.2.1 68 4) + ((σ.2.1 68 5) - 1)) % 40) * 1733))]) (by decide +kernel) (Nat.le_of_ble_eq_true rfl) rfl ?_
    refine a_iconst (pc := 37) (n := 0) (by decide +kernel) ?_
    refine a_istore_n (pc := 38) (i := 2) (lv' := [(0, .ref 68), (1, j_i ((((σ.2.1 68 4) + ((σ.2.1 68 5) - 1)) % 40) * 1733)), (2, j_i 0)]) (by decide +kernel) (Nat.le_of_ble_eq_true rfl) rfl ?_
    refine k_mono (fun v n' τ hq => ?_) (l_dundo (ρ := σ1) (s := (σ.2.1 68 4 + (σ.2.1 68 5 - 1)) % 40) hn (by omega) 1734 0 σ1 (by omega) (by omega) (by omega) (by rw [j_cpy_0, k_sA0]))
    obtain ⟨g1, g2, g3⟩ := hq
    refine Or.inr ⟨by omega, by rw [g1, hσ1, k_II], g2, ?_⟩
    rw [g3, hσ1]; rfl
  · refine a_bipush (pc := 7) (n := (-3)) (by decide +kernel) rfl ?_
    refine a_ireturn (pc := 9) (by decide +kernel) rfl ?_
    refine k_ret ?_
    exact Or.inl ⟨by omega, rfl, rfl, rfl⟩
theorem p_undo {G : j_G} {X : k_X} {n : Nat} {σ : k_St} (hR : RR n σ) : pr_ok G X mX11_undo mX12_undo [] n σ 0 0 := by
  have hn := RR_n hR
  obtain ⟨r, r1, r2, r3, r4, r5, r6, r7, r8, r9, r10, r11, r12, r13⟩ := id hR.2.1
  refine ⟨_, c_undo hR, fun v n' σ' hq => ?_⟩
  obtain ⟨rr, hv, rfl, hC⟩ := hq
  rcases hC with ⟨q1, q2, rfl⟩ | ⟨q1, q2, s, q3, q4, hσ⟩
  · refine ⟨hn, rr, hv, k_runw (fun v2 n2 σ2 p => ?_) (d_undo hn r9 (by rw [r8]; exact r6))⟩
    rcases p with ⟨g1, g2, g3, g4⟩ | ⟨g1, _⟩
    · subst g3; subst g4; exact ⟨by rw [g2, q2], hR⟩
    · omega
  · have f1 : ∀ c, c < 6 ∨ 21 < c → σ'.1 c = σ.1 c := fun c hc => by rw [hσ, a_rs_1, kp_cp_o (by omega)]
    have f2 : ∀ c j, c < 6 ∨ 21 < c → ¬ (c = 22 ∧ (j = 1 ∨ j = 2)) → σ'.2.1 c j = σ.2.1 c j := fun c j hc hj => by rw [hσ, a_rs_f hj, kp_cp_f (by omega)]
    have x4 : σ'.2.1 68 4 = σ.2.1 68 4 := f2 68 4 (by omega) (by omega)
    have x5 : σ'.2.1 68 5 = σ.2.1 22 2 := (f2 68 5 (by omega) (by omega)).trans r8
    have n1 : σ'.2.1 22 1 = (s : Int) := by rw [hσ]; unfold a_rs; rw [k_IN (by omega), k_II]
    have nb2 : σ'.2.1 22 2 = σ.2.1 22 2 - 1 := by rw [hσ]; unfold a_rs; rw [k_II]
    refine ⟨hn, rr, hv, k_runw (fun v2 n2 σ2 p => ?_) (d_undo hn (by rw [x4]; exact r9) (by rw [x5]; exact r6))⟩
    rcases p with ⟨g1, _⟩ | ⟨g1, g2, g3, g4⟩
    · omega
    · subst g3
      rw [x5] at g2
      refine ⟨by rw [g2, q2], ?_⟩
      rw [r8] at r10
      have hslot : (σ'.2.1 68 4 + (σ'.2.1 68 5 - 1)) % 40 = (s : Int) := by rw [x4, x5]; omega
      rw [hslot, x5, f1 70 (by omega), f1 69 (by omega)] at g4
      have hsr : s < r := by
        by_cases g : r < 40
        · have := r7 g; omega
        · omega
      obtain ⟨y1, y2⟩ := r13 s q3 ⟨σ.2.1 22 2 - 1, by omega, by omega, by omega⟩
      have hcp : CP σ (101 + 16 * s) σ' 6 := CP_cg (fun _ _ _ => rfl) (fun _ _ _ _ => rfl) (fun c _ _ => by rw [hσ, a_rs_1]) (fun c j _ _ => by rw [hσ, a_rs_f (by omega)]) (CP_cp (σ := σ) (a := 6) (b := 101 + 16 * s) (by omega))
      have hwf : kp_wf σ' 6 := kp_wf_congr (σ := kp_cp σ 6 (101 + 16 * s)) (fun c _ _ => by rw [hσ, a_rs_1]) (fun c j _ _ => by rw [hσ, a_rs_f (by omega)]) (kp_cp_wf (by omega) hR.1.1 (r11 s hsr))
      have hkr := KR_CP (r11 s hsr) y1 hcp
      have hki := KI_CP (r11 s hsr) y2 hcp
      have e1 : ∀ c, c ≠ 69 → σ2.1 c = σ'.1 c := fun c hc => by rw [g4, k_AN hc]; rfl
      have e2 : ∀ c j, ¬ (c = 68 ∧ j = 5) → σ2.2.1 c j = σ'.2.1 c j := fun c j hj => by rw [g4]; show (k_sI σ' 68 5 _).2.1 c j = _; rw [k_IN hj]
      have e3 : σ2.2.2 = σ.2.2 := by rw [g4, hσ]; rfl
      have e69 : σ2.1 69 = j_cpy (σ.1 70) (σ.1 69) ((s : Int) * 1733) 0 1733 := by rw [g4, k_AA]
      have e5 : σ2.2.1 68 5 = σ.2.1 22 2 - 1 := by rw [g4]; show (k_sI σ' 68 5 _).2.1 68 5 = _; rw [k_II]
      have h1 : ∀ c, (c < 6 ∨ 21 < c) → c ≠ 69 → σ2.1 c = σ.1 c := fun c hc h9 => (e1 c h9).trans (f1 c hc)
      have h2 : ∀ c j, (c < 6 ∨ 21 < c) → ¬ (c = 22 ∧ (j = 1 ∨ j = 2)) → ¬ (c = 68 ∧ j = 5) → σ2.2.1 c j = σ.2.1 c j := fun c j hc hj h9 => (e2 c j h9).trans (f2 c j hc hj)
      obtain ⟨v1, v2, _⟩ := KR_rg hwf hkr
      obtain ⟨R1, R2, R3, R4, R5, R6, R7⟩ := hR
      refine ⟨⟨kp_wf_congr (fun c _ _ => e1 c (by omega)) (fun c j _ _ => e2 c j (by omega)) hwf, KR_congr (fun i i0 i1 => ?_) v1 (fun h h0 h1 => by have := v2 h h0 h1; omega) (fun c _ _ => e1 c (by omega)) (fun c j _ _ => e2 c j (by omega)) hkr, KI_congr (fun c _ _ => e1 c (by omega)) (fun c j _ _ => e2 c j (by omega)) hki, fun i => ?_⟩, ⟨r, r1, r2, by rw [e3]; exact r3, by rw [e3]; exact r4, ?_⟩, RName_cg (h1 _ (by omega) (by omega)) (h1 _ (by omega) (by omega)) (h1 _ (by omega) (by omega)) (h2 _ _ (by omega) (by omega) (by omega)) R3, RPass_cg (h1 _ (by omega) (by omega)) (h1 _ (by omega) (by omega)) (h1 _ (by omega) (by omega)) (h1 _ (by omega) (by omega)) (h2 _ _ (by omega) (by omega) (by omega)) (h2 _ _ (by omega) (by omega) (by omega)) R4, RPart_cg (fun c _ _ => h1 c (by omega) (by omega)) (fun c _ _ => h1 c (by omega) (by omega)) (h2 _ _ (by omega) (by omega) (by omega)) (h2 _ _ (by omega) (by omega) (by omega)) R5, RSmall_cg (fun j _ _ => h2 5 j (by omega) (by omega) (by omega)) (fun j _ => h2 68 j (by omega) (by omega) (by omega)) R6, RIdx_cg (fun c _ _ _ => h1 c (by omega) (by omega)) (fun c j _ => h2 c j (by omega) (by omega) (by omega)) (fun c _ => h1 c (by omega) (by omega)) (fun j _ => h2 68 j (by omega) (by omega) (by omega)) (by rw [e3]) R7⟩
      · show σ2.1 69 i = σ.1 70 (1733 * (s : Int) + i)
        rw [e69]; unfold j_cpy
        rw [if_pos (by omega), show (s : Int) * 1733 + (i - 0) = 1733 * (s : Int) + i by omega]
      · rw [e69]; unfold j_cpy; split
        · exact r12 _
        · exact R1.2.2.2 i
      · rw [e2 22 1 (by omega), e2 22 2 (by omega), e2 68 4 (by omega), e5, h1 70 (by omega) (by omega), n1, nb2, x4]
        refine ⟨by omega, by omega, fun g => ?_, rfl, r9, by omega, fun t ht => kp_wf_congr (fun c _ _ => h1 c (by omega) (by omega)) (fun c j _ _ => h2 c j (by omega) (by omega) (by omega)) (r11 t ht), r12, fun t ht hj => ?_⟩
        · have := r7 g; omega
        · obtain ⟨j, j0, j1, j2⟩ := hj
          have htr : t < r := by
            by_cases g : r < 40
            · have := r7 g; omega
            · omega
          obtain ⟨z1, z2⟩ := r13 t ht ⟨j, j0, by omega, j2⟩
          obtain ⟨u1, u2, _⟩ := KR_rg (r11 t htr) z1
          exact ⟨KR_congr (fun _ _ _ => rfl) u1 (fun h h0 h1 => by have := u2 h h0 h1; omega) (fun c _ _ => h1 c (by omega) (by omega)) (fun c j _ _ => h2 c j (by omega) (by omega) (by omega)) z1, KI_congr (fun c _ _ => h1 c (by omega) (by omega)) (fun c j _ _ => h2 c j (by omega) (by omega) (by omega)) z2⟩
