/-- where word k goes -/
def mv_to (i m j k : Int) : Int := if i ≤ k ∧ k < i + m then j + k - i else if (if k < i then k else k - m) < j then (if k < i then k else k - m) else (if k < i then k else k - m) + m
theorem mv_c {i m j k : Int} (hm : 0 ≤ m) : (i ≤ k ∧ k < i + m ∧ mv_to i m j k = j + k - i) ∨ (k < i ∧ k < j ∧ mv_to i m j k = k) ∨ (k < i ∧ j ≤ k ∧ mv_to i m j k = k + m) ∨ (i + m ≤ k ∧ k - m < j ∧ mv_to i m j k = k - m) ∨ (i + m ≤ k ∧ j ≤ k - m ∧ mv_to i m j k = k) := by
  unfold mv_to
  by_cases a : i ≤ k ∧ k < i + m
  · rw [if_pos a]; exact Or.inl ⟨a.1, a.2, rfl⟩
  · rw [if_neg a]
    by_cases b : k < i
    · rw [if_pos b]
      by_cases c : k < j
      · rw [if_pos c]; exact Or.inr (Or.inl ⟨b, c, rfl⟩)
      · rw [if_neg c]; exact Or.inr (Or.inr (Or.inl ⟨b, by omega, rfl⟩))
    · rw [if_neg b]
      by_cases c : k - m < j
      · rw [if_pos c]; exact Or.inr (Or.inr (Or.inr (Or.inl ⟨by omega, c, rfl⟩)))
      · rw [if_neg c]; exact Or.inr (Or.inr (Or.inr (Or.inr ⟨by omega, by omega, by omega⟩)))
theorem mv_inj {i m j k k' : Int} (hm : 0 ≤ m) (h : mv_to i m j k = mv_to i m j k') : k = k' := by
  rcases mv_c (i := i) (j := j) (k := k) hm with a | a | a | a | a <;> rcases mv_c (i := i) (j := j) (k := k') hm with b | b | b | b | b <;> omega
theorem mv_inv {i m j t : Int} (hm : 0 ≤ m) : mv_to i m j (mv_to j m i t) = t := by
  have a := mv_c (i := j) (j := i) (k := t) hm
  obtain ⟨k, hk⟩ : ∃ k, k = mv_to j m i t := ⟨_, rfl⟩
  rw [← hk] at a ⊢
  have b := mv_c (i := i) (j := j) (k := k) hm
  rcases a with a | a | a | a | a <;> rcases b with b | b | b | b | b <;> omega
theorem mv_in {i m j k W : Int} (hm : 0 ≤ m) (hi : 0 ≤ i) (hj : 0 ≤ j) (hj1 : j + m ≤ W) (hi1 : i + m ≤ W) (h0 : 0 ≤ k) (h1 : k < W) : 0 ≤ mv_to i m j k ∧ mv_to i m j k < W := by
  rcases mv_c (i := i) (j := j) (k := k) hm with a | a | a | a | a <;> omega
theorem f_mv_to {w : Int → Int} {i m j t : Int} : f_mv w i m j t = w (mv_to j m i t) := by
  unfold f_mv mv_to
  by_cases a : j ≤ t ∧ t < j + m
  · rw [if_pos a, if_pos a, show i + (t - j) = i + t - j by omega]
  · rw [if_neg a, if_neg a]
    split
    · split <;> rfl
    · split <;> rfl
def mv_g (i m j : Int) : Int → Int := fun x => if 0 < x then mv_to i m j (x - 1) + 1 else x
theorem mv_sh {i m j x y : Int} (hm : 0 ≤ m) (hi : 0 ≤ i) (hj : 0 ≤ j) (hx : 0 ≤ x) : f_shW i m j y x = mv_g i m j x := by
  unfold mv_g f_shW
  by_cases a : 0 < x
  · rw [if_pos a]
    have b := mv_c (i := i) (j := j) (k := x - 1) hm
    by_cases c : i < x ∧ x ≤ i + m
    · rw [if_pos c]; omega
    · rw [if_neg c]
      by_cases d : i < x
      · rw [if_pos d]
        by_cases e : j < x - m
        · rw [if_pos e]; omega
        · rw [if_neg e]; omega
      · rw [if_neg d]
        by_cases e : j < x
        · rw [if_pos e]; omega
        · rw [if_neg e]; omega
  · rw [if_neg a, if_neg (by omega), if_neg (by omega), if_neg (by omega)]
theorem mv_g_in {i m j x W : Int} (hm : 0 ≤ m) (hi : 0 ≤ i) (hj : 0 ≤ j) (hj1 : j + m ≤ W) (hi1 : i + m ≤ W) (h0 : 0 ≤ x) (h1 : x ≤ W) : 0 ≤ mv_g i m j x ∧ mv_g i m j x ≤ W := by
  unfold mv_g
  by_cases a : 0 < x
  · rw [if_pos a]; have := mv_in hm hi hj hj1 hi1 (k := x - 1) (by omega) (by omega); omega
  · rw [if_neg a]; omega
def mv_ok (W i m j : Int) : Prop := 0 ≤ i ∧ i ≤ W ∧ m ≤ W - i ∧ 0 ≤ j ∧ j ≤ W - m
def mv_C (n : Nat) (σ : k_St) (i m j r : Int) (n' : Nat) (σ' : k_St) : Prop := (m < 0 ∧ r = -14 ∧ n' = n ∧ σ' = k_sI σ 5 12 4) ∨ (0 ≤ m ∧ ¬ mv_ok (σ.2.1 6 1) i m j ∧ r = -13 ∧ n' = n ∧ σ' = k_sI σ 5 12 3) ∨ (m = 0 ∧ mv_ok (σ.2.1 6 1) i m j ∧ r = 0 ∧ n' = n ∧ σ' = k_sI σ 5 12 0) ∨ (0 < m ∧ mv_ok (σ.2.1 6 1) i m j ∧ r = m ∧ ∃ σs, SV n (k_sI σ 5 12 0) n' σs ∧ σ' = kp_mov σs i m j)
set_option maxHeartbeats 4000000 in
theorem c_move {G : j_G} {X : k_X} {n : Nat} {σ : k_St} (hR : RR n σ) {i : Int} (hi : -2147483648 ≤ i ∧ i ≤ 2147483647) {m : Int} (hm : -2147483648 ≤ m ∧ m ≤ 2147483647) {j : Int} (hj : -2147483648 ≤ j ∧ j ≤ 2147483647)  : k_run G X mX11_move [.ref 5, j_i i, j_i m, j_i j] n σ 16 1618 (fun v n' σ' => ∃ r : Int, v = some (j_i r) ∧ mv_C n σ i m j r n' σ') := by
  obtain ⟨hK, hAc, hNm, hPs, hPt, hSm, hIx⟩ := id hR
  have hn := RR_n hR
  have hk := hK.1
  have hwh : h_wf σ 8 := hk.2.1
  have hwm : m_wf σ 16 := hk.2.2
  have hW : 0 ≤ σ.2.1 6 1 ∧ σ.2.1 6 1 ≤ 300 := hk.1
  have hfl := hSm.1
  refine k_enter (by decide +kernel) (Nat.le_of_ble_eq_true rfl) ?_
  show j_at _ _ _ [(0, .ref 5), (1, j_i i), (2, j_i m), (3, j_i j)] [] _ _ _ _
  refine a_iload_n (pc := 0) (i := 2) (by decide +kernel) rfl ?_
  refine a_if_ge (pc := 1) (off := 9) (tgt := 10) (by decide +kernel) (by decide) (by omega) (fun c1 => ?_) (fun c1 => ?_)
  · refine a_iload_n (pc := 10) (i := 1) (by decide +kernel) rfl ?_
    refine a_iload_n (pc := 11) (i := 2) (by decide +kernel) rfl ?_
    refine a_aload_n (pc := 12) (i := 0) (by decide +kernel) rfl ?_
    refine b_getR (pc := 13) (b := 6) fl_X11_12 (by decide +kernel) (sh_5 hn) rfl ?_
    refine b_getI (pc := 16) fl_X11_95 (by decide +kernel) (sh_6 hn) rfl ?_
    refine b_callS (pc := 19) (c' := 0) (sl' := 0) [j_i i, j_i m, j_i (σ.2.1 6 1)] [] ml_X11_116 (by decide +kernel) rfl rfl (Nat.le_of_ble_eq_true rfl) (j_fitI rfl rfl) (s_isWithin (by omega) (by omega) (by omega)) (fun v n' σ' hq => ?_)
    obtain ⟨x, rfl, e1, e2, hx⟩ := hq
    rw [e1, e2]; clear e1 e2
    rcases hx with ⟨rfl, p19⟩ | ⟨rfl, p19⟩
    · show j_at _ _ _ [(0, .ref 5), (1, j_i i), (2, j_i m), (3, j_i j)] [j_i 1] _ _ _ _
      refine a_if_eq (pc := 22) (off := 20) (tgt := 42) (by decide +kernel) (by decide) (by omega) (fun c22 => ?_) (fun c22 => ?_)
      · exact absurd c22 (by decide)
      · refine a_iload_n (pc := 25) (i := 3) (by decide +kernel) rfl ?_
        refine a_if_lt (pc := 26) (off := 16) (tgt := 42) (by decide +kernel) (by decide) (by omega) (fun c26 => ?_) (fun c26 => ?_)
        · refine a_aload_n (pc := 42) (i := 0) (by decide +kernel) rfl ?_
          refine a_iconst (pc := 43) (n := 3) (by decide +kernel) ?_
          refine b_callV (pc := 44) (c' := 0) (sl' := 0) [j_i 3] [] ml_X11_113 (by decide +kernel) rfl rfl (sh_5 hn) rfl rfl (Nat.le_of_ble_eq_true rfl) (j_fitI rfl rfl) (c_failed hn) (fun v n' σ' hq => ?_)
          obtain ⟨rfl, e1, e2⟩ := hq
          rw [e1, e2]; clear e1 e2
          show j_at _ _ _ [(0, .ref 5), (1, j_i i), (2, j_i m), (3, j_i j)] [j_i (-10 - 3)] _ _ _ _
          refine a_ireturn (pc := 47) (by decide +kernel) rfl ?_
          refine k_ret ?_
          exact ⟨_, rfl, Or.inr (Or.inl ⟨by omega, by unfold mv_ok; omega, rfl, rfl, rfl⟩)⟩
        · refine a_iload_n (pc := 29) (i := 3) (by decide +kernel) rfl ?_
          refine a_aload_n (pc := 30) (i := 0) (by decide +kernel) rfl ?_
          refine b_getR (pc := 31) (b := 6) fl_X11_12 (by decide +kernel) (sh_5 hn) rfl ?_
          refine b_getI (pc := 34) fl_X11_95 (by decide +kernel) (sh_6 hn) rfl ?_
          refine a_iload_n (pc := 37) (i := 2) (by decide +kernel) rfl ?_
          refine a_isub (pc := 38) (by decide +kernel) ?_
          refine a_icmp_le (pc := 39) (off := 9) (tgt := 48) (by decide +kernel) (by decide) (by omega) (by omega) (fun c39 => ?_) (fun c39 => ?_)
          · refine a_aload_n (pc := 48) (i := 0) (by decide +kernel) rfl ?_
            refine a_iconst (pc := 49) (n := 0) (by decide +kernel) ?_
            refine b_putI (pc := 50) fl_X11_82 (by decide +kernel) (sh_5 hn) rfl rfl rfl ?_
            obtain ⟨σ1, hσ1⟩ : ∃ z, z = k_sI σ 5 12 0 := ⟨_, rfl⟩
            rw [← hσ1]
            have hCS : CS σ σ1 := ⟨by rw [hσ1]; rfl, fun c j h => by rw [hσ1, k_IN (by omega)], by rw [hσ1]; rfl⟩
            obtain ⟨hK1, hAc1, -⟩ := CS_R hCS hR
            have hW1 : σ1.2.1 6 1 = σ.2.1 6 1 := hCS.2.1 6 1 (by omega)
            refine a_iload_n (pc := 53) (i := 2) (by decide +kernel) rfl ?_
            refine a_if_le (pc := 54) (off := 24) (tgt := 78) (by decide +kernel) (by decide) (by omega) (fun c54 => ?_) (fun c54 => ?_)
            · refine a_iload_n (pc := 78) (i := 2) (by decide +kernel) rfl ?_
              refine a_ireturn (pc := 79) (by decide +kernel) rfl ?_
              refine k_ret ?_
              exact ⟨_, rfl, Or.inr (Or.inr (Or.inl ⟨by omega, by unfold mv_ok; omega, by omega, rfl, hσ1⟩))⟩
            · refine a_aload_n (pc := 57) (i := 0) (by decide +kernel) rfl ?_
              refine b_getR (pc := 58) (b := 22) fl_X11_29 (by decide +kernel) (sh_5 hn) rfl ?_
              refine a_aload_n (pc := 61) (i := 0) (by decide +kernel) rfl ?_
              refine b_getR (pc := 62) (b := 6) fl_X11_12 (by decide +kernel) (sh_5 hn) rfl ?_
              refine b_callV (pc := 65) (c' := 16) (sl' := 1618) [.ref 6] [] ml_X11_98 (by decide +kernel) rfl rfl (sh_22 hn) rfl rfl (Nat.le_of_ble_eq_true rfl) (j_fitI rfl rfl) (s_save hK1.1 hAc1) (fun v n' σ' hq => ?_)
              obtain ⟨σ2, hσ2⟩ : ∃ z, z = σ' := ⟨_, rfl⟩
              rw [← hσ2] at hq ⊢
              obtain ⟨rfl, hsv⟩ := hq
              clear hσ2
              obtain ⟨sv1, sv2, hn9⟩ := SV_e hsv
              have hn : 101 ≤ n' := hn9
              have hwm : m_wf σ2 16 := m_wf_congr (sv1 _ (by omega)) (sv1 _ (by omega)) (sv1 _ (by omega)) (sv1 _ (by omega)) (sv1 _ (by omega)) (sv2 _ _ (by omega) (by omega)) hK1.1.2.2
              have hW2 : σ2.2.1 6 1 = σ.2.1 6 1 := by rw [sv2 6 1 (by omega) (by omega)]; exact hW1
              show j_at _ _ _ [(0, .ref 5), (1, j_i i), (2, j_i m), (3, j_i j)] [] _ _ _ _
              refine a_aload_n (pc := 68) (i := 0) (by decide +kernel) rfl ?_
              refine b_getR (pc := 69) (b := 6) fl_X11_12 (by decide +kernel) (sh_5 hn) rfl ?_
              refine a_iload_n (pc := 72) (i := 1) (by decide +kernel) rfl ?_
              refine a_iload_n (pc := 73) (i := 2) (by decide +kernel) rfl ?_
              refine a_iload_n (pc := 74) (i := 3) (by decide +kernel) rfl ?_
              refine b_callV (pc := 75) (c' := 0) (sl' := 0) [j_i i, j_i m, j_i j] [] ml_X11_120 (by decide +kernel) rfl rfl (sh_6 hn) rfl rfl (Nat.le_of_ble_eq_true rfl) (j_fitI rfl rfl) (s_shiftWords hn (by rw [hW2]; exact hW) hwm (by omega) (by rw [hW2]; omega) (by omega) (by omega) (by rw [hW2]; omega)) (fun v n' σ' hq => ?_)
              obtain ⟨rfl, e1, e2⟩ := hq
              rw [e1, e2]; clear e1 e2
              obtain ⟨σ3, hσ3⟩ : ∃ z, z = kp_mov σ2 i m j := ⟨_, rfl⟩
              rw [← hσ3]
              show j_at _ _ _ [(0, .ref 5), (1, j_i i), (2, j_i m), (3, j_i j)] [] _ _ _ _
              refine a_iload_n (pc := 78) (i := 2) (by decide +kernel) rfl ?_
              refine a_ireturn (pc := 79) (by decide +kernel) rfl ?_
              refine k_ret ?_
              exact ⟨_, rfl, Or.inr (Or.inr (Or.inr ⟨by omega, by unfold mv_ok; omega, rfl, σ2, by rw [← hσ1]; exact hsv, hσ3⟩))⟩
          · refine a_aload_n (pc := 42) (i := 0) (by decide +kernel) rfl ?_
            refine a_iconst (pc := 43) (n := 3) (by decide +kernel) ?_
            refine b_callV (pc := 44) (c' := 0) (sl' := 0) [j_i 3] [] ml_X11_113 (by decide +kernel) rfl rfl (sh_5 hn) rfl rfl (Nat.le_of_ble_eq_true rfl) (j_fitI rfl rfl) (c_failed hn) (fun v n' σ' hq => ?_)
            obtain ⟨rfl, e1, e2⟩ := hq
            rw [e1, e2]; clear e1 e2
            show j_at _ _ _ [(0, .ref 5), (1, j_i i), (2, j_i m), (3, j_i j)] [j_i (-10 - 3)] _ _ _ _
            refine a_ireturn (pc := 47) (by decide +kernel) rfl ?_
            refine k_ret ?_
            exact ⟨_, rfl, Or.inr (Or.inl ⟨by omega, by unfold mv_ok; omega, rfl, rfl, rfl⟩)⟩
    · show j_at _ _ _ [(0, .ref 5), (1, j_i i), (2, j_i m), (3, j_i j)] [j_i 0] _ _ _ _
      refine a_if_eq (pc := 22) (off := 20) (tgt := 42) (by decide +kernel) (by decide) (by omega) (fun c22 => ?_) (fun c22 => ?_)
      · refine a_aload_n (pc := 42) (i := 0) (by decide +kernel) rfl ?_
        refine a_iconst (pc := 43) (n := 3) (by decide +kernel) ?_
        refine b_callV (pc := 44) (c' := 0) (sl' := 0) [j_i 3] [] ml_X11_113 (by decide +kernel) rfl rfl (sh_5 hn) rfl rfl (Nat.le_of_ble_eq_true rfl) (j_fitI rfl rfl) (c_failed hn) (fun v n' σ' hq => ?_)
        obtain ⟨rfl, e1, e2⟩ := hq
        rw [e1, e2]; clear e1 e2
        show j_at _ _ _ [(0, .ref 5), (1, j_i i), (2, j_i m), (3, j_i j)] [j_i (-10 - 3)] _ _ _ _
        refine a_ireturn (pc := 47) (by decide +kernel) rfl ?_
        refine k_ret ?_
        exact ⟨_, rfl, Or.inr (Or.inl ⟨by omega, by unfold mv_ok; omega, rfl, rfl, rfl⟩)⟩
      · exact absurd c22 (by decide)
  · refine a_aload_n (pc := 4) (i := 0) (by decide +kernel) rfl ?_
    refine a_iconst (pc := 5) (n := 4) (by decide +kernel) ?_
    refine b_callV (pc := 6) (c' := 0) (sl' := 0) [j_i 4] [] ml_X11_113 (by decide +kernel) rfl rfl (sh_5 hn) rfl rfl (Nat.le_of_ble_eq_true rfl) (j_fitI rfl rfl) (c_failed hn) (fun v n' σ' hq => ?_)
    obtain ⟨rfl, e1, e2⟩ := hq
    rw [e1, e2]; clear e1 e2
    show j_at _ _ _ [(0, .ref 5), (1, j_i i), (2, j_i m), (3, j_i j)] [j_i (-10 - 4)] _ _ _ _
    refine a_ireturn (pc := 9) (by decide +kernel) rfl ?_
    refine k_ret ?_
    exact ⟨_, rfl, Or.inl ⟨by omega, rfl, rfl, rfl⟩⟩
