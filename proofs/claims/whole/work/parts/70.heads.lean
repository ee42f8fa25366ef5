def hd_C (n : Nat) (σ : k_St) (r : Int) (n' : Nat) (σ' : k_St) : Prop := (¬ nh_new σ ∧ r = -3 ∧ n' = n ∧ σ' = σ) ∨ (nh_new σ ∧ 30 ≤ σ.2.1 8 3 ∧ r = -4 ∧ n' = n ∧ σ' = σ) ∨ (nh_new σ ∧ σ.2.1 8 3 < 30 ∧ r = σ.2.1 8 3 ∧ ∃ σs, SV n σ n' σs ∧ σ' = h_add σs 30)
set_option maxHeartbeats 4000000 in
theorem c_head {G : j_G} {X : k_X} {n : Nat} {σ : k_St} (hR : RR n σ)  : k_run G X mX11_head [.ref 5] n σ 16 1618 (fun v n' σ' => ∃ r : Int, v = some (j_i r) ∧ hd_C n σ r n' σ') := by
  obtain ⟨hK, hAc, hNm, hPs, hPt, hSm, hIx⟩ := id hR
  have hn := RR_n hR
  have hk := hK.1
  have hwh : h_wf σ 8 := hk.2.1
  have hwm : m_wf σ 16 := hk.2.2
  have hW : 0 ≤ σ.2.1 6 1 ∧ σ.2.1 6 1 ≤ 300 := hk.1
  have hfl := hSm.1
  have hwn : r_wf σ 30 1 := RN_wf hNm
  have hev := hwh.1
  refine k_enter (by decide +kernel) (Nat.le_of_ble_eq_true rfl) ?_
  show j_at _ _ _ [(0, .ref 5)] [] _ _ _ _
  refine a_aload_n (pc := 0) (i := 0) (by decide +kernel) rfl ?_
  refine b_callV (pc := 1) (c' := 0) (sl' := 0) [] [] ml_X11_167 (by decide +kernel) rfl rfl (sh_5 hn) rfl rfl (Nat.le_of_ble_eq_true rfl) (j_fitI rfl rfl) (c_isNewHead hn hwh hwn) (fun v n' σ' hq => ?_)
  obtain ⟨x, rfl, e1, e2, hx⟩ := hq
  rw [e1, e2]; clear e1 e2
  rcases hx with ⟨rfl, p1⟩ | ⟨rfl, p1⟩
  · show j_at _ _ _ [(0, .ref 5)] [j_i 1] _ _ _ _
    refine a_if_ne (pc := 4) (off := 6) (tgt := 10) (by decide +kernel) (by decide) (by omega) (fun c4 => ?_) (fun c4 => ?_)
    · refine a_aload_n (pc := 10) (i := 0) (by decide +kernel) rfl ?_
      refine b_getR (pc := 11) (b := 8) fl_X11_20 (by decide +kernel) (sh_5 hn) rfl ?_
      refine b_getI (pc := 14) fl_X11_171 (by decide +kernel) (sh_8 hn) rfl ?_
      refine a_bipush (pc := 17) (n := 30) (by decide +kernel) rfl ?_
      refine a_icmp_lt (pc := 19) (off := 6) (tgt := 25) (by decide +kernel) (by decide) (by omega) (by omega) (fun c19 => ?_) (fun c19 => ?_)
      · refine a_aload_n (pc := 25) (i := 0) (by decide +kernel) rfl ?_
        refine b_getR (pc := 26) (b := 22) fl_X11_29 (by decide +kernel) (sh_5 hn) rfl ?_
        refine a_aload_n (pc := 29) (i := 0) (by decide +kernel) rfl ?_
        refine b_getR (pc := 30) (b := 6) fl_X11_12 (by decide +kernel) (sh_5 hn) rfl ?_
        refine b_callV (pc := 33) (c' := 16) (sl' := 1618) [.ref 6] [] ml_X11_98 (by decide +kernel) rfl rfl (sh_22 hn) rfl rfl (Nat.le_of_ble_eq_true rfl) (j_fitI rfl rfl) (s_save hk hAc) (fun v n' σ' hq => ?_)
        obtain ⟨σ1, hσ1⟩ : ∃ z, z = σ' := ⟨_, rfl⟩
        rw [← hσ1] at hq ⊢
        obtain ⟨rfl, hsv⟩ := hq
        clear hσ1
        obtain ⟨sv1, sv2, hn9⟩ := SV_e hsv
        have hn : 101 ≤ n' := hn9
        have hwm : m_wf σ1 16 := m_wf_congr (sv1 _ (by omega)) (sv1 _ (by omega)) (sv1 _ (by omega)) (sv1 _ (by omega)) (sv1 _ (by omega)) (sv2 _ _ (by omega) (by omega)) hwm
        have hwh : h_wf σ1 8 := h_wf_congr (sv1 _ (by omega)) (sv1 _ (by omega)) (sv1 _ (by omega)) (sv1 _ (by omega)) (sv1 _ (by omega)) (sv2 _ _ (by omega) (by omega)) hwh
        show j_at _ _ _ [(0, .ref 5)] [] _ _ _ _
        refine a_aload_n (pc := 36) (i := 0) (by decide +kernel) rfl ?_
        refine b_getR (pc := 37) (b := 8) fl_X11_20 (by decide +kernel) (sh_5 hn) rfl ?_
        refine a_aload_n (pc := 40) (i := 0) (by decide +kernel) rfl ?_
        refine b_getR (pc := 41) (b := 30) fl_X11_45 (by decide +kernel) (sh_5 hn) rfl ?_
        have hwn : r_wf σ1 30 1 := r_wf_congr (sv1 _ (by omega)) (sv1 _ (by omega)) hwn
        refine b_callV (pc := 44) (c' := 0) (sl' := 0) [.ref 30] [] ml_X11_176 (by decide +kernel) rfl rfl (sh_8 hn) rfl rfl (Nat.le_of_ble_eq_true rfl) (j_fitI rfl rfl) (s_hadd hn hwh (by rw [sv2 8 3 (by omega) (by omega)]; omega) (rA_30 hn) hwn (by omega) (by omega)) (fun v n' σ' hq => ?_)
        obtain ⟨hv1, e1, e2⟩ := hq
        rw [hv1, e1, e2]; clear e1 e2
        obtain ⟨σ2, hσ2⟩ : ∃ z, z = h_add σ1 30 := ⟨_, rfl⟩
        rw [← hσ2, sv2 8 3 (by omega) (by omega)]
        show j_at _ _ _ [(0, .ref 5)] [j_i (σ.2.1 8 3)] _ _ _ _
        refine a_ireturn (pc := 47) (by decide +kernel) rfl ?_
        refine k_ret ?_
        exact ⟨_, rfl, Or.inr (Or.inr ⟨p1, by omega, rfl, σ1, hsv, hσ2⟩)⟩
      · refine a_bipush (pc := 22) (n := (-4)) (by decide +kernel) rfl ?_
        refine a_ireturn (pc := 24) (by decide +kernel) rfl ?_
        refine k_ret ?_
        exact ⟨_, rfl, by first | exact Or.inl ⟨p1, rfl, rfl, rfl⟩ | exact Or.inr (Or.inl ⟨p1, by omega, rfl, rfl, rfl⟩)⟩
    · exact absurd c4 (by decide)
  · show j_at _ _ _ [(0, .ref 5)] [j_i 0] _ _ _ _
    refine a_if_ne (pc := 4) (off := 6) (tgt := 10) (by decide +kernel) (by decide) (by omega) (fun c4 => ?_) (fun c4 => ?_)
    · exact absurd c4 (by decide)
    · refine a_bipush (pc := 7) (n := (-3)) (by decide +kernel) rfl ?_
      refine a_ireturn (pc := 9) (by decide +kernel) rfl ?_
      refine k_ret ?_
      exact ⟨_, rfl, by first | exact Or.inl ⟨p1, rfl, rfl, rfl⟩ | exact Or.inr (Or.inl ⟨p1, by omega, rfl, rfl, rfl⟩)⟩
def sortAs_C (n : Nat) (σ : k_St) (h r : Int) (n' : Nat) (σ' : k_St) : Prop := (¬ h_is σ h ∧ r = -1 ∧ n' = n ∧ σ' = σ) ∨ (h_is σ h ∧ ¬ r_tidy σ 30 1 0 ∧ r = -3 ∧ n' = n ∧ σ' = σ) ∨ (h_is σ h ∧ r_tidy σ 30 1 0 ∧ r = 1 ∧ ∃ σs, SV n σ n' σs ∧ σ' = r_cpS σs 12 30 h 0 (σs.1 32 0))
set_option maxHeartbeats 4000000 in
theorem c_sortAs {G : j_G} {X : k_X} {n : Nat} {σ : k_St} (hR : RR n σ) {h : Int} (hh : -2147483648 ≤ h ∧ h ≤ 2147483647)  : k_run G X mX11_sortAs [.ref 5, j_i h] n σ 16 1618 (fun v n' σ' => ∃ r : Int, v = some (j_i r) ∧ sortAs_C n σ h r n' σ') := by
  obtain ⟨hK, hAc, hNm, hPs, hPt, hSm, hIx⟩ := id hR
  have hn := RR_n hR
  have hk := hK.1
  have hwh : h_wf σ 8 := hk.2.1
  have hwm : m_wf σ 16 := hk.2.2
  have hW : 0 ≤ σ.2.1 6 1 ∧ σ.2.1 6 1 ≤ 300 := hk.1
  have hfl := hSm.1
  have hwn : r_wf σ 30 1 := RN_wf hNm
  have hev := hwh.1
  refine k_enter (by decide +kernel) (Nat.le_of_ble_eq_true rfl) ?_
  show j_at _ _ _ [(0, .ref 5), (1, j_i h)] [] _ _ _ _
  refine a_aload_n (pc := 0) (i := 0) (by decide +kernel) rfl ?_
  refine b_getR (pc := 1) (b := 8) fl_X11_20 (by decide +kernel) (sh_5 hn) rfl ?_
  refine a_iload_n (pc := 4) (i := 1) (by decide +kernel) rfl ?_
  refine b_callV (pc := 5) (c' := 0) (sl' := 0) [j_i h] [] ml_X11_180 (by decide +kernel) rfl rfl (sh_8 hn) rfl rfl (Nat.le_of_ble_eq_true rfl) (j_fitI rfl rfl) (s_hhas hn hwh (by omega)) (fun v n' σ' hq => ?_)
  obtain ⟨x, rfl, e1, e2, hx⟩ := hq
  rw [e1, e2]; clear e1 e2
  rcases hx with ⟨rfl, p5⟩ | ⟨rfl, p5⟩
  · show j_at _ _ _ [(0, .ref 5), (1, j_i h)] [j_i 1] _ _ _ _
    have i5 := bi_y p5
    have u5 := p5.1
    have w5 := p5.2.1
    refine a_if_ne (pc := 8) (off := 5) (tgt := 13) (by decide +kernel) (by decide) (by omega) (fun c8 => ?_) (fun c8 => ?_)
    · refine a_aload_n (pc := 13) (i := 0) (by decide +kernel) rfl ?_
      refine b_getR (pc := 14) (b := 30) fl_X11_45 (by decide +kernel) (sh_5 hn) rfl ?_
      refine a_iconst (pc := 17) (n := 0) (by decide +kernel) ?_
      refine b_callV (pc := 18) (c' := 0) (sl' := 0) [j_i 0] [] ml_X11_183 (by decide +kernel) rfl rfl (sh_30 hn) rfl rfl (Nat.le_of_ble_eq_true rfl) (j_fitI rfl rfl) (s_isTidy (rA_30 hn) hwn (by omega)) (fun v n' σ' hq => ?_)
      obtain ⟨x, rfl, e1, e2, hx⟩ := hq
      rw [e1, e2]; clear e1 e2
      rcases hx with ⟨rfl, p18⟩ | ⟨rfl, p18⟩
      · show j_at _ _ _ [(0, .ref 5), (1, j_i h)] [j_i 1] _ _ _ _
        refine a_if_ne (pc := 21) (off := 6) (tgt := 27) (by decide +kernel) (by decide) (by omega) (fun c21 => ?_) (fun c21 => ?_)
        · refine a_aload_n (pc := 27) (i := 0) (by decide +kernel) rfl ?_
          refine b_getR (pc := 28) (b := 22) fl_X11_29 (by decide +kernel) (sh_5 hn) rfl ?_
          refine a_aload_n (pc := 31) (i := 0) (by decide +kernel) rfl ?_
          refine b_getR (pc := 32) (b := 6) fl_X11_12 (by decide +kernel) (sh_5 hn) rfl ?_
          refine b_callV (pc := 35) (c' := 16) (sl' := 1618) [.ref 6] [] ml_X11_98 (by decide +kernel) rfl rfl (sh_22 hn) rfl rfl (Nat.le_of_ble_eq_true rfl) (j_fitI rfl rfl) (s_save hk hAc) (fun v n' σ' hq => ?_)
          obtain ⟨σ1, hσ1⟩ : ∃ z, z = σ' := ⟨_, rfl⟩
          rw [← hσ1] at hq ⊢
          obtain ⟨rfl, hsv⟩ := hq
          clear hσ1
          obtain ⟨sv1, sv2, hn9⟩ := SV_e hsv
          have hn : 101 ≤ n' := hn9
          have hwm : m_wf σ1 16 := m_wf_congr (sv1 _ (by omega)) (sv1 _ (by omega)) (sv1 _ (by omega)) (sv1 _ (by omega)) (sv1 _ (by omega)) (sv2 _ _ (by omega) (by omega)) hwm
          have hwh : h_wf σ1 8 := h_wf_congr (sv1 _ (by omega)) (sv1 _ (by omega)) (sv1 _ (by omega)) (sv1 _ (by omega)) (sv1 _ (by omega)) (sv2 _ _ (by omega) (by omega)) hwh
          show j_at _ _ _ [(0, .ref 5), (1, j_i h)] [] _ _ _ _
          refine a_aload_n (pc := 38) (i := 0) (by decide +kernel) rfl ?_
          refine b_getR (pc := 39) (b := 8) fl_X11_20 (by decide +kernel) (sh_5 hn) rfl ?_
          refine b_getR (pc := 42) (b := 12) fl_X11_186 (by decide +kernel) (sh_8 hn) rfl ?_
          refine a_iload_n (pc := 45) (i := 1) (by decide +kernel) rfl ?_
          refine a_aload_n (pc := 46) (i := 0) (by decide +kernel) rfl ?_
          refine b_getR (pc := 47) (b := 30) fl_X11_45 (by decide +kernel) (sh_5 hn) rfl ?_
          refine a_iconst (pc := 50) (n := 0) (by decide +kernel) ?_
          have hwn : r_wf σ1 30 1 := r_wf_congr (sv1 _ (by omega)) (sv1 _ (by omega)) hwn
          refine b_callV (pc := 51) (c' := 0) (sl' := 0) [j_i h, .ref 30, j_i 0] [] ml_X11_189 (by decide +kernel) rfl rfl (sh_12 hn) rfl rfl (Nat.le_of_ble_eq_true rfl) (j_fitI rfl rfl) (s_copyRow (rA_12 hn) hwh.2.2.1 (rA_30 hn) hwn (by omega) (by omega) (by omega) (by omega) (by omega)) (fun v n' σ' hq => ?_)
          obtain ⟨rfl, e1, e2⟩ := hq
          rw [e1, e2]; clear e1 e2
          obtain ⟨σ2, hσ2⟩ : ∃ z, z = r_cpS σ1 12 30 h 0 (σ1.1 32 0) := ⟨_, rfl⟩
          rw [← hσ2]
          show j_at _ _ _ [(0, .ref 5), (1, j_i h)] [] _ _ _ _
          refine a_iconst (pc := 54) (n := 1) (by decide +kernel) ?_
          refine a_ireturn (pc := 55) (by decide +kernel) rfl ?_
          refine k_ret ?_
          exact ⟨_, rfl, Or.inr (Or.inr ⟨p5, p18, rfl, σ1, hsv, hσ2⟩)⟩
        · exact absurd c21 (by decide)
      · show j_at _ _ _ [(0, .ref 5), (1, j_i h)] [j_i 0] _ _ _ _
        refine a_if_ne (pc := 21) (off := 6) (tgt := 27) (by decide +kernel) (by decide) (by omega) (fun c21 => ?_) (fun c21 => ?_)
        · exact absurd c21 (by decide)
        · refine a_bipush (pc := 24) (n := (-3)) (by decide +kernel) rfl ?_
          refine a_ireturn (pc := 26) (by decide +kernel) rfl ?_
          refine k_ret ?_
          exact ⟨_, rfl, by first | exact Or.inl ⟨p5, rfl, rfl, rfl⟩ | exact Or.inr (Or.inl ⟨p5, p18, rfl, rfl, rfl⟩)⟩
    · exact absurd c8 (by decide)
  · show j_at _ _ _ [(0, .ref 5), (1, j_i h)] [j_i 0] _ _ _ _
    have i5 := bi_n p5
    refine a_if_ne (pc := 8) (off := 5) (tgt := 13) (by decide +kernel) (by decide) (by omega) (fun c8 => ?_) (fun c8 => ?_)
    · exact absurd c8 (by decide)
    · refine a_iconst (pc := 11) (n := (-1)) (by decide +kernel) ?_
      refine a_ireturn (pc := 12) (by decide +kernel) rfl ?_
      refine k_ret ?_
      exact ⟨_, rfl, by first | exact Or.inl ⟨p5, rfl, rfl, rfl⟩ | exact Or.inr (Or.inl ⟨p5, p18, rfl, rfl, rfl⟩)⟩
def rename_C (n : Nat) (σ : k_St) (h r : Int) (n' : Nat) (σ' : k_St) : Prop := (¬ h_is σ h ∧ r = -1 ∧ n' = n ∧ σ' = σ) ∨ (h_is σ h ∧ ¬ nh_new σ ∧ r = -3 ∧ n' = n ∧ σ' = σ) ∨ (h_is σ h ∧ nh_new σ ∧ r = 1 ∧ ∃ σs, SV n σ n' σs ∧ σ' = r_cpS σs 9 30 h 0 (σs.1 32 0))
set_option maxHeartbeats 4000000 in
theorem c_rename {G : j_G} {X : k_X} {n : Nat} {σ : k_St} (hR : RR n σ) {h : Int} (hh : -2147483648 ≤ h ∧ h ≤ 2147483647)  : k_run G X mX11_rename [.ref 5, j_i h] n σ 16 1618 (fun v n' σ' => ∃ r : Int, v = some (j_i r) ∧ rename_C n σ h r n' σ') := by
  obtain ⟨hK, hAc, hNm, hPs, hPt, hSm, hIx⟩ := id hR
  have hn := RR_n hR
  have hk := hK.1
  have hwh : h_wf σ 8 := hk.2.1
  have hwm : m_wf σ 16 := hk.2.2
  have hW : 0 ≤ σ.2.1 6 1 ∧ σ.2.1 6 1 ≤ 300 := hk.1
  have hfl := hSm.1
  have hwn : r_wf σ 30 1 := RN_wf hNm
  have hev := hwh.1
  refine k_enter (by decide +kernel) (Nat.le_of_ble_eq_true rfl) ?_
  show j_at _ _ _ [(0, .ref 5), (1, j_i h)] [] _ _ _ _
  refine a_aload_n (pc := 0) (i := 0) (by decide +kernel) rfl ?_
  refine b_getR (pc := 1) (b := 8) fl_X11_20 (by decide +kernel) (sh_5 hn) rfl ?_
  refine a_iload_n (pc := 4) (i := 1) (by decide +kernel) rfl ?_
  refine b_callV (pc := 5) (c' := 0) (sl' := 0) [j_i h] [] ml_X11_180 (by decide +kernel) rfl rfl (sh_8 hn) rfl rfl (Nat.le_of_ble_eq_true rfl) (j_fitI rfl rfl) (s_hhas hn hwh (by omega)) (fun v n' σ' hq => ?_)
  obtain ⟨x, rfl, e1, e2, hx⟩ := hq
  rw [e1, e2]; clear e1 e2
  rcases hx with ⟨rfl, p5⟩ | ⟨rfl, p5⟩
  · show j_at _ _ _ [(0, .ref 5), (1, j_i h)] [j_i 1] _ _ _ _
    have i5 := bi_y p5
    have u5 := p5.1
    have w5 := p5.2.1
    refine a_if_ne (pc := 8) (off := 5) (tgt := 13) (by decide +kernel) (by decide) (by omega) (fun c8 => ?_) (fun c8 => ?_)
    · refine a_aload_n (pc := 13) (i := 0) (by decide +kernel) rfl ?_
      refine b_callV (pc := 14) (c' := 0) (sl' := 0) [] [] ml_X11_167 (by decide +kernel) rfl rfl (sh_5 hn) rfl rfl (Nat.le_of_ble_eq_true rfl) (j_fitI rfl rfl) (c_isNewHead hn hwh hwn) (fun v n' σ' hq => ?_)
      obtain ⟨x, rfl, e1, e2, hx⟩ := hq
      rw [e1, e2]; clear e1 e2
      rcases hx with ⟨rfl, p14⟩ | ⟨rfl, p14⟩
      · show j_at _ _ _ [(0, .ref 5), (1, j_i h)] [j_i 1] _ _ _ _
        refine a_if_ne (pc := 17) (off := 6) (tgt := 23) (by decide +kernel) (by decide) (by omega) (fun c17 => ?_) (fun c17 => ?_)
        · refine a_aload_n (pc := 23) (i := 0) (by decide +kernel) rfl ?_
          refine b_getR (pc := 24) (b := 22) fl_X11_29 (by decide +kernel) (sh_5 hn) rfl ?_
          refine a_aload_n (pc := 27) (i := 0) (by decide +kernel) rfl ?_
          refine b_getR (pc := 28) (b := 6) fl_X11_12 (by decide +kernel) (sh_5 hn) rfl ?_
          refine b_callV (pc := 31) (c' := 16) (sl' := 1618) [.ref 6] [] ml_X11_98 (by decide +kernel) rfl rfl (sh_22 hn) rfl rfl (Nat.le_of_ble_eq_true rfl) (j_fitI rfl rfl) (s_save hk hAc) (fun v n' σ' hq => ?_)
          obtain ⟨σ1, hσ1⟩ : ∃ z, z = σ' := ⟨_, rfl⟩
          rw [← hσ1] at hq ⊢
          obtain ⟨rfl, hsv⟩ := hq
          clear hσ1
          obtain ⟨sv1, sv2, hn9⟩ := SV_e hsv
          have hn : 101 ≤ n' := hn9
          have hwm : m_wf σ1 16 := m_wf_congr (sv1 _ (by omega)) (sv1 _ (by omega)) (sv1 _ (by omega)) (sv1 _ (by omega)) (sv1 _ (by omega)) (sv2 _ _ (by omega) (by omega)) hwm
          have hwh : h_wf σ1 8 := h_wf_congr (sv1 _ (by omega)) (sv1 _ (by omega)) (sv1 _ (by omega)) (sv1 _ (by omega)) (sv1 _ (by omega)) (sv2 _ _ (by omega) (by omega)) hwh
          show j_at _ _ _ [(0, .ref 5), (1, j_i h)] [] _ _ _ _
          refine a_aload_n (pc := 34) (i := 0) (by decide +kernel) rfl ?_
          refine b_getR (pc := 35) (b := 8) fl_X11_20 (by decide +kernel) (sh_5 hn) rfl ?_
          refine b_getR (pc := 38) (b := 9) fl_X11_218 (by decide +kernel) (sh_8 hn) rfl ?_
          refine a_iload_n (pc := 41) (i := 1) (by decide +kernel) rfl ?_
          refine a_aload_n (pc := 42) (i := 0) (by decide +kernel) rfl ?_
          refine b_getR (pc := 43) (b := 30) fl_X11_45 (by decide +kernel) (sh_5 hn) rfl ?_
          refine a_iconst (pc := 46) (n := 0) (by decide +kernel) ?_
          have hwn : r_wf σ1 30 1 := r_wf_congr (sv1 _ (by omega)) (sv1 _ (by omega)) hwn
          refine b_callV (pc := 47) (c' := 0) (sl' := 0) [j_i h, .ref 30, j_i 0] [] ml_X11_189 (by decide +kernel) rfl rfl (sh_9 hn) rfl rfl (Nat.le_of_ble_eq_true rfl) (j_fitI rfl rfl) (s_copyRow (rA_9 hn) hwh.2.1 (rA_30 hn) hwn (by omega) (by omega) (by omega) (by omega) (by omega)) (fun v n' σ' hq => ?_)
          obtain ⟨rfl, e1, e2⟩ := hq
          rw [e1, e2]; clear e1 e2
          obtain ⟨σ2, hσ2⟩ : ∃ z, z = r_cpS σ1 9 30 h 0 (σ1.1 32 0) := ⟨_, rfl⟩
          rw [← hσ2]
          show j_at _ _ _ [(0, .ref 5), (1, j_i h)] [] _ _ _ _
          refine a_iconst (pc := 50) (n := 1) (by decide +kernel) ?_
          refine a_ireturn (pc := 51) (by decide +kernel) rfl ?_
          refine k_ret ?_
          exact ⟨_, rfl, Or.inr (Or.inr ⟨p5, p14, rfl, σ1, hsv, hσ2⟩)⟩
        · exact absurd c17 (by decide)
      · show j_at _ _ _ [(0, .ref 5), (1, j_i h)] [j_i 0] _ _ _ _
        refine a_if_ne (pc := 17) (off := 6) (tgt := 23) (by decide +kernel) (by decide) (by omega) (fun c17 => ?_) (fun c17 => ?_)
        · exact absurd c17 (by decide)
        · refine a_bipush (pc := 20) (n := (-3)) (by decide +kernel) rfl ?_
          refine a_ireturn (pc := 22) (by decide +kernel) rfl ?_
          refine k_ret ?_
          exact ⟨_, rfl, by first | exact Or.inl ⟨p5, rfl, rfl, rfl⟩ | exact Or.inr (Or.inl ⟨p5, p14, rfl, rfl, rfl⟩)⟩
    · exact absurd c8 (by decide)
  · show j_at _ _ _ [(0, .ref 5), (1, j_i h)] [j_i 0] _ _ _ _
    have i5 := bi_n p5
    refine a_if_ne (pc := 8) (off := 5) (tgt := 13) (by decide +kernel) (by decide) (by omega) (fun c8 => ?_) (fun c8 => ?_)
    · exact absurd c8 (by decide)
    · refine a_iconst (pc := 11) (n := (-1)) (by decide +kernel) ?_
      refine a_ireturn (pc := 12) (by decide +kernel) rfl ?_
      refine k_ret ?_
      exact ⟨_, rfl, by first | exact Or.inl ⟨p5, rfl, rfl, rfl⟩ | exact Or.inr (Or.inl ⟨p5, p14, rfl, rfl, rfl⟩)⟩
set_option maxHeartbeats 4000000 in
theorem d_head {G : j_G} {X : k_X} {n : Nat} {σ : k_St} (hn : 101 ≤ n) (hg : ∀ i : Int, -128 ≤ σ.1 69 i ∧ σ.1 69 i ≤ 9999) (hgr : (0 ≤ σ.1 69 0 ∧ σ.1 69 0 ≤ 300) ∧ (0 ≤ σ.1 69 301 ∧ σ.1 69 301 ≤ 30) ∧ (0 ≤ σ.1 69 1382 ∧ σ.1 69 1382 ≤ 50)) (hf4 : 0 ≤ σ.2.1 68 4 ∧ σ.2.1 68 4 < 40) (hm5 : 0 ≤ σ.2.1 68 5 ∧ σ.2.1 68 5 ≤ 40) (hL : 0 ≤ σ.2.1 68 7 ∧ σ.2.1 68 7 ≤ 16) (hnm : ∀ k, 0 ≤ k → k < σ.2.1 68 7 → 32 ≤ σ.1 71 k ∧ σ.1 71 k ≤ 126)  : k_run G X mX12_head [.ref 68] n σ 0 0 (fun v n' σ' => (¬ d_free σ ∧ v = some (j_i (-3)) ∧ n' = n ∧ σ' = σ) ∨ (d_free σ ∧ 30 ≤ σ.1 69 301 ∧ v = some (j_i (-4)) ∧ n' = n ∧ σ' = σ) ∨ (d_free σ ∧ σ.1 69 301 < 30 ∧ v = some (j_i (σ.1 69 301)) ∧ n' = n ∧ σ' = k_sA (d_kp σ) 69 (d_nt (j_up (j_up (j_up (j_up (σ.1 69) 301 (σ.1 69 301 + 1)) (302 + 36 * σ.1 69 301) 1) (302 + 36 * σ.1 69 301 + 1) (σ.2.1 68 7)) (302 + 36 * σ.1 69 301 + 2) 0) (σ.1 71) (302 + 36 * σ.1 69 301 + 3) (σ.2.1 68 7) 16))) := by
  obtain ⟨hgW, hgE, hgM⟩ := hgr
  refine k_enter (by decide +kernel) (Nat.le_of_ble_eq_true rfl) ?_
  show j_at _ _ _ [(0, .ref 68)] [] _ _ _ _
  refine a_aload_n (pc := 0) (i := 0) (by decide +kernel) rfl ?_
  refine b_callV (pc := 1) (c' := 0) (sl' := 0) [] [] ml_X12_206 (by decide +kernel) rfl rfl (sh_68 hn) rfl rfl (Nat.le_of_ble_eq_true rfl) (j_fitI rfl rfl) (s_dfree hn hL hnm hg hgE) (fun v n' σ' hq => ?_)
  obtain ⟨x, rfl, e1, e2, hx⟩ := hq
  rw [e1, e2]; clear e1 e2
  rcases hx with ⟨rfl, p1⟩ | ⟨rfl, p1⟩
  · show j_at _ _ _ [(0, .ref 68)] [j_i 1] _ _ _ _
    refine a_if_ne (pc := 4) (off := 6) (tgt := 10) (by decide +kernel) (by decide) (by omega) (fun c4 => ?_) (fun c4 => ?_)
    · refine a_aload_n (pc := 10) (i := 0) (by decide +kernel) rfl ?_
      refine b_pureV (pc := 11) [] [] ml_X12_180 (by decide +kernel) rfl rfl (sh_68 hn) rfl rfl (Nat.le_of_ble_eq_true rfl) (j_fitI rfl rfl) (s_dheadsEver hn) ?_
      have q1 := hg 301
      show j_at _ _ _ [(0, .ref 68)] [j_i (σ.1 69 301)] _ _ _ _
      refine a_bipush (pc := 14) (n := 30) (by decide +kernel) rfl ?_
      refine a_icmp_ne (pc := 16) (off := 6) (tgt := 22) (by decide +kernel) (by decide) (by omega) (by omega) (fun c16 => ?_) (fun c16 => ?_)
      · refine a_aload_n (pc := 22) (i := 0) (by decide +kernel) rfl ?_
        refine b_callV (pc := 23) (c' := 0) (sl' := 0) [] [] ml_X12_132 (by decide +kernel) rfl rfl (sh_68 hn) rfl rfl (Nat.le_of_ble_eq_true rfl) (j_fitI rfl rfl) (s_dkeep hn hf4 hm5) (fun v n' σ' hq => ?_)
        obtain ⟨rfl, e1, e2⟩ := hq
        rw [e1, e2]; clear e1 e2
        obtain ⟨σ2, hσ2⟩ : ∃ z, z = d_kp σ := ⟨_, rfl⟩
        rw [← hσ2]
        show j_at _ _ _ [(0, .ref 68)] [] _ _ _ _
        refine a_aload_n (pc := 26) (i := 0) (by decide +kernel) rfl ?_
        refine b_pureV (pc := 27) [] [] ml_X12_180 (by decide +kernel) rfl rfl (sh_68 hn) rfl rfl (Nat.le_of_ble_eq_true rfl) (j_fitI rfl rfl) (s_dheadsEver hn) ?_
        rw [show σ2.1 69 = σ.1 69 by rw [hσ2]; exact d_kp_69 (by omega)]
        show j_at _ _ _ [(0, .ref 68)] [j_i (σ.1 69 301)] _ _ _ _
        refine a_istore_n (pc := 30) (i := 1) (lv' := [(0, .ref 68), (1, j_i (σ.1 69 301))]) (by decide +kernel) (Nat.le_of_ble_eq_true rfl) rfl ?_
        refine a_aload_n (pc := 31) (i := 0) (by decide +kernel) rfl ?_
        refine b_getR (pc := 32) (b := 69) fl_X12_7 (by decide +kernel) (sh_68 hn) rfl ?_
        refine a_sipush (pc := 35) (n := 301) (by decide +kernel) rfl ?_
        refine a_dup2 (pc := 38) (by decide +kernel) rfl rfl ?_
        refine b_iaload (pc := 39) (by decide +kernel) (sh_69 hn) (by omega) (by omega) (by omega) ?_
        rw [show σ2.1 69 = σ.1 69 from (by rw [hσ2]; exact d_kp_69 (by omega))]
        have q3 := hg 301
        refine a_iconst (pc := 40) (n := 1) (by decide +kernel) ?_
        refine a_iadd (pc := 41) (by decide +kernel) ?_
        refine b_iastore (pc := 42) (by decide +kernel) (sh_69 hn) (by omega) (by omega) (by omega) ?_
        obtain ⟨σ4, hσ4⟩ : ∃ z, z = k_sA σ2 69 (j_up (σ2.1 69) 301 ((σ.1 69 301) + 1)) := ⟨_, rfl⟩
        rw [← hσ4]
        refine a_aload_n (pc := 43) (i := 0) (by decide +kernel) rfl ?_
        refine b_getR (pc := 44) (b := 69) fl_X12_7 (by decide +kernel) (sh_68 hn) rfl ?_
        refine a_aload_n (pc := 47) (i := 0) (by decide +kernel) rfl ?_
        refine a_iload_n (pc := 48) (i := 1) (by decide +kernel) rfl ?_
        refine b_pureV (pc := 49) [j_i (σ.1 69 301)] [.ref 69] ml_X12_183 (by decide +kernel) rfl rfl (sh_68 hn) rfl rfl (Nat.le_of_ble_eq_true rfl) (j_fitI rfl rfl) (s_dheadAt) ?_
        show j_at _ _ _ [(0, .ref 68), (1, j_i (σ.1 69 301))] [j_i (302 + 36 * (σ.1 69 301)), .ref 69] _ _ _ _
        refine a_iconst (pc := 52) (n := 1) (by decide +kernel) ?_
        refine b_iastore (pc := 53) (by decide +kernel) (sh_69 hn) (by omega) (by omega) (by omega) ?_
        obtain ⟨σ6, hσ6⟩ : ∃ z, z = k_sA σ4 69 (j_up (σ4.1 69) (302 + 36 * (σ.1 69 301)) 1) := ⟨_, rfl⟩
        rw [← hσ6]
        refine a_aload_n (pc := 54) (i := 0) (by decide +kernel) rfl ?_
        refine b_getR (pc := 55) (b := 69) fl_X12_7 (by decide +kernel) (sh_68 hn) rfl ?_
        refine a_aload_n (pc := 58) (i := 0) (by decide +kernel) rfl ?_
        refine a_iload_n (pc := 59) (i := 1) (by decide +kernel) rfl ?_
        refine b_pureV (pc := 60) [j_i (σ.1 69 301)] [.ref 69] ml_X12_183 (by decide +kernel) rfl rfl (sh_68 hn) rfl rfl (Nat.le_of_ble_eq_true rfl) (j_fitI rfl rfl) (s_dheadAt) ?_
        show j_at _ _ _ [(0, .ref 68), (1, j_i (σ.1 69 301))] [j_i (302 + 36 * (σ.1 69 301)), .ref 69] _ _ _ _
        refine a_iconst (pc := 63) (n := 1) (by decide +kernel) ?_
        refine a_iadd (pc := 64) (by decide +kernel) ?_
        refine a_aload_n (pc := 65) (i := 0) (by decide +kernel) rfl ?_
        refine b_getI (pc := 66) fl_X12_195 (by decide +kernel) (sh_68 hn) rfl ?_
        rw [show σ6.2.1 68 7 = σ4.2.1 68 7 by rw [hσ6]; rfl]
        rw [show σ4.2.1 68 7 = σ2.2.1 68 7 by rw [hσ4]; rfl]
        rw [show σ2.2.1 68 7 = σ.2.1 68 7 from (by rw [hσ2]; exact d_kp_f (by omega))]
        refine b_iastore (pc := 69) (by decide +kernel) (sh_69 hn) (by omega) (by omega) (by omega) ?_
        obtain ⟨σ8, hσ8⟩ : ∃ z, z = k_sA σ6 69 (j_up (σ6.1 69) ((302 + 36 * (σ.1 69 301)) + 1) (σ.2.1 68 7)) := ⟨_, rfl⟩
        rw [← hσ8]
        refine a_aload_n (pc := 70) (i := 0) (by decide +kernel) rfl ?_
        refine b_getR (pc := 71) (b := 69) fl_X12_7 (by decide +kernel) (sh_68 hn) rfl ?_
        refine a_aload_n (pc := 74) (i := 0) (by decide +kernel) rfl ?_
        refine a_iload_n (pc := 75) (i := 1) (by decide +kernel) rfl ?_
        refine b_pureV (pc := 76) [j_i (σ.1 69 301)] [.ref 69] ml_X12_183 (by decide +kernel) rfl rfl (sh_68 hn) rfl rfl (Nat.le_of_ble_eq_true rfl) (j_fitI rfl rfl) (s_dheadAt) ?_
        show j_at _ _ _ [(0, .ref 68), (1, j_i (σ.1 69 301))] [j_i (302 + 36 * (σ.1 69 301)), .ref 69] _ _ _ _
        refine a_iconst (pc := 79) (n := 2) (by decide +kernel) ?_
        refine a_iadd (pc := 80) (by decide +kernel) ?_
        refine a_iconst (pc := 81) (n := 0) (by decide +kernel) ?_
        refine b_iastore (pc := 82) (by decide +kernel) (sh_69 hn) (by omega) (by omega) (by omega) ?_
        obtain ⟨σ10, hσ10⟩ : ∃ z, z = k_sA σ8 69 (j_up (σ8.1 69) ((302 + 36 * (σ.1 69 301)) + 2) 0) := ⟨_, rfl⟩
        rw [← hσ10]
        refine a_aload_n (pc := 83) (i := 0) (by decide +kernel) rfl ?_
        refine a_aload_n (pc := 84) (i := 0) (by decide +kernel) rfl ?_
        refine a_iload_n (pc := 85) (i := 1) (by decide +kernel) rfl ?_
        refine b_pureV (pc := 86) [j_i (σ.1 69 301)] [.ref 68] ml_X12_183 (by decide +kernel) rfl rfl (sh_68 hn) rfl rfl (Nat.le_of_ble_eq_true rfl) (j_fitI rfl rfl) (s_dheadAt) ?_
        show j_at _ _ _ [(0, .ref 68), (1, j_i (σ.1 69 301))] [j_i (302 + 36 * (σ.1 69 301)), .ref 68] _ _ _ _
        refine a_iconst (pc := 89) (n := 3) (by decide +kernel) ?_
        refine a_iadd (pc := 90) (by decide +kernel) ?_
        have z7 : σ10.2.1 68 7 = σ.2.1 68 7 := by rw [hσ10, hσ8, hσ6, hσ4, hσ2]; exact d_kp_f (by omega)
        have z71 : σ10.1 71 = σ.1 71 := by rw [hσ10, k_AN (by omega), hσ8, k_AN (by omega), hσ6, k_AN (by omega), hσ4, k_AN (by omega), hσ2]; exact d_kp_69 (by omega)
        refine b_callV (pc := 91) (c' := 0) (sl' := 0) [j_i ((302 + 36 * (σ.1 69 301)) + 3)] [] ml_X12_209 (by decide +kernel) rfl rfl (sh_68 hn) rfl rfl (Nat.le_of_ble_eq_true rfl) (j_fitI rfl rfl) (s_dnameTo hn (by rw [z7]; exact hL) (by rw [z7, z71]; exact hnm) (by omega)) (fun v n' σ' hq => ?_)
        obtain ⟨rfl, e1, e2⟩ := hq
        rw [e1, e2]; clear e1 e2
        obtain ⟨σ12, hσ12⟩ : ∃ z, z = k_sA σ10 69 (d_nt (σ10.1 69) (σ10.1 71) ((302 + 36 * (σ.1 69 301)) + 3) (σ10.2.1 68 7) 16) := ⟨_, rfl⟩
        rw [← hσ12]
        rw [z7, z71] at hσ12
        show j_at _ _ _ [(0, .ref 68), (1, j_i (σ.1 69 301))] [] _ _ _ _
        refine a_iload_n (pc := 94) (i := 1) (by decide +kernel) rfl ?_
        refine a_ireturn (pc := 95) (by decide +kernel) rfl ?_
        refine k_ret ?_
        refine Or.inr (Or.inr ⟨p1, by omega, rfl, rfl, ?_⟩)
        rw [hσ12]
        rw [hσ10]
        rw [hσ8]
        rw [hσ6]
        rw [hσ4]
        simp only [k_AA, k_sA2]
        rw [hσ2, d_kp_69 (by omega)]
      · refine a_bipush (pc := 19) (n := (-4)) (by decide +kernel) rfl ?_
        refine a_ireturn (pc := 21) (by decide +kernel) rfl ?_
        refine k_ret ?_
        first | exact Or.inl ⟨p1, rfl, rfl, rfl⟩ | exact Or.inr (Or.inl ⟨p1, by omega, rfl, rfl, rfl⟩)
    · exact absurd c4 (by decide)
  · show j_at _ _ _ [(0, .ref 68)] [j_i 0] _ _ _ _
    refine a_if_ne (pc := 4) (off := 6) (tgt := 10) (by decide +kernel) (by decide) (by omega) (fun c4 => ?_) (fun c4 => ?_)
    · exact absurd c4 (by decide)
    · refine a_bipush (pc := 7) (n := (-3)) (by decide +kernel) rfl ?_
      refine a_ireturn (pc := 9) (by decide +kernel) rfl ?_
      refine k_ret ?_
      first | exact Or.inl ⟨p1, rfl, rfl, rfl⟩ | exact Or.inr (Or.inl ⟨p1, by omega, rfl, rfl, rfl⟩)
set_option maxHeartbeats 4000000 in
theorem d_sortAs {G : j_G} {X : k_X} {n : Nat} {σ : k_St} (hn : 101 ≤ n) (hg : ∀ i : Int, -128 ≤ σ.1 69 i ∧ σ.1 69 i ≤ 9999) (hgr : (0 ≤ σ.1 69 0 ∧ σ.1 69 0 ≤ 300) ∧ (0 ≤ σ.1 69 301 ∧ σ.1 69 301 ≤ 30) ∧ (0 ≤ σ.1 69 1382 ∧ σ.1 69 1382 ≤ 50)) (hf4 : 0 ≤ σ.2.1 68 4 ∧ σ.2.1 68 4 < 40) (hm5 : 0 ≤ σ.2.1 68 5 ∧ σ.2.1 68 5 ≤ 40) (hL : 0 ≤ σ.2.1 68 7 ∧ σ.2.1 68 7 ≤ 16) (hnm : ∀ k, 0 ≤ k → k < σ.2.1 68 7 → 32 ≤ σ.1 71 k ∧ σ.1 71 k ≤ 126) {h : Int} (hh : -2147483648 ≤ h ∧ h ≤ 2147483647)  : k_run G X mX12_sortAs [.ref 68, j_i h] n σ 0 0 (fun v n' σ' => (¬ d_is σ h ∧ v = some (j_i (-1)) ∧ n' = n ∧ σ' = σ) ∨ (d_is σ h ∧ ¬ d_tidy σ ∧ v = some (j_i (-3)) ∧ n' = n ∧ σ' = σ) ∨ (d_is σ h ∧ d_tidy σ ∧ v = some (j_i 1) ∧ n' = n ∧ σ' = k_sA (d_kp σ) 69 (d_nt (j_up (σ.1 69) (302 + 36 * h + 2) (σ.2.1 68 7)) (σ.1 71) (302 + 36 * h + 3 + 16) (σ.2.1 68 7) 16))) := by
  obtain ⟨hgW, hgE, hgM⟩ := hgr
  refine k_enter (by decide +kernel) (Nat.le_of_ble_eq_true rfl) ?_
  show j_at _ _ _ [(0, .ref 68), (1, j_i h)] [] _ _ _ _
  refine a_aload_n (pc := 0) (i := 0) (by decide +kernel) rfl ?_
  refine a_iload_n (pc := 1) (i := 1) (by decide +kernel) rfl ?_
  refine b_callV (pc := 2) (c' := 0) (sl' := 0) [j_i h] [] ml_X12_202 (by decide +kernel) rfl rfl (sh_68 hn) rfl rfl (Nat.le_of_ble_eq_true rfl) (j_fitI rfl rfl) (s_disHead hn hg (by omega) (by omega)) (fun v n' σ' hq => ?_)
  obtain ⟨x, rfl, e1, e2, hx⟩ := hq
  rw [e1, e2]; clear e1 e2
  rcases hx with ⟨rfl, p2⟩ | ⟨rfl, p2⟩
  · show j_at _ _ _ [(0, .ref 68), (1, j_i h)] [j_i 1] _ _ _ _
    have i2 := bi_y p2
    have u2 := p2.1
    have w2 := p2.2.1
    refine a_if_ne (pc := 5) (off := 5) (tgt := 10) (by decide +kernel) (by decide) (by omega) (fun c5 => ?_) (fun c5 => ?_)
    · refine a_aload_n (pc := 10) (i := 0) (by decide +kernel) rfl ?_
      refine b_callV (pc := 11) (c' := 0) (sl' := 0) [] [] ml_X12_198 (by decide +kernel) rfl rfl (sh_68 hn) rfl rfl (Nat.le_of_ble_eq_true rfl) (j_fitI rfl rfl) (s_dtidy hn hL hnm) (fun v n' σ' hq => ?_)
      obtain ⟨x, rfl, e1, e2, hx⟩ := hq
      rw [e1, e2]; clear e1 e2
      rcases hx with ⟨rfl, p11⟩ | ⟨rfl, p11⟩
      · show j_at _ _ _ [(0, .ref 68), (1, j_i h)] [j_i 1] _ _ _ _
        refine a_if_ne (pc := 14) (off := 6) (tgt := 20) (by decide +kernel) (by decide) (by omega) (fun c14 => ?_) (fun c14 => ?_)
        · refine a_aload_n (pc := 20) (i := 0) (by decide +kernel) rfl ?_
          refine b_callV (pc := 21) (c' := 0) (sl' := 0) [] [] ml_X12_132 (by decide +kernel) rfl rfl (sh_68 hn) rfl rfl (Nat.le_of_ble_eq_true rfl) (j_fitI rfl rfl) (s_dkeep hn hf4 hm5) (fun v n' σ' hq => ?_)
          obtain ⟨rfl, e1, e2⟩ := hq
          rw [e1, e2]; clear e1 e2
          obtain ⟨σ1, hσ1⟩ : ∃ z, z = d_kp σ := ⟨_, rfl⟩
          rw [← hσ1]
          show j_at _ _ _ [(0, .ref 68), (1, j_i h)] [] _ _ _ _
          refine a_aload_n (pc := 24) (i := 0) (by decide +kernel) rfl ?_
          refine b_getR (pc := 25) (b := 69) fl_X12_7 (by decide +kernel) (sh_68 hn) rfl ?_
          refine a_aload_n (pc := 28) (i := 0) (by decide +kernel) rfl ?_
          refine a_iload_n (pc := 29) (i := 1) (by decide +kernel) rfl ?_
          refine b_pureV (pc := 30) [j_i h] [.ref 69] ml_X12_183 (by decide +kernel) rfl rfl (sh_68 hn) rfl rfl (Nat.le_of_ble_eq_true rfl) (j_fitI rfl rfl) (s_dheadAt) ?_
          show j_at _ _ _ [(0, .ref 68), (1, j_i h)] [j_i (302 + 36 * h), .ref 69] _ _ _ _
          refine a_iconst (pc := 33) (n := 2) (by decide +kernel) ?_
          refine a_iadd (pc := 34) (by decide +kernel) ?_
          refine a_aload_n (pc := 35) (i := 0) (by decide +kernel) rfl ?_
          refine b_getI (pc := 36) fl_X12_195 (by decide +kernel) (sh_68 hn) rfl ?_
          rw [show σ1.2.1 68 7 = σ.2.1 68 7 from (by rw [hσ1]; exact d_kp_f (by omega))]
          refine b_iastore (pc := 39) (by decide +kernel) (sh_69 hn) (by omega) (by omega) (by omega) ?_
          obtain ⟨σ3, hσ3⟩ : ∃ z, z = k_sA σ1 69 (j_up (σ1.1 69) ((302 + 36 * h) + 2) (σ.2.1 68 7)) := ⟨_, rfl⟩
          rw [← hσ3]
          refine a_aload_n (pc := 40) (i := 0) (by decide +kernel) rfl ?_
          refine a_aload_n (pc := 41) (i := 0) (by decide +kernel) rfl ?_
          refine a_iload_n (pc := 42) (i := 1) (by decide +kernel) rfl ?_
          refine b_pureV (pc := 43) [j_i h] [.ref 68] ml_X12_183 (by decide +kernel) rfl rfl (sh_68 hn) rfl rfl (Nat.le_of_ble_eq_true rfl) (j_fitI rfl rfl) (s_dheadAt) ?_
          show j_at _ _ _ [(0, .ref 68), (1, j_i h)] [j_i (302 + 36 * h), .ref 68] _ _ _ _
          refine a_iconst (pc := 46) (n := 3) (by decide +kernel) ?_
          refine a_iadd (pc := 47) (by decide +kernel) ?_
          refine a_bipush (pc := 48) (n := 16) (by decide +kernel) rfl ?_
          refine a_iadd (pc := 50) (by decide +kernel) ?_
          have z7 : σ3.2.1 68 7 = σ.2.1 68 7 := by rw [hσ3, hσ1]; exact d_kp_f (by omega)
          have z71 : σ3.1 71 = σ.1 71 := by rw [hσ3, k_AN (by omega), hσ1]; exact d_kp_69 (by omega)
          refine b_callV (pc := 51) (c' := 0) (sl' := 0) [j_i (((302 + 36 * h) + 3) + 16)] [] ml_X12_209 (by decide +kernel) rfl rfl (sh_68 hn) rfl rfl (Nat.le_of_ble_eq_true rfl) (j_fitI rfl rfl) (s_dnameTo hn (by rw [z7]; exact hL) (by rw [z7, z71]; exact hnm) (by omega)) (fun v n' σ' hq => ?_)
          obtain ⟨rfl, e1, e2⟩ := hq
          rw [e1, e2]; clear e1 e2
          obtain ⟨σ5, hσ5⟩ : ∃ z, z = k_sA σ3 69 (d_nt (σ3.1 69) (σ3.1 71) (((302 + 36 * h) + 3) + 16) (σ3.2.1 68 7) 16) := ⟨_, rfl⟩
          rw [← hσ5]
          rw [z7, z71] at hσ5
          show j_at _ _ _ [(0, .ref 68), (1, j_i h)] [] _ _ _ _
          refine a_iconst (pc := 54) (n := 1) (by decide +kernel) ?_
          refine a_ireturn (pc := 55) (by decide +kernel) rfl ?_
          refine k_ret ?_
          refine Or.inr (Or.inr ⟨p2, p11, rfl, rfl, ?_⟩)
          rw [hσ5]
          rw [hσ3]
          simp only [k_AA, k_sA2]
          rw [hσ1, d_kp_69 (by omega)]
        · exact absurd c14 (by decide)
      · show j_at _ _ _ [(0, .ref 68), (1, j_i h)] [j_i 0] _ _ _ _
        refine a_if_ne (pc := 14) (off := 6) (tgt := 20) (by decide +kernel) (by decide) (by omega) (fun c14 => ?_) (fun c14 => ?_)
        · exact absurd c14 (by decide)
        · refine a_bipush (pc := 17) (n := (-3)) (by decide +kernel) rfl ?_
          refine a_ireturn (pc := 19) (by decide +kernel) rfl ?_
          refine k_ret ?_
          first | exact Or.inl ⟨p2, rfl, rfl, rfl⟩ | exact Or.inr (Or.inl ⟨p2, p11, rfl, rfl, rfl⟩)
    · exact absurd c5 (by decide)
  · show j_at _ _ _ [(0, .ref 68), (1, j_i h)] [j_i 0] _ _ _ _
    have i2 := bi_n p2
    refine a_if_ne (pc := 5) (off := 5) (tgt := 10) (by decide +kernel) (by decide) (by omega) (fun c5 => ?_) (fun c5 => ?_)
    · exact absurd c5 (by decide)
    · refine a_iconst (pc := 8) (n := (-1)) (by decide +kernel) ?_
      refine a_ireturn (pc := 9) (by decide +kernel) rfl ?_
      refine k_ret ?_
      first | exact Or.inl ⟨p2, rfl, rfl, rfl⟩ | exact Or.inr (Or.inl ⟨p2, p11, rfl, rfl, rfl⟩)
set_option maxHeartbeats 4000000 in
theorem d_rename {G : j_G} {X : k_X} {n : Nat} {σ : k_St} (hn : 101 ≤ n) (hg : ∀ i : Int, -128 ≤ σ.1 69 i ∧ σ.1 69 i ≤ 9999) (hgr : (0 ≤ σ.1 69 0 ∧ σ.1 69 0 ≤ 300) ∧ (0 ≤ σ.1 69 301 ∧ σ.1 69 301 ≤ 30) ∧ (0 ≤ σ.1 69 1382 ∧ σ.1 69 1382 ≤ 50)) (hf4 : 0 ≤ σ.2.1 68 4 ∧ σ.2.1 68 4 < 40) (hm5 : 0 ≤ σ.2.1 68 5 ∧ σ.2.1 68 5 ≤ 40) (hL : 0 ≤ σ.2.1 68 7 ∧ σ.2.1 68 7 ≤ 16) (hnm : ∀ k, 0 ≤ k → k < σ.2.1 68 7 → 32 ≤ σ.1 71 k ∧ σ.1 71 k ≤ 126) {h : Int} (hh : -2147483648 ≤ h ∧ h ≤ 2147483647)  : k_run G X mX12_rename [.ref 68, j_i h] n σ 0 0 (fun v n' σ' => (¬ d_is σ h ∧ v = some (j_i (-1)) ∧ n' = n ∧ σ' = σ) ∨ (d_is σ h ∧ ¬ d_free σ ∧ v = some (j_i (-3)) ∧ n' = n ∧ σ' = σ) ∨ (d_is σ h ∧ d_free σ ∧ v = some (j_i 1) ∧ n' = n ∧ σ' = k_sA (d_kp σ) 69 (d_nt (j_up (σ.1 69) (302 + 36 * h + 1) (σ.2.1 68 7)) (σ.1 71) (302 + 36 * h + 3) (σ.2.1 68 7) 16))) := by
  obtain ⟨hgW, hgE, hgM⟩ := hgr
  refine k_enter (by decide +kernel) (Nat.le_of_ble_eq_true rfl) ?_
  show j_at _ _ _ [(0, .ref 68), (1, j_i h)] [] _ _ _ _
  refine a_aload_n (pc := 0) (i := 0) (by decide +kernel) rfl ?_
  refine a_iload_n (pc := 1) (i := 1) (by decide +kernel) rfl ?_
  refine b_callV (pc := 2) (c' := 0) (sl' := 0) [j_i h] [] ml_X12_202 (by decide +kernel) rfl rfl (sh_68 hn) rfl rfl (Nat.le_of_ble_eq_true rfl) (j_fitI rfl rfl) (s_disHead hn hg (by omega) (by omega)) (fun v n' σ' hq => ?_)
  obtain ⟨x, rfl, e1, e2, hx⟩ := hq
  rw [e1, e2]; clear e1 e2
  rcases hx with ⟨rfl, p2⟩ | ⟨rfl, p2⟩
  · show j_at _ _ _ [(0, .ref 68), (1, j_i h)] [j_i 1] _ _ _ _
    have i2 := bi_y p2
    have u2 := p2.1
    have w2 := p2.2.1
    refine a_if_ne (pc := 5) (off := 5) (tgt := 10) (by decide +kernel) (by decide) (by omega) (fun c5 => ?_) (fun c5 => ?_)
    · refine a_aload_n (pc := 10) (i := 0) (by decide +kernel) rfl ?_
      refine b_callV (pc := 11) (c' := 0) (sl' := 0) [] [] ml_X12_206 (by decide +kernel) rfl rfl (sh_68 hn) rfl rfl (Nat.le_of_ble_eq_true rfl) (j_fitI rfl rfl) (s_dfree hn hL hnm hg hgE) (fun v n' σ' hq => ?_)
      obtain ⟨x, rfl, e1, e2, hx⟩ := hq
      rw [e1, e2]; clear e1 e2
      rcases hx with ⟨rfl, p11⟩ | ⟨rfl, p11⟩
      · show j_at _ _ _ [(0, .ref 68), (1, j_i h)] [j_i 1] _ _ _ _
        refine a_if_ne (pc := 14) (off := 6) (tgt := 20) (by decide +kernel) (by decide) (by omega) (fun c14 => ?_) (fun c14 => ?_)
        · refine a_aload_n (pc := 20) (i := 0) (by decide +kernel) rfl ?_
          refine b_callV (pc := 21) (c' := 0) (sl' := 0) [] [] ml_X12_132 (by decide +kernel) rfl rfl (sh_68 hn) rfl rfl (Nat.le_of_ble_eq_true rfl) (j_fitI rfl rfl) (s_dkeep hn hf4 hm5) (fun v n' σ' hq => ?_)
          obtain ⟨rfl, e1, e2⟩ := hq
          rw [e1, e2]; clear e1 e2
          obtain ⟨σ1, hσ1⟩ : ∃ z, z = d_kp σ := ⟨_, rfl⟩
          rw [← hσ1]
          show j_at _ _ _ [(0, .ref 68), (1, j_i h)] [] _ _ _ _
          refine a_aload_n (pc := 24) (i := 0) (by decide +kernel) rfl ?_
          refine b_getR (pc := 25) (b := 69) fl_X12_7 (by decide +kernel) (sh_68 hn) rfl ?_
          refine a_aload_n (pc := 28) (i := 0) (by decide +kernel) rfl ?_
          refine a_iload_n (pc := 29) (i := 1) (by decide +kernel) rfl ?_
          refine b_pureV (pc := 30) [j_i h] [.ref 69] ml_X12_183 (by decide +kernel) rfl rfl (sh_68 hn) rfl rfl (Nat.le_of_ble_eq_true rfl) (j_fitI rfl rfl) (s_dheadAt) ?_
          show j_at _ _ _ [(0, .ref 68), (1, j_i h)] [j_i (302 + 36 * h), .ref 69] _ _ _ _
          refine a_iconst (pc := 33) (n := 1) (by decide +kernel) ?_
          refine a_iadd (pc := 34) (by decide +kernel) ?_
          refine a_aload_n (pc := 35) (i := 0) (by decide +kernel) rfl ?_
          refine b_getI (pc := 36) fl_X12_195 (by decide +kernel) (sh_68 hn) rfl ?_
          rw [show σ1.2.1 68 7 = σ.2.1 68 7 from (by rw [hσ1]; exact d_kp_f (by omega))]
          refine b_iastore (pc := 39) (by decide +kernel) (sh_69 hn) (by omega) (by omega) (by omega) ?_
          obtain ⟨σ3, hσ3⟩ : ∃ z, z = k_sA σ1 69 (j_up (σ1.1 69) ((302 + 36 * h) + 1) (σ.2.1 68 7)) := ⟨_, rfl⟩
          rw [← hσ3]
          refine a_aload_n (pc := 40) (i := 0) (by decide +kernel) rfl ?_
          refine a_aload_n (pc := 41) (i := 0) (by decide +kernel) rfl ?_
          refine a_iload_n (pc := 42) (i := 1) (by decide +kernel) rfl ?_
          refine b_pureV (pc := 43) [j_i h] [.ref 68] ml_X12_183 (by decide +kernel) rfl rfl (sh_68 hn) rfl rfl (Nat.le_of_ble_eq_true rfl) (j_fitI rfl rfl) (s_dheadAt) ?_
          show j_at _ _ _ [(0, .ref 68), (1, j_i h)] [j_i (302 + 36 * h), .ref 68] _ _ _ _
          refine a_iconst (pc := 46) (n := 3) (by decide +kernel) ?_
          refine a_iadd (pc := 47) (by decide +kernel) ?_
          have z7 : σ3.2.1 68 7 = σ.2.1 68 7 := by rw [hσ3, hσ1]; exact d_kp_f (by omega)
          have z71 : σ3.1 71 = σ.1 71 := by rw [hσ3, k_AN (by omega), hσ1]; exact d_kp_69 (by omega)
          refine b_callV (pc := 48) (c' := 0) (sl' := 0) [j_i ((302 + 36 * h) + 3)] [] ml_X12_209 (by decide +kernel) rfl rfl (sh_68 hn) rfl rfl (Nat.le_of_ble_eq_true rfl) (j_fitI rfl rfl) (s_dnameTo hn (by rw [z7]; exact hL) (by rw [z7, z71]; exact hnm) (by omega)) (fun v n' σ' hq => ?_)
          obtain ⟨rfl, e1, e2⟩ := hq
          rw [e1, e2]; clear e1 e2
          obtain ⟨σ5, hσ5⟩ : ∃ z, z = k_sA σ3 69 (d_nt (σ3.1 69) (σ3.1 71) ((302 + 36 * h) + 3) (σ3.2.1 68 7) 16) := ⟨_, rfl⟩
          rw [← hσ5]
          rw [z7, z71] at hσ5
          show j_at _ _ _ [(0, .ref 68), (1, j_i h)] [] _ _ _ _
          refine a_iconst (pc := 51) (n := 1) (by decide +kernel) ?_
          refine a_ireturn (pc := 52) (by decide +kernel) rfl ?_
          refine k_ret ?_
          refine Or.inr (Or.inr ⟨p2, p11, rfl, rfl, ?_⟩)
          rw [hσ5]
          rw [hσ3]
          simp only [k_AA, k_sA2]
          rw [hσ1, d_kp_69 (by omega)]
        · exact absurd c14 (by decide)
      · show j_at _ _ _ [(0, .ref 68), (1, j_i h)] [j_i 0] _ _ _ _
        refine a_if_ne (pc := 14) (off := 6) (tgt := 20) (by decide +kernel) (by decide) (by omega) (fun c14 => ?_) (fun c14 => ?_)
        · exact absurd c14 (by decide)
        · refine a_bipush (pc := 17) (n := (-3)) (by decide +kernel) rfl ?_
          refine a_ireturn (pc := 19) (by decide +kernel) rfl ?_
          refine k_ret ?_
          first | exact Or.inl ⟨p2, rfl, rfl, rfl⟩ | exact Or.inr (Or.inl ⟨p2, p11, rfl, rfl, rfl⟩)
    · exact absurd c5 (by decide)
  · show j_at _ _ _ [(0, .ref 68), (1, j_i h)] [j_i 0] _ _ _ _
    have i2 := bi_n p2
    refine a_if_ne (pc := 5) (off := 5) (tgt := 10) (by decide +kernel) (by decide) (by omega) (fun c5 => ?_) (fun c5 => ?_)
    · exact absurd c5 (by decide)
    · refine a_iconst (pc := 8) (n := (-1)) (by decide +kernel) ?_
      refine a_ireturn (pc := 9) (by decide +kernel) rfl ?_
      refine k_ret ?_
      first | exact Or.inl ⟨p2, rfl, rfl, rfl⟩ | exact Or.inr (Or.inl ⟨p2, p11, rfl, rfl, rfl⟩)
