def see_R (σ : k_St) (gp x y q : Int) : Prop := (¬ (0 ≤ gp ∧ gp ≤ σ.2.1 6 1) ∧ q = -1) ∨ ((0 ≤ gp ∧ gp ≤ σ.2.1 6 1) ∧ bi (h_is σ x) = 0 ∧ q = -1) ∨ ((0 ≤ gp ∧ gp ≤ σ.2.1 6 1) ∧ bi (h_is σ x) = 1 ∧ bi (h_is σ y) = 0 ∧ q = -1) ∨ ((0 ≤ gp ∧ gp ≤ σ.2.1 6 1) ∧ bi (h_is σ x) = 1 ∧ bi (h_is σ y) = 1 ∧ x = y ∧ q = -3) ∨ ((0 ≤ gp ∧ gp ≤ σ.2.1 6 1) ∧ bi (h_is σ x) = 1 ∧ bi (h_is σ y) = 1 ∧ x ≠ y ∧ 50 ≤ σ.2.1 16 5 ∧ q = -4) ∨ ((0 ≤ gp ∧ gp ≤ σ.2.1 6 1) ∧ bi (h_is σ x) = 1 ∧ bi (h_is σ y) = 1 ∧ x ≠ y ∧ σ.2.1 16 5 < 50 ∧ q = 0)
def see_D (σ : k_St) (gp x y q : Int) : Prop := (¬ (0 ≤ gp ∧ gp ≤ σ.1 69 0) ∧ q = -1) ∨ ((0 ≤ gp ∧ gp ≤ σ.1 69 0) ∧ bi (d_is σ x) = 0 ∧ q = -1) ∨ ((0 ≤ gp ∧ gp ≤ σ.1 69 0) ∧ bi (d_is σ x) = 1 ∧ bi (d_is σ y) = 0 ∧ q = -1) ∨ ((0 ≤ gp ∧ gp ≤ σ.1 69 0) ∧ bi (d_is σ x) = 1 ∧ bi (d_is σ y) = 1 ∧ x = y ∧ q = -3) ∨ ((0 ≤ gp ∧ gp ≤ σ.1 69 0) ∧ bi (d_is σ x) = 1 ∧ bi (d_is σ y) = 1 ∧ x ≠ y ∧ 50 ≤ σ.1 69 1382 ∧ q = -4) ∨ ((0 ≤ gp ∧ gp ≤ σ.1 69 0) ∧ bi (d_is σ x) = 1 ∧ bi (d_is σ y) = 1 ∧ x ≠ y ∧ σ.1 69 1382 < 50 ∧ q = 0)
def see_C (n : Nat) (σ : k_St) (gp x y w r : Int) (n' : Nat) (σ' : k_St) : Prop := (∃ q, see_R σ gp x y q ∧ q < 0 ∧ r = q ∧ n' = n ∧ σ' = σ) ∨ (see_R σ gp x y 0 ∧ r = σ.2.1 16 5 ∧ ∃ σs, SV n σ n' σs ∧ σ' = m_add σs gp (6 + w) (f_path x y (-9)) 0)
set_option maxHeartbeats 4000000 in
theorem c_see {G : j_G} {X : k_X} {n : Nat} {σ : k_St} (hR : RR n σ) {gp : Int} (hgp : -2147483648 ≤ gp ∧ gp ≤ 2147483647) {x : Int} (hx : -2147483648 ≤ x ∧ x ≤ 2147483647) {y : Int} (hy : -2147483648 ≤ y ∧ y ≤ 2147483647) {w : Int} (hw01 : w = 0 ∨ w = 1)  : k_run G X mX11_see [.ref 5, j_i gp, j_i x, j_i y, j_i w] n σ 16 1618 (fun v n' σ' => ∃ r : Int, v = some (j_i r) ∧ see_C n σ gp x y w r n' σ') := by
  obtain ⟨hK, hAc, hNm, hPs, hPt, hSm, hIx⟩ := id hR
  have hn := RR_n hR
  have hk := hK.1
  have hwh : h_wf σ 8 := hk.2.1
  have hwm : m_wf σ 16 := hk.2.2
  have hW : 0 ≤ σ.2.1 6 1 ∧ σ.2.1 6 1 ≤ 300 := hk.1
  have hfl := hSm.1
  have hM9 := hwm.1
  refine k_enter (by decide +kernel) (Nat.le_of_ble_eq_true rfl) ?_
  show j_at _ _ _ [(0, .ref 5), (1, j_i gp), (2, j_i x), (3, j_i y), (4, j_i w)] [] _ _ _ _
  refine a_aload_n (pc := 0) (i := 0) (by decide +kernel) rfl ?_
  refine b_getR (pc := 1) (b := 6) fl_X11_12 (by decide +kernel) (sh_5 hn) rfl ?_
  refine a_iload_n (pc := 4) (i := 1) (by decide +kernel) rfl ?_
  refine b_callV (pc := 5) (c' := 0) (sl' := 0) [j_i gp] [] ml_X11_91 (by decide +kernel) rfl rfl (sh_6 hn) rfl rfl (Nat.le_of_ble_eq_true rfl) (j_fitI rfl rfl) (s_hasGap hn hW (by omega)) (fun v n' σ' hq => ?_)
  obtain ⟨x, rfl, e1, e2, hx⟩ := hq
  rw [e1, e2]; clear e1 e2
  rcases hx with ⟨rfl, p5⟩ | ⟨rfl, p5⟩
  · show j_at _ _ _ [(0, .ref 5), (1, j_i gp), (2, j_i x), (3, j_i y), (4, j_i w)] [j_i 1] _ _ _ _
    refine a_if_eq (pc := 8) (off := 25) (tgt := 33) (by decide +kernel) (by decide) (by omega) (fun c8 => ?_) (fun c8 => ?_)
    · exact absurd c8 (by decide)
    · refine a_aload_n (pc := 11) (i := 0) (by decide +kernel) rfl ?_
      refine b_getR (pc := 12) (b := 8) fl_X11_20 (by decide +kernel) (sh_5 hn) rfl ?_
      refine a_iload_n (pc := 15) (i := 2) (by decide +kernel) rfl ?_
      refine b_callV (pc := 16) (c' := 0) (sl' := 0) [j_i x] [] ml_X11_180 (by decide +kernel) rfl rfl (sh_8 hn) rfl rfl (Nat.le_of_ble_eq_true rfl) (j_fitI rfl rfl) (s_hhas hn hwh (by omega)) (fun v n' σ' hq => ?_)
      obtain ⟨x, rfl, e1, e2, hx⟩ := hq
      rw [e1, e2]; clear e1 e2
      rcases hx with ⟨rfl, p16⟩ | ⟨rfl, p16⟩
      · show j_at _ _ _ [(0, .ref 5), (1, j_i gp), (2, j_i x), (3, j_i y), (4, j_i w)] [j_i 1] _ _ _ _
        have i16 := bi_y p16
        have u16 := p16.1
        have w16 := p16.2.1
        refine a_if_eq (pc := 19) (off := 14) (tgt := 33) (by decide +kernel) (by decide) (by omega) (fun c19 => ?_) (fun c19 => ?_)
        · exact absurd c19 (by decide)
        · refine a_aload_n (pc := 22) (i := 0) (by decide +kernel) rfl ?_
          refine b_getR (pc := 23) (b := 8) fl_X11_20 (by decide +kernel) (sh_5 hn) rfl ?_
          refine a_iload_n (pc := 26) (i := 3) (by decide +kernel) rfl ?_
          refine b_callV (pc := 27) (c' := 0) (sl' := 0) [j_i y] [] ml_X11_180 (by decide +kernel) rfl rfl (sh_8 hn) rfl rfl (Nat.le_of_ble_eq_true rfl) (j_fitI rfl rfl) (s_hhas hn hwh (by omega)) (fun v n' σ' hq => ?_)
          obtain ⟨x, rfl, e1, e2, hx⟩ := hq
          rw [e1, e2]; clear e1 e2
          rcases hx with ⟨rfl, p27⟩ | ⟨rfl, p27⟩
          · show j_at _ _ _ [(0, .ref 5), (1, j_i gp), (2, j_i x), (3, j_i y), (4, j_i w)] [j_i 1] _ _ _ _
            have i27 := bi_y p27
            have u27 := p27.1
            have w27 := p27.2.1
            refine a_if_ne (pc := 30) (off := 5) (tgt := 35) (by decide +kernel) (by decide) (by omega) (fun c30 => ?_) (fun c30 => ?_)
            · refine a_iload_n (pc := 35) (i := 2) (by decide +kernel) rfl ?_
              refine a_iload_n (pc := 36) (i := 3) (by decide +kernel) rfl ?_
              refine a_icmp_ne (pc := 37) (off := 6) (tgt := 43) (by decide +kernel) (by decide) (by omega) (by omega) (fun c37 => ?_) (fun c37 => ?_)
              · refine a_aload_n (pc := 43) (i := 0) (by decide +kernel) rfl ?_
                refine b_getR (pc := 44) (b := 16) fl_X11_25 (by decide +kernel) (sh_5 hn) rfl ?_
                refine b_getI (pc := 47) fl_X11_236 (by decide +kernel) (sh_16 hn) rfl ?_
                refine a_bipush (pc := 50) (n := 50) (by decide +kernel) rfl ?_
                refine a_icmp_lt (pc := 52) (off := 6) (tgt := 58) (by decide +kernel) (by decide) (by omega) (by omega) (fun c52 => ?_) (fun c52 => ?_)
                · refine a_aload_n (pc := 58) (i := 0) (by decide +kernel) rfl ?_
                  refine b_getR (pc := 59) (b := 22) fl_X11_29 (by decide +kernel) (sh_5 hn) rfl ?_
                  refine a_aload_n (pc := 62) (i := 0) (by decide +kernel) rfl ?_
                  refine b_getR (pc := 63) (b := 6) fl_X11_12 (by decide +kernel) (sh_5 hn) rfl ?_
                  refine b_callV (pc := 66) (c' := 16) (sl' := 1618) [.ref 6] [] ml_X11_98 (by decide +kernel) rfl rfl (sh_22 hn) rfl rfl (Nat.le_of_ble_eq_true rfl) (j_fitI rfl rfl) (s_save hk hAc) (fun v n' σ' hq => ?_)
                  obtain ⟨σ1, hσ1⟩ : ∃ z, z = σ' := ⟨_, rfl⟩
                  rw [← hσ1] at hq ⊢
                  obtain ⟨rfl, hsv⟩ := hq
                  clear hσ1
                  obtain ⟨sv1, sv2, hn9⟩ := SV_e hsv
                  have hn : 101 ≤ n' := hn9
                  have hwm : m_wf σ1 16 := m_wf_congr (sv1 _ (by omega)) (sv1 _ (by omega)) (sv1 _ (by omega)) (sv1 _ (by omega)) (sv1 _ (by omega)) (sv2 _ _ (by omega) (by omega)) hwm
                  have hwh : h_wf σ1 8 := h_wf_congr (sv1 _ (by omega)) (sv1 _ (by omega)) (sv1 _ (by omega)) (sv1 _ (by omega)) (sv1 _ (by omega)) (sv2 _ _ (by omega) (by omega)) hwh
                  show j_at _ _ _ [(0, .ref 5), (1, j_i gp), (2, j_i x), (3, j_i y), (4, j_i w)] [] _ _ _ _
                  refine a_aload_n (pc := 69) (i := 0) (by decide +kernel) rfl ?_
                  refine b_getR (pc := 70) (b := 16) fl_X11_25 (by decide +kernel) (sh_5 hn) rfl ?_
                  refine a_iload_n (pc := 73) (i := 1) (by decide +kernel) rfl ?_
                  refine a_iload (pc := 74) (i := 4) (by decide +kernel) rfl ?_
                  refine a_if_eq (pc := 76) (off := 8) (tgt := 84) (by decide +kernel) (by decide) (by omega) (fun c76 => ?_) (fun c76 => ?_)
                  · refine a_bipush (pc := 84) (n := 6) (by decide +kernel) rfl ?_
                    refine a_iload_n (pc := 86) (i := 2) (by decide +kernel) rfl ?_
                    refine a_iload_n (pc := 87) (i := 3) (by decide +kernel) rfl ?_
                    refine a_bipush (pc := 88) (n := (-9)) (by decide +kernel) rfl ?_
                    refine a_iconst (pc := 90) (n := 0) (by decide +kernel) ?_
                    refine b_callV (pc := 91) (c' := 0) (sl' := 0) [j_i gp, j_i 6, j_i x, j_i y, j_i (-9), j_i 0] [] ml_X11_237 (by decide +kernel) rfl rfl (sh_16 hn) rfl rfl (Nat.le_of_ble_eq_true rfl) (j_fitI rfl rfl) (s_madd hn hwm (by rw [sv2 16 5 (by omega) (by omega)]; omega) (by omega) (by omega) (by omega)) (fun v n' σ' hq => ?_)
                    obtain ⟨hv1, e1, e2⟩ := hq
                    rw [hv1, e1, e2]; clear e1 e2
                    obtain ⟨σ2, hσ2⟩ : ∃ z, z = m_add σ1 gp 6 (f_path x y (-9)) 0 := ⟨_, rfl⟩
                    rw [← hσ2, sv2 16 5 (by omega) (by omega)]
                    show j_at _ _ _ [(0, .ref 5), (1, j_i gp), (2, j_i x), (3, j_i y), (4, j_i w)] [j_i (σ.2.1 16 5)] _ _ _ _
                    refine a_ireturn (pc := 94) (by decide +kernel) rfl ?_
                    refine k_ret ?_
                    refine ⟨_, rfl, Or.inr ⟨?_, rfl, σ1, hsv, by rw [hσ2]; congr 1; omega⟩⟩
                    unfold see_R
                    first | exact Or.inl (by omega) | exact Or.inr (Or.inl (by omega)) | exact Or.inr (Or.inr (Or.inl (by omega))) | exact Or.inr (Or.inr (Or.inr (Or.inl (by omega)))) | exact Or.inr (Or.inr (Or.inr (Or.inr (Or.inl (by omega))))) | exact Or.inr (Or.inr (Or.inr (Or.inr (Or.inr (by omega)))))
                  · refine a_bipush (pc := 79) (n := 7) (by decide +kernel) rfl ?_
                    refine a_goto (pc := 81) (off := 5) (tgt := 86) (by decide +kernel) (by decide) ?_
                    refine a_iload_n (pc := 86) (i := 2) (by decide +kernel) rfl ?_
                    refine a_iload_n (pc := 87) (i := 3) (by decide +kernel) rfl ?_
                    refine a_bipush (pc := 88) (n := (-9)) (by decide +kernel) rfl ?_
                    refine a_iconst (pc := 90) (n := 0) (by decide +kernel) ?_
                    refine b_callV (pc := 91) (c' := 0) (sl' := 0) [j_i gp, j_i 7, j_i x, j_i y, j_i (-9), j_i 0] [] ml_X11_237 (by decide +kernel) rfl rfl (sh_16 hn) rfl rfl (Nat.le_of_ble_eq_true rfl) (j_fitI rfl rfl) (s_madd hn hwm (by rw [sv2 16 5 (by omega) (by omega)]; omega) (by omega) (by omega) (by omega)) (fun v n' σ' hq => ?_)
                    obtain ⟨hv1, e1, e2⟩ := hq
                    rw [hv1, e1, e2]; clear e1 e2
                    obtain ⟨σ3, hσ3⟩ : ∃ z, z = m_add σ1 gp 7 (f_path x y (-9)) 0 := ⟨_, rfl⟩
                    rw [← hσ3, sv2 16 5 (by omega) (by omega)]
                    show j_at _ _ _ [(0, .ref 5), (1, j_i gp), (2, j_i x), (3, j_i y), (4, j_i w)] [j_i (σ.2.1 16 5)] _ _ _ _
                    refine a_ireturn (pc := 94) (by decide +kernel) rfl ?_
                    refine k_ret ?_
                    refine ⟨_, rfl, Or.inr ⟨?_, rfl, σ1, hsv, by rw [hσ3]; congr 1; omega⟩⟩
                    unfold see_R
                    first | exact Or.inl (by omega) | exact Or.inr (Or.inl (by omega)) | exact Or.inr (Or.inr (Or.inl (by omega))) | exact Or.inr (Or.inr (Or.inr (Or.inl (by omega)))) | exact Or.inr (Or.inr (Or.inr (Or.inr (Or.inl (by omega))))) | exact Or.inr (Or.inr (Or.inr (Or.inr (Or.inr (by omega)))))
                · refine a_bipush (pc := 55) (n := (-4)) (by decide +kernel) rfl ?_
                  refine a_ireturn (pc := 57) (by decide +kernel) rfl ?_
                  refine k_ret ?_
                  refine ⟨_, rfl, Or.inl ⟨_, ?_, by omega, rfl, rfl, rfl⟩⟩
                  unfold see_R
                  first | exact Or.inl (by omega) | exact Or.inr (Or.inl (by omega)) | exact Or.inr (Or.inr (Or.inl (by omega))) | exact Or.inr (Or.inr (Or.inr (Or.inl (by omega)))) | exact Or.inr (Or.inr (Or.inr (Or.inr (Or.inl (by omega))))) | exact Or.inr (Or.inr (Or.inr (Or.inr (Or.inr (by omega)))))
              · refine a_bipush (pc := 40) (n := (-3)) (by decide +kernel) rfl ?_
                refine a_ireturn (pc := 42) (by decide +kernel) rfl ?_
                refine k_ret ?_
                refine ⟨_, rfl, Or.inl ⟨_, ?_, by omega, rfl, rfl, rfl⟩⟩
                unfold see_R
                first | exact Or.inl (by omega) | exact Or.inr (Or.inl (by omega)) | exact Or.inr (Or.inr (Or.inl (by omega))) | exact Or.inr (Or.inr (Or.inr (Or.inl (by omega)))) | exact Or.inr (Or.inr (Or.inr (Or.inr (Or.inl (by omega))))) | exact Or.inr (Or.inr (Or.inr (Or.inr (Or.inr (by omega)))))
            · exact absurd c30 (by decide)
          · show j_at _ _ _ [(0, .ref 5), (1, j_i gp), (2, j_i x), (3, j_i y), (4, j_i w)] [j_i 0] _ _ _ _
            have i27 := bi_n p27
            refine a_if_ne (pc := 30) (off := 5) (tgt := 35) (by decide +kernel) (by decide) (by omega) (fun c30 => ?_) (fun c30 => ?_)
            · exact absurd c30 (by decide)
            · refine a_iconst (pc := 33) (n := (-1)) (by decide +kernel) ?_
              refine a_ireturn (pc := 34) (by decide +kernel) rfl ?_
              refine k_ret ?_
              refine ⟨_, rfl, Or.inl ⟨_, ?_, by omega, rfl, rfl, rfl⟩⟩
              unfold see_R
              first | exact Or.inl (by omega) | exact Or.inr (Or.inl (by omega)) | exact Or.inr (Or.inr (Or.inl (by omega))) | exact Or.inr (Or.inr (Or.inr (Or.inl (by omega)))) | exact Or.inr (Or.inr (Or.inr (Or.inr (Or.inl (by omega))))) | exact Or.inr (Or.inr (Or.inr (Or.inr (Or.inr (by omega)))))
      · show j_at _ _ _ [(0, .ref 5), (1, j_i gp), (2, j_i x), (3, j_i y), (4, j_i w)] [j_i 0] _ _ _ _
        have i16 := bi_n p16
        refine a_if_eq (pc := 19) (off := 14) (tgt := 33) (by decide +kernel) (by decide) (by omega) (fun c19 => ?_) (fun c19 => ?_)
        · refine a_iconst (pc := 33) (n := (-1)) (by decide +kernel) ?_
          refine a_ireturn (pc := 34) (by decide +kernel) rfl ?_
          refine k_ret ?_
          refine ⟨_, rfl, Or.inl ⟨_, ?_, by omega, rfl, rfl, rfl⟩⟩
          unfold see_R
          first | exact Or.inl (by omega) | exact Or.inr (Or.inl (by omega)) | exact Or.inr (Or.inr (Or.inl (by omega))) | exact Or.inr (Or.inr (Or.inr (Or.inl (by omega)))) | exact Or.inr (Or.inr (Or.inr (Or.inr (Or.inl (by omega))))) | exact Or.inr (Or.inr (Or.inr (Or.inr (Or.inr (by omega)))))
        · exact absurd c19 (by decide)
  · show j_at _ _ _ [(0, .ref 5), (1, j_i gp), (2, j_i x), (3, j_i y), (4, j_i w)] [j_i 0] _ _ _ _
    refine a_if_eq (pc := 8) (off := 25) (tgt := 33) (by decide +kernel) (by decide) (by omega) (fun c8 => ?_) (fun c8 => ?_)
    · refine a_iconst (pc := 33) (n := (-1)) (by decide +kernel) ?_
      refine a_ireturn (pc := 34) (by decide +kernel) rfl ?_
      refine k_ret ?_
      refine ⟨_, rfl, Or.inl ⟨_, ?_, by omega, rfl, rfl, rfl⟩⟩
      unfold see_R
      first | exact Or.inl (by omega) | exact Or.inr (Or.inl (by omega)) | exact Or.inr (Or.inr (Or.inl (by omega))) | exact Or.inr (Or.inr (Or.inr (Or.inl (by omega)))) | exact Or.inr (Or.inr (Or.inr (Or.inr (Or.inl (by omega))))) | exact Or.inr (Or.inr (Or.inr (Or.inr (Or.inr (by omega)))))
    · exact absurd c8 (by decide)
set_option maxHeartbeats 4000000 in
theorem d_see {G : j_G} {X : k_X} {n : Nat} {σ : k_St} (hn : 101 ≤ n) (hg : ∀ i : Int, -128 ≤ σ.1 69 i ∧ σ.1 69 i ≤ 9999) (hgr : (0 ≤ σ.1 69 0 ∧ σ.1 69 0 ≤ 300) ∧ (0 ≤ σ.1 69 301 ∧ σ.1 69 301 ≤ 30) ∧ (0 ≤ σ.1 69 1382 ∧ σ.1 69 1382 ≤ 50)) (hf4 : 0 ≤ σ.2.1 68 4 ∧ σ.2.1 68 4 < 40) (hm5 : 0 ≤ σ.2.1 68 5 ∧ σ.2.1 68 5 ≤ 40) {gp : Int} (hgp : -2147483648 ≤ gp ∧ gp ≤ 2147483647) {x : Int} (hx : -2147483648 ≤ x ∧ x ≤ 2147483647) {y : Int} (hy : -2147483648 ≤ y ∧ y ≤ 2147483647) {w : Int} (hw01 : w = 0 ∨ w = 1) {q : Int} (hP : see_D σ gp x y q)  : k_run G X mX12_see [.ref 68, j_i gp, j_i x, j_i y, j_i w] n σ 0 0 (fun v n' σ' => (q < 0 ∧ v = some (j_i q) ∧ n' = n ∧ σ' = σ) ∨ (q = 0 ∧ v = some (j_i (σ.1 69 1382)) ∧ n' = n ∧ σ' = k_sA (d_kp σ) 69 (d_cm (σ.1 69) (σ.1 69 1382) gp (6 + w) x y (-9) 0))) := by
  obtain ⟨hgW, hgE, hgM⟩ := hgr
  refine k_enter (by decide +kernel) (Nat.le_of_ble_eq_true rfl) ?_
  show j_at _ _ _ [(0, .ref 68), (1, j_i gp), (2, j_i x), (3, j_i y), (4, j_i w)] [] _ _ _ _
  refine a_iload_n (pc := 0) (i := 1) (by decide +kernel) rfl ?_
  refine a_iconst (pc := 1) (n := 0) (by decide +kernel) ?_
  refine a_aload_n (pc := 2) (i := 0) (by decide +kernel) rfl ?_
  refine b_pureV (pc := 3) [] [j_i 0, j_i gp] ml_X12_124 (by decide +kernel) rfl rfl (sh_68 hn) rfl rfl (Nat.le_of_ble_eq_true rfl) (j_fitI rfl rfl) (s_dwords hn) ?_
  have q1 := hg 0
  show j_at _ _ _ [(0, .ref 68), (1, j_i gp), (2, j_i x), (3, j_i y), (4, j_i w)] [j_i (σ.1 69 0), j_i 0, j_i gp] _ _ _ _
  refine b_callS (pc := 6) (c' := 0) (sl' := 0) [j_i gp, j_i 0, j_i (σ.1 69 0)] [] ml_X12_128 (by decide +kernel) rfl rfl (Nat.le_of_ble_eq_true rfl) (j_fitI rfl rfl) (s_dwithin (by omega) (by omega) (by omega)) (fun v n' σ' hq => ?_)
  obtain ⟨x, rfl, e1, e2, hx⟩ := hq
  rw [e1, e2]; clear e1 e2
  rcases hx with ⟨rfl, p6⟩ | ⟨rfl, p6⟩
  · show j_at _ _ _ [(0, .ref 68), (1, j_i gp), (2, j_i x), (3, j_i y), (4, j_i w)] [j_i 1] _ _ _ _
    refine a_if_eq (pc := 9) (off := 19) (tgt := 28) (by decide +kernel) (by decide) (by omega) (fun c9 => ?_) (fun c9 => ?_)
    · exact absurd c9 (by decide)
    · refine a_aload_n (pc := 12) (i := 0) (by decide +kernel) rfl ?_
      refine a_iload_n (pc := 13) (i := 2) (by decide +kernel) rfl ?_
      refine b_callV (pc := 14) (c' := 0) (sl' := 0) [j_i x] [] ml_X12_202 (by decide +kernel) rfl rfl (sh_68 hn) rfl rfl (Nat.le_of_ble_eq_true rfl) (j_fitI rfl rfl) (s_disHead hn hg (by omega) (by omega)) (fun v n' σ' hq => ?_)
      obtain ⟨x, rfl, e1, e2, hx⟩ := hq
      rw [e1, e2]; clear e1 e2
      rcases hx with ⟨rfl, p14⟩ | ⟨rfl, p14⟩
      · show j_at _ _ _ [(0, .ref 68), (1, j_i gp), (2, j_i x), (3, j_i y), (4, j_i w)] [j_i 1] _ _ _ _
        have i14 := bi_y p14
        have u14 := p14.1
        have w14 := p14.2.1
        refine a_if_eq (pc := 17) (off := 11) (tgt := 28) (by decide +kernel) (by decide) (by omega) (fun c17 => ?_) (fun c17 => ?_)
        · exact absurd c17 (by decide)
        · refine a_aload_n (pc := 20) (i := 0) (by decide +kernel) rfl ?_
          refine a_iload_n (pc := 21) (i := 3) (by decide +kernel) rfl ?_
          refine b_callV (pc := 22) (c' := 0) (sl' := 0) [j_i y] [] ml_X12_202 (by decide +kernel) rfl rfl (sh_68 hn) rfl rfl (Nat.le_of_ble_eq_true rfl) (j_fitI rfl rfl) (s_disHead hn hg (by omega) (by omega)) (fun v n' σ' hq => ?_)
          obtain ⟨x, rfl, e1, e2, hx⟩ := hq
          rw [e1, e2]; clear e1 e2
          rcases hx with ⟨rfl, p22⟩ | ⟨rfl, p22⟩
          · show j_at _ _ _ [(0, .ref 68), (1, j_i gp), (2, j_i x), (3, j_i y), (4, j_i w)] [j_i 1] _ _ _ _
            have i22 := bi_y p22
            have u22 := p22.1
            have w22 := p22.2.1
            refine a_if_ne (pc := 25) (off := 5) (tgt := 30) (by decide +kernel) (by decide) (by omega) (fun c25 => ?_) (fun c25 => ?_)
            · refine a_iload_n (pc := 30) (i := 2) (by decide +kernel) rfl ?_
              refine a_iload_n (pc := 31) (i := 3) (by decide +kernel) rfl ?_
              refine a_icmp_ne (pc := 32) (off := 6) (tgt := 38) (by decide +kernel) (by decide) (by omega) (by omega) (fun c32 => ?_) (fun c32 => ?_)
              · refine a_aload_n (pc := 38) (i := 0) (by decide +kernel) rfl ?_
                refine b_pureV (pc := 39) [] [] ml_X12_135 (by decide +kernel) rfl rfl (sh_68 hn) rfl rfl (Nat.le_of_ble_eq_true rfl) (j_fitI rfl rfl) (s_dmarksEver hn) ?_
                have q2 := hg 1382
                show j_at _ _ _ [(0, .ref 68), (1, j_i gp), (2, j_i x), (3, j_i y), (4, j_i w)] [j_i (σ.1 69 1382)] _ _ _ _
                refine a_bipush (pc := 42) (n := 50) (by decide +kernel) rfl ?_
                refine a_icmp_ne (pc := 44) (off := 6) (tgt := 50) (by decide +kernel) (by decide) (by omega) (by omega) (fun c44 => ?_) (fun c44 => ?_)
                · refine a_aload_n (pc := 50) (i := 0) (by decide +kernel) rfl ?_
                  refine a_iload_n (pc := 51) (i := 1) (by decide +kernel) rfl ?_
                  refine a_iload (pc := 52) (i := 4) (by decide +kernel) rfl ?_
                  refine a_if_eq (pc := 54) (off := 8) (tgt := 62) (by decide +kernel) (by decide) (by omega) (fun c54 => ?_) (fun c54 => ?_)
                  · refine a_bipush (pc := 62) (n := 6) (by decide +kernel) rfl ?_
                    refine a_iload_n (pc := 64) (i := 2) (by decide +kernel) rfl ?_
                    refine a_iload_n (pc := 65) (i := 3) (by decide +kernel) rfl ?_
                    refine a_bipush (pc := 66) (n := (-9)) (by decide +kernel) rfl ?_
                    refine a_iconst (pc := 68) (n := 0) (by decide +kernel) ?_
                    refine b_callV (pc := 69) (c' := 0) (sl' := 0) [j_i gp, j_i 6, j_i x, j_i y, j_i (-9), j_i 0] [] ml_X12_263 (by decide +kernel) rfl rfl (sh_68 hn) rfl rfl (Nat.le_of_ble_eq_true rfl) (j_fitI rfl rfl) (s_dcomes hn hg ⟨hgW, hgE, hgM⟩ hf4 hm5 (by omega)) (fun v n' σ' hq => ?_)
                    obtain ⟨hv1, e1, e2⟩ := hq
                    rw [hv1, e1, e2]; clear e1 e2
                    obtain ⟨σ3, hσ3⟩ : ∃ z, z = k_sA (d_kp σ) 69 (d_cm (σ.1 69) (σ.1 69 1382) gp 6 x y (-9) 0) := ⟨_, rfl⟩
                    rw [← hσ3]
                    show j_at _ _ _ [(0, .ref 68), (1, j_i gp), (2, j_i x), (3, j_i y), (4, j_i w)] [j_i (σ.1 69 1382)] _ _ _ _
                    refine a_ireturn (pc := 72) (by decide +kernel) rfl ?_
                    refine k_ret ?_
                    have hr : (0 : Int) = q := by
                      unfold see_D at hP
                      rcases hP with hP | hP | hP | hP | hP | hP <;> omega
                    exact Or.inr ⟨hr.symm, rfl, rfl, by rw [hσ3]; congr 2; omega⟩
                  · refine a_bipush (pc := 57) (n := 7) (by decide +kernel) rfl ?_
                    refine a_goto (pc := 59) (off := 5) (tgt := 64) (by decide +kernel) (by decide) ?_
                    refine a_iload_n (pc := 64) (i := 2) (by decide +kernel) rfl ?_
                    refine a_iload_n (pc := 65) (i := 3) (by decide +kernel) rfl ?_
                    refine a_bipush (pc := 66) (n := (-9)) (by decide +kernel) rfl ?_
                    refine a_iconst (pc := 68) (n := 0) (by decide +kernel) ?_
                    refine b_callV (pc := 69) (c' := 0) (sl' := 0) [j_i gp, j_i 7, j_i x, j_i y, j_i (-9), j_i 0] [] ml_X12_263 (by decide +kernel) rfl rfl (sh_68 hn) rfl rfl (Nat.le_of_ble_eq_true rfl) (j_fitI rfl rfl) (s_dcomes hn hg ⟨hgW, hgE, hgM⟩ hf4 hm5 (by omega)) (fun v n' σ' hq => ?_)
                    obtain ⟨hv1, e1, e2⟩ := hq
                    rw [hv1, e1, e2]; clear e1 e2
                    obtain ⟨σ4, hσ4⟩ : ∃ z, z = k_sA (d_kp σ) 69 (d_cm (σ.1 69) (σ.1 69 1382) gp 7 x y (-9) 0) := ⟨_, rfl⟩
                    rw [← hσ4]
                    show j_at _ _ _ [(0, .ref 68), (1, j_i gp), (2, j_i x), (3, j_i y), (4, j_i w)] [j_i (σ.1 69 1382)] _ _ _ _
                    refine a_ireturn (pc := 72) (by decide +kernel) rfl ?_
                    refine k_ret ?_
                    have hr : (0 : Int) = q := by
                      unfold see_D at hP
                      rcases hP with hP | hP | hP | hP | hP | hP <;> omega
                    exact Or.inr ⟨hr.symm, rfl, rfl, by rw [hσ4]; congr 2; omega⟩
                · refine a_bipush (pc := 47) (n := (-4)) (by decide +kernel) rfl ?_
                  refine a_ireturn (pc := 49) (by decide +kernel) rfl ?_
                  refine k_ret ?_
                  have hr : ((-4) : Int) = q := by
                    unfold see_D at hP
                    rcases hP with hP | hP | hP | hP | hP | hP <;> omega
                  exact Or.inl ⟨by omega, by rw [hr], rfl, rfl⟩
              · refine a_bipush (pc := 35) (n := (-3)) (by decide +kernel) rfl ?_
                refine a_ireturn (pc := 37) (by decide +kernel) rfl ?_
                refine k_ret ?_
                have hr : ((-3) : Int) = q := by
                  unfold see_D at hP
                  rcases hP with hP | hP | hP | hP | hP | hP <;> omega
                exact Or.inl ⟨by omega, by rw [hr], rfl, rfl⟩
            · exact absurd c25 (by decide)
          · show j_at _ _ _ [(0, .ref 68), (1, j_i gp), (2, j_i x), (3, j_i y), (4, j_i w)] [j_i 0] _ _ _ _
            have i22 := bi_n p22
            refine a_if_ne (pc := 25) (off := 5) (tgt := 30) (by decide +kernel) (by decide) (by omega) (fun c25 => ?_) (fun c25 => ?_)
            · exact absurd c25 (by decide)
            · refine a_iconst (pc := 28) (n := (-1)) (by decide +kernel) ?_
              refine a_ireturn (pc := 29) (by decide +kernel) rfl ?_
              refine k_ret ?_
              have hr : ((-1) : Int) = q := by
                unfold see_D at hP
                rcases hP with hP | hP | hP | hP | hP | hP <;> omega
              exact Or.inl ⟨by omega, by rw [hr], rfl, rfl⟩
      · show j_at _ _ _ [(0, .ref 68), (1, j_i gp), (2, j_i x), (3, j_i y), (4, j_i w)] [j_i 0] _ _ _ _
        have i14 := bi_n p14
        refine a_if_eq (pc := 17) (off := 11) (tgt := 28) (by decide +kernel) (by decide) (by omega) (fun c17 => ?_) (fun c17 => ?_)
        · refine a_iconst (pc := 28) (n := (-1)) (by decide +kernel) ?_
          refine a_ireturn (pc := 29) (by decide +kernel) rfl ?_
          refine k_ret ?_
          have hr : ((-1) : Int) = q := by
            unfold see_D at hP
            rcases hP with hP | hP | hP | hP | hP | hP <;> omega
          exact Or.inl ⟨by omega, by rw [hr], rfl, rfl⟩
        · exact absurd c17 (by decide)
  · show j_at _ _ _ [(0, .ref 68), (1, j_i gp), (2, j_i x), (3, j_i y), (4, j_i w)] [j_i 0] _ _ _ _
    refine a_if_eq (pc := 9) (off := 19) (tgt := 28) (by decide +kernel) (by decide) (by omega) (fun c9 => ?_) (fun c9 => ?_)
    · refine a_iconst (pc := 28) (n := (-1)) (by decide +kernel) ?_
      refine a_ireturn (pc := 29) (by decide +kernel) rfl ?_
      refine k_ret ?_
      have hr : ((-1) : Int) = q := by
        unfold see_D at hP
        rcases hP with hP | hP | hP | hP | hP | hP <;> omega
      exact Or.inl ⟨by omega, by rw [hr], rfl, rfl⟩
    · exact absurd c9 (by decide)
theorem see_RD {n : Nat} {σ τ : k_St} (hR : RR n σ) (h69 : τ.1 69 = σ.1 69) {g x y q : Int} (h : see_R σ g x y q) : see_D τ g x y q := by
  have hW0 : σ.2.1 6 1 = σ.1 69 0 := hR.1.2.1.1.1
  have hM0 : σ.2.1 16 5 = σ.1 69 1382 := hR.1.2.1.2.2.1
  have hi : ∀ h, bi (d_is τ h) = bi (h_is σ h) := fun h => bi_c (by rw [← RK_h hR h]; unfold d_is; rw [h69])
  unfold see_R at h
  unfold see_D
  rw [h69, hi, hi, ← hW0, ← hM0]; exact h
theorem p_see {G : j_G} {X : k_X} {n : Nat} {σ : k_St} (hR : RR n σ) {g x y w : Int} (h1 : -2147483648 ≤ g ∧ g ≤ 2147483647) (h3 : -2147483648 ≤ x ∧ x ≤ 2147483647) (h4 : -2147483648 ≤ y ∧ y ≤ 2147483647) (hw : w = 0 ∨ w = 1) : pr_ok G X mX11_see mX12_see [j_i g, j_i x, j_i y, j_i w] n σ 16 1618 := by
  refine ⟨_, c_see hR h1 h3 h4 hw, fun v n' σ' hq => ?_⟩
  obtain ⟨r, hv, ⟨q, q1, q2, rfl, rfl, rfl⟩ | ⟨q1, rfl, σs, hS, hσ⟩⟩ := hq
  · obtain ⟨a1, a2, a3, a4⟩ := RR_md hR
    refine ⟨RR_n hR, _, hv, k_runw (fun v2 n2 σ2 p => ?_) (d_see (RR_n hR) a1 a2 a3 a4 h1 h3 h4 hw (see_RD hR rfl q1))⟩
    rcases p with ⟨g1, g2, g3, g4⟩ | ⟨g1, _⟩
    · subst g3; subst g4; exact ⟨g2, hR⟩
    · omega
  · have hM : CM σs σ' := by rw [hσ]; exact m_add_CM
    obtain ⟨a1, a2, a3, a4⟩ := CM_md hR hS hM
    obtain ⟨e1, e2⟩ := CM_e hS hM
    obtain ⟨s1, s2, s3⟩ := SV_e hS
    have hM0 : σ.2.1 16 5 = σ.1 69 1382 := hR.1.2.1.2.2.1
    refine ⟨s3, _, hv, k_runw (fun v2 n2 σ2 p => ?_) (d_see s3 a1 a2 a3 a4 h1 h3 h4 hw (see_RD hR (e1 69 (by omega) (by omega)) q1))⟩
    rcases p with ⟨g1, _⟩ | ⟨g1, g2, g3, g4⟩
    · omega
    · subst g3
      rw [e1 69 (by omega) (by omega)] at g2 g4
      refine ⟨by rw [g2, hM0], ?_⟩
      rw [g4]
      refine mut_RR hR hS hM ?_
      rw [hσ]
      unfold see_R at q1
      have hW' : 0 ≤ σ.2.1 6 1 ∧ σ.2.1 6 1 ≤ 300 := hR.1.1.1
      rcases q1 with q1 | q1 | q1 | q1 | q1 | q1
      · omega
      · omega
      · omega
      · omega
      · omega
      · obtain ⟨u1, u2, u3, u4, u5, _⟩ := q1
        have hx := bi_1.mp u2
        have hy := bi_1.mp u3
        exact m_add_K hR hS u5 (by omega) u1.2 (by omega) (by omega) hx (Or.inr hy) (Or.inl rfl) (fun _ => rfl) (fun _ => ⟨by have := hy.1; omega, rfl, u4⟩)
