def cmp_P (σ : k_St) (a b od r : Int) : Prop := (¬ (h_is σ a ∧ h_is σ b) ∧ r = -1) ∨ ((h_is σ a ∧ h_is σ b) ∧ ¬ (od = 0 ∨ od = 1) ∧ r = -2) ∨ ((h_is σ a ∧ h_is σ b) ∧ (od = 0 ∨ od = 1) ∧ o_rel σ a b od (r + 100))
theorem bx_scr {σ τ : k_St} (h : k_bx σ τ) : scr σ τ := ⟨fun c _ => by rw [h.1], fun c j q => h.2.1 c j (by omega) (by omega), h.2.2⟩
theorem bx_r {σ : k_St} : k_bx σ σ := ⟨rfl, fun _ _ _ _ => rfl, rfl⟩
theorem cmp_scr {σ τ : k_St} (h : k_bx σ τ) {a b od r : Int} : cmp_P τ a b od r ↔ cmp_P σ a b od r := by
  unfold cmp_P h_is
  rw [h.1, h.2.1 8 3 (by omega) (by omega), o_rel_congr (fun c hc => by rw [h.1]) (h.2.1 33 1 (by omega) (by omega))]
set_option maxHeartbeats 4000000 in
theorem c_compare {G : j_G} {X : k_X} {n : Nat} {σ : k_St} (hR : RR n σ) {a : Int} (ha : -2147483648 ≤ a ∧ a ≤ 2147483647) {b : Int} (hb : -2147483648 ≤ b ∧ b ≤ 2147483647) {od : Int} (hod : -2147483648 ≤ od ∧ od ≤ 2147483647)  : k_run G X mX11_compare [.ref 5, j_i a, j_i b, j_i od] n σ 0 0 (fun v n' σ' => ∃ r : Int, v = some (j_i r) ∧ n' = n ∧ k_bx σ σ' ∧ cmp_P σ a b od r) := by
  obtain ⟨hK, hAc, hNm, hPs, hPt, hSm, hIx⟩ := id hR
  have hn := RR_n hR
  have hk := hK.1
  have hwh : h_wf σ 8 := hk.2.1
  have hwm : m_wf σ 16 := hk.2.2
  have hW : 0 ≤ σ.2.1 6 1 ∧ σ.2.1 6 1 ≤ 300 := hk.1
  have hfl := hSm.1
  refine k_enter (by decide +kernel) (Nat.le_of_ble_eq_true rfl) ?_
  show j_at _ _ _ [(0, .ref 5), (1, j_i a), (2, j_i b), (3, j_i od)] [] _ _ _ _
  refine a_aload_n (pc := 0) (i := 0) (by decide +kernel) rfl ?_
  refine b_getR (pc := 1) (b := 8) fl_X11_20 (by decide +kernel) (sh_5 hn) rfl ?_
  refine a_iload_n (pc := 4) (i := 1) (by decide +kernel) rfl ?_
  refine b_callV (pc := 5) (c' := 0) (sl' := 0) [j_i a] [] ml_X11_180 (by decide +kernel) rfl rfl (sh_8 hn) rfl rfl (Nat.le_of_ble_eq_true rfl) (j_fitI rfl rfl) (s_hhas hn hwh (by omega)) (fun v n' σ' hq => ?_)
  obtain ⟨x, rfl, e1, e2, hx⟩ := hq
  rw [e1, e2]; clear e1 e2
  rcases hx with ⟨rfl, p5⟩ | ⟨rfl, p5⟩
  · show j_at _ _ _ [(0, .ref 5), (1, j_i a), (2, j_i b), (3, j_i od)] [j_i 1] _ _ _ _
    have i5 := bi_y p5
    have u5 := p5.1
    have w5 := p5.2.1
    refine a_if_eq (pc := 8) (off := 14) (tgt := 22) (by decide +kernel) (by decide) (by omega) (fun c8 => ?_) (fun c8 => ?_)
    · exact absurd c8 (by decide)
    · refine a_aload_n (pc := 11) (i := 0) (by decide +kernel) rfl ?_
      refine b_getR (pc := 12) (b := 8) fl_X11_20 (by decide +kernel) (sh_5 hn) rfl ?_
      refine a_iload_n (pc := 15) (i := 2) (by decide +kernel) rfl ?_
      refine b_callV (pc := 16) (c' := 0) (sl' := 0) [j_i b] [] ml_X11_180 (by decide +kernel) rfl rfl (sh_8 hn) rfl rfl (Nat.le_of_ble_eq_true rfl) (j_fitI rfl rfl) (s_hhas hn hwh (by omega)) (fun v n' σ' hq => ?_)
      obtain ⟨x, rfl, e1, e2, hx⟩ := hq
      rw [e1, e2]; clear e1 e2
      rcases hx with ⟨rfl, p16⟩ | ⟨rfl, p16⟩
      · show j_at _ _ _ [(0, .ref 5), (1, j_i a), (2, j_i b), (3, j_i od)] [j_i 1] _ _ _ _
        have i16 := bi_y p16
        have u16 := p16.1
        have w16 := p16.2.1
        refine a_if_ne (pc := 19) (off := 5) (tgt := 24) (by decide +kernel) (by decide) (by omega) (fun c19 => ?_) (fun c19 => ?_)
        · refine a_iload_n (pc := 24) (i := 3) (by decide +kernel) rfl ?_
          refine a_if_eq (pc := 25) (off := 11) (tgt := 36) (by decide +kernel) (by decide) (by omega) (fun c25 => ?_) (fun c25 => ?_)
          · refine a_aload_n (pc := 36) (i := 0) (by decide +kernel) rfl ?_
            refine b_getR (pc := 37) (b := 33) fl_X11_52 (by decide +kernel) (sh_5 hn) rfl ?_
            refine a_aload_n (pc := 40) (i := 0) (by decide +kernel) rfl ?_
            refine b_getR (pc := 41) (b := 8) fl_X11_20 (by decide +kernel) (sh_5 hn) rfl ?_
            refine a_iload_n (pc := 44) (i := 1) (by decide +kernel) rfl ?_
            refine a_iload_n (pc := 45) (i := 2) (by decide +kernel) rfl ?_
            refine a_iload_n (pc := 46) (i := 3) (by decide +kernel) rfl ?_
            refine b_callV (pc := 47) (c' := 0) (sl' := 0) [.ref 8, j_i a, j_i b, j_i od] [] ml_X11_214 (by decide +kernel) rfl rfl (sh_33 hn) rfl rfl (Nat.le_of_ble_eq_true rfl) (j_fitI rfl rfl) (s_orderOf hn hwh (RP_y hPs) (by omega) (by omega) (by omega)) (fun v n' σ' hq => ?_)
            obtain ⟨rfl, hbx, x, rfl, hx⟩ := hq
            obtain ⟨σ1, hσ1⟩ : ∃ z, z = σ' := ⟨_, rfl⟩
            rw [← hσ1] at hbx ⊢
            clear hσ1
            have hxr := o_rel_r hx
            show j_at _ _ _ [(0, .ref 5), (1, j_i a), (2, j_i b), (3, j_i od)] [j_i x] _ _ _ _
            refine a_bipush (pc := 50) (n := 100) (by decide +kernel) rfl ?_
            refine a_isub (pc := 52) (by decide +kernel) ?_
            refine a_ireturn (pc := 53) (by decide +kernel) rfl ?_
            refine k_ret ?_
            exact ⟨_, rfl, rfl, hbx, Or.inr (Or.inr ⟨⟨by assumption, by assumption⟩, by omega, by rw [show x - 100 + 100 = x by omega]; exact hx⟩)⟩
          · refine a_iload_n (pc := 28) (i := 3) (by decide +kernel) rfl ?_
            refine a_iconst (pc := 29) (n := 1) (by decide +kernel) ?_
            refine a_icmp_eq (pc := 30) (off := 6) (tgt := 36) (by decide +kernel) (by decide) (by omega) (by omega) (fun c30 => ?_) (fun c30 => ?_)
            · refine a_aload_n (pc := 36) (i := 0) (by decide +kernel) rfl ?_
              refine b_getR (pc := 37) (b := 33) fl_X11_52 (by decide +kernel) (sh_5 hn) rfl ?_
              refine a_aload_n (pc := 40) (i := 0) (by decide +kernel) rfl ?_
              refine b_getR (pc := 41) (b := 8) fl_X11_20 (by decide +kernel) (sh_5 hn) rfl ?_
              refine a_iload_n (pc := 44) (i := 1) (by decide +kernel) rfl ?_
              refine a_iload_n (pc := 45) (i := 2) (by decide +kernel) rfl ?_
              refine a_iload_n (pc := 46) (i := 3) (by decide +kernel) rfl ?_
              refine b_callV (pc := 47) (c' := 0) (sl' := 0) [.ref 8, j_i a, j_i b, j_i od] [] ml_X11_214 (by decide +kernel) rfl rfl (sh_33 hn) rfl rfl (Nat.le_of_ble_eq_true rfl) (j_fitI rfl rfl) (s_orderOf hn hwh (RP_y hPs) (by omega) (by omega) (by omega)) (fun v n' σ' hq => ?_)
              obtain ⟨rfl, hbx, x, rfl, hx⟩ := hq
              obtain ⟨σ2, hσ2⟩ : ∃ z, z = σ' := ⟨_, rfl⟩
              rw [← hσ2] at hbx ⊢
              clear hσ2
              have hxr := o_rel_r hx
              show j_at _ _ _ [(0, .ref 5), (1, j_i a), (2, j_i b), (3, j_i od)] [j_i x] _ _ _ _
              refine a_bipush (pc := 50) (n := 100) (by decide +kernel) rfl ?_
              refine a_isub (pc := 52) (by decide +kernel) ?_
              refine a_ireturn (pc := 53) (by decide +kernel) rfl ?_
              refine k_ret ?_
              exact ⟨_, rfl, rfl, hbx, Or.inr (Or.inr ⟨⟨by assumption, by assumption⟩, by omega, by rw [show x - 100 + 100 = x by omega]; exact hx⟩)⟩
            · refine a_bipush (pc := 33) (n := (-2)) (by decide +kernel) rfl ?_
              refine a_ireturn (pc := 35) (by decide +kernel) rfl ?_
              refine k_ret ?_
              exact ⟨_, rfl, rfl, bx_r, Or.inr (Or.inl ⟨⟨by assumption, by assumption⟩, by omega, rfl⟩)⟩
        · exact absurd c19 (by decide)
      · show j_at _ _ _ [(0, .ref 5), (1, j_i a), (2, j_i b), (3, j_i od)] [j_i 0] _ _ _ _
        have i16 := bi_n p16
        refine a_if_ne (pc := 19) (off := 5) (tgt := 24) (by decide +kernel) (by decide) (by omega) (fun c19 => ?_) (fun c19 => ?_)
        · exact absurd c19 (by decide)
        · refine a_iconst (pc := 22) (n := (-1)) (by decide +kernel) ?_
          refine a_ireturn (pc := 23) (by decide +kernel) rfl ?_
          refine k_ret ?_
          exact ⟨_, rfl, rfl, bx_r, Or.inl ⟨fun w => by first | exact absurd w.1 (by assumption) | exact absurd w.2 (by assumption), rfl⟩⟩
  · show j_at _ _ _ [(0, .ref 5), (1, j_i a), (2, j_i b), (3, j_i od)] [j_i 0] _ _ _ _
    have i5 := bi_n p5
    refine a_if_eq (pc := 8) (off := 14) (tgt := 22) (by decide +kernel) (by decide) (by omega) (fun c8 => ?_) (fun c8 => ?_)
    · refine a_iconst (pc := 22) (n := (-1)) (by decide +kernel) ?_
      refine a_ireturn (pc := 23) (by decide +kernel) rfl ?_
      refine k_ret ?_
      exact ⟨_, rfl, rfl, bx_r, Or.inl ⟨fun w => by first | exact absurd w.1 (by assumption) | exact absurd w.2 (by assumption), rfl⟩⟩
    · exact absurd c8 (by decide)
set_option maxHeartbeats 4000000 in
theorem d_compare {G : j_G} {X : k_X} {n : Nat} {σ : k_St} (hR : RR n σ) {a : Int} (ha : -2147483648 ≤ a ∧ a ≤ 2147483647) {b : Int} (hb : -2147483648 ≤ b ∧ b ≤ 2147483647) {od : Int} (hod : -2147483648 ≤ od ∧ od ≤ 2147483647) {r : Int} (hP : cmp_P σ a b od r)  : k_run G X mX12_compare [.ref 68, j_i a, j_i b, j_i od] n σ 0 0 (fun v2 n2 σ2 => v2 = some (j_i r) ∧ RR n2 σ2) := by
  obtain ⟨hK, hAc, hNm, hPs, hPt, hSm, hIx⟩ := id hR
  have hn := RR_n hR
  have hk := hK.1
  have hwh : h_wf σ 8 := hk.2.1
  have hwm : m_wf σ 16 := hk.2.2
  have hW : 0 ≤ σ.2.1 6 1 ∧ σ.2.1 6 1 ≤ 300 := hk.1
  have hfl := hSm.1
  have hg := hK.2.2.2
  obtain ⟨⟨hgW, hgE, hgM⟩, hgh, hgm⟩ := KR_rg hk hK.2.1
  have hW0 : σ.2.1 6 1 = σ.1 69 0 := hK.2.1.1.1
  have hE0 : σ.2.1 8 3 = σ.1 69 301 := hK.2.1.2.1.1
  have hM0 : σ.2.1 16 5 = σ.1 69 1382 := hK.2.1.2.2.1
  have hfl8 : σ.2.1 68 11 = σ.2.1 5 10 := hSm.2.1
  refine k_enter (by decide +kernel) (Nat.le_of_ble_eq_true rfl) ?_
  show j_at _ _ _ [(0, .ref 68), (1, j_i a), (2, j_i b), (3, j_i od)] [] _ _ _ _
  refine a_aload_n (pc := 0) (i := 0) (by decide +kernel) rfl ?_
  refine a_iload_n (pc := 1) (i := 1) (by decide +kernel) rfl ?_
  refine b_callV (pc := 2) (c' := 0) (sl' := 0) [j_i a] [] ml_X12_202 (by decide +kernel) rfl rfl (sh_68 hn) rfl rfl (Nat.le_of_ble_eq_true rfl) (j_fitI rfl rfl) (s_disHead hn hg (by omega) (by omega)) (fun v n' σ' hq => ?_)
  obtain ⟨x, rfl, e1, e2, hx⟩ := hq
  rw [e1, e2]; clear e1 e2
  rcases hx with ⟨rfl, p2⟩ | ⟨rfl, p2⟩
  · show j_at _ _ _ [(0, .ref 68), (1, j_i a), (2, j_i b), (3, j_i od)] [j_i 1] _ _ _ _
    have i2 := bi_y p2
    have u2 := p2.1
    have w2 := p2.2.1
    refine a_if_eq (pc := 5) (off := 11) (tgt := 16) (by decide +kernel) (by decide) (by omega) (fun c5 => ?_) (fun c5 => ?_)
    · exact absurd c5 (by decide)
    · refine a_aload_n (pc := 8) (i := 0) (by decide +kernel) rfl ?_
      refine a_iload_n (pc := 9) (i := 2) (by decide +kernel) rfl ?_
      refine b_callV (pc := 10) (c' := 0) (sl' := 0) [j_i b] [] ml_X12_202 (by decide +kernel) rfl rfl (sh_68 hn) rfl rfl (Nat.le_of_ble_eq_true rfl) (j_fitI rfl rfl) (s_disHead hn hg (by omega) (by omega)) (fun v n' σ' hq => ?_)
      obtain ⟨x, rfl, e1, e2, hx⟩ := hq
      rw [e1, e2]; clear e1 e2
      rcases hx with ⟨rfl, p10⟩ | ⟨rfl, p10⟩
      · show j_at _ _ _ [(0, .ref 68), (1, j_i a), (2, j_i b), (3, j_i od)] [j_i 1] _ _ _ _
        have i10 := bi_y p10
        have u10 := p10.1
        have w10 := p10.2.1
        refine a_if_ne (pc := 13) (off := 5) (tgt := 18) (by decide +kernel) (by decide) (by omega) (fun c13 => ?_) (fun c13 => ?_)
        · have ua : d_is σ a := by assumption
          have ub : d_is σ b := by assumption
          have ya := (RK_h hR a).mp ua
          have yb := (RK_h hR b).mp ub
          refine a_iload_n (pc := 18) (i := 3) (by decide +kernel) rfl ?_
          refine a_iconst (pc := 19) (n := 0) (by decide +kernel) ?_
          refine a_iconst (pc := 20) (n := 1) (by decide +kernel) ?_
          refine b_callS (pc := 21) (c' := 0) (sl' := 0) [j_i od, j_i 0, j_i 1] [] ml_X12_128 (by decide +kernel) rfl rfl (Nat.le_of_ble_eq_true rfl) (j_fitI rfl rfl) (s_dwithin (by omega) (by omega) (by omega)) (fun v n' σ' hq => ?_)
          obtain ⟨x, rfl, e1, e2, hx⟩ := hq
          rw [e1, e2]; clear e1 e2
          rcases hx with ⟨rfl, p21⟩ | ⟨rfl, p21⟩
          · show j_at _ _ _ [(0, .ref 68), (1, j_i a), (2, j_i b), (3, j_i od)] [j_i 1] _ _ _ _
            refine a_if_ne (pc := 24) (off := 6) (tgt := 30) (by decide +kernel) (by decide) (by omega) (fun c24 => ?_) (fun c24 => ?_)
            · refine a_aload_n (pc := 30) (i := 0) (by decide +kernel) rfl ?_
              refine a_iload_n (pc := 31) (i := 1) (by decide +kernel) rfl ?_
              refine a_iload_n (pc := 32) (i := 2) (by decide +kernel) rfl ?_
              refine a_iload_n (pc := 33) (i := 3) (by decide +kernel) rfl ?_
              refine b_callV (pc := 34) (c' := 0) (sl' := 0) [j_i a, j_i b, j_i od] [] ml_X12_247 (by decide +kernel) rfl rfl (sh_68 hn) rfl rfl (Nat.le_of_ble_eq_true rfl) (j_fitI rfl rfl) (e_compared hn hK hPs ua.1 ua.2.1 ub.1 ub.2.1 (by omega)) (fun v n' σ' hq => ?_)
              obtain ⟨rfl, hbf, x, rfl, hxr, hx⟩ := hq
              obtain ⟨σ1, hσ1⟩ : ∃ z, z = σ' := ⟨_, rfl⟩
              rw [← hσ1] at hbf ⊢
              clear hσ1
              show j_at _ _ _ [(0, .ref 68), (1, j_i a), (2, j_i b), (3, j_i od)] [j_i x] _ _ _ _
              refine a_istore (pc := 37) (i := 4) (lv' := [(0, .ref 68), (1, j_i a), (2, j_i b), (3, j_i od), (4, j_i x)]) (by decide +kernel) (Nat.le_of_ble_eq_true rfl) rfl ?_
              refine a_iload (pc := 39) (i := 4) (by decide +kernel) rfl ?_
              refine a_if_ge (pc := 41) (off := 7) (tgt := 48) (by decide +kernel) (by decide) (by omega) (fun c41 => ?_) (fun c41 => ?_)
              · refine a_iload (pc := 48) (i := 4) (by decide +kernel) rfl ?_
                refine a_if_le (pc := 50) (off := 7) (tgt := 57) (by decide +kernel) (by decide) (by omega) (fun c50 => ?_) (fun c50 => ?_)
                · refine a_iconst (pc := 57) (n := 0) (by decide +kernel) ?_
                  refine a_bipush (pc := 58) (n := 100) (by decide +kernel) rfl ?_
                  refine a_isub (pc := 60) (by decide +kernel) ?_
                  refine a_ireturn (pc := 61) (by decide +kernel) rfl ?_
                  refine k_ret ?_
                  rcases hP with ⟨w, _⟩ | ⟨_, w, _⟩ | ⟨_, _, w⟩
                  · exact absurd ⟨ya, yb⟩ w
                  · exact absurd w (by omega)
                  · have e := o_rel_u hx w
                    have e2 : (0 - 100 : Int) = r := by
                      unfold o_sg f_sgn at e
                      first | (rw [if_pos (by omega)] at e; omega) | (rw [if_neg (by omega), if_pos (by omega)] at e; omega) | (rw [if_neg (by omega), if_neg (by omega)] at e; omega)
                    exact ⟨by rw [e2], RR_scr (b_fr_scr hbf) hR⟩
                · refine a_iconst (pc := 53) (n := 1) (by decide +kernel) ?_
                  refine a_goto (pc := 54) (off := 4) (tgt := 58) (by decide +kernel) (by decide) ?_
                  refine a_bipush (pc := 58) (n := 100) (by decide +kernel) rfl ?_
                  refine a_isub (pc := 60) (by decide +kernel) ?_
                  refine a_ireturn (pc := 61) (by decide +kernel) rfl ?_
                  refine k_ret ?_
                  rcases hP with ⟨w, _⟩ | ⟨_, w, _⟩ | ⟨_, _, w⟩
                  · exact absurd ⟨ya, yb⟩ w
                  · exact absurd w (by omega)
                  · have e := o_rel_u hx w
                    have e2 : (1 - 100 : Int) = r := by
                      unfold o_sg f_sgn at e
                      first | (rw [if_pos (by omega)] at e; omega) | (rw [if_neg (by omega), if_pos (by omega)] at e; omega) | (rw [if_neg (by omega), if_neg (by omega)] at e; omega)
                    exact ⟨by rw [e2], RR_scr (b_fr_scr hbf) hR⟩
              · refine a_iconst (pc := 44) (n := (-1)) (by decide +kernel) ?_
                refine a_goto (pc := 45) (off := 13) (tgt := 58) (by decide +kernel) (by decide) ?_
                refine a_bipush (pc := 58) (n := 100) (by decide +kernel) rfl ?_
                refine a_isub (pc := 60) (by decide +kernel) ?_
                refine a_ireturn (pc := 61) (by decide +kernel) rfl ?_
                refine k_ret ?_
                rcases hP with ⟨w, _⟩ | ⟨_, w, _⟩ | ⟨_, _, w⟩
                · exact absurd ⟨ya, yb⟩ w
                · exact absurd w (by omega)
                · have e := o_rel_u hx w
                  have e2 : ((-1) - 100 : Int) = r := by
                    unfold o_sg f_sgn at e
                    first | (rw [if_pos (by omega)] at e; omega) | (rw [if_neg (by omega), if_pos (by omega)] at e; omega) | (rw [if_neg (by omega), if_neg (by omega)] at e; omega)
                  exact ⟨by rw [e2], RR_scr (b_fr_scr hbf) hR⟩
            · exact absurd c24 (by decide)
          · show j_at _ _ _ [(0, .ref 68), (1, j_i a), (2, j_i b), (3, j_i od)] [j_i 0] _ _ _ _
            refine a_if_ne (pc := 24) (off := 6) (tgt := 30) (by decide +kernel) (by decide) (by omega) (fun c24 => ?_) (fun c24 => ?_)
            · exact absurd c24 (by decide)
            · refine a_bipush (pc := 27) (n := (-2)) (by decide +kernel) rfl ?_
              refine a_ireturn (pc := 29) (by decide +kernel) rfl ?_
              refine k_ret ?_
              rcases hP with ⟨w, _⟩ | ⟨_, _, w⟩ | ⟨_, w, _⟩
              · exact absurd ⟨ya, yb⟩ w
              · rw [w]; exact ⟨rfl, hR⟩
              · exact absurd w (by omega)
        · exact absurd c13 (by decide)
      · show j_at _ _ _ [(0, .ref 68), (1, j_i a), (2, j_i b), (3, j_i od)] [j_i 0] _ _ _ _
        have i10 := bi_n p10
        refine a_if_ne (pc := 13) (off := 5) (tgt := 18) (by decide +kernel) (by decide) (by omega) (fun c13 => ?_) (fun c13 => ?_)
        · exact absurd c13 (by decide)
        · refine a_iconst (pc := 16) (n := (-1)) (by decide +kernel) ?_
          refine a_ireturn (pc := 17) (by decide +kernel) rfl ?_
          refine k_ret ?_
          rcases hP with ⟨_, w⟩ | ⟨w, _, _⟩ | ⟨w, _, _⟩
          · rw [w]; exact ⟨rfl, hR⟩
          · exact absurd w (fun q => by first | exact absurd ((RK_h hR a).mpr q.1) (by assumption) | exact absurd ((RK_h hR b).mpr q.2) (by assumption))
          · exact absurd w (fun q => by first | exact absurd ((RK_h hR a).mpr q.1) (by assumption) | exact absurd ((RK_h hR b).mpr q.2) (by assumption))
  · show j_at _ _ _ [(0, .ref 68), (1, j_i a), (2, j_i b), (3, j_i od)] [j_i 0] _ _ _ _
    have i2 := bi_n p2
    refine a_if_eq (pc := 5) (off := 11) (tgt := 16) (by decide +kernel) (by decide) (by omega) (fun c5 => ?_) (fun c5 => ?_)
    · refine a_iconst (pc := 16) (n := (-1)) (by decide +kernel) ?_
      refine a_ireturn (pc := 17) (by decide +kernel) rfl ?_
      refine k_ret ?_
      rcases hP with ⟨_, w⟩ | ⟨w, _, _⟩ | ⟨w, _, _⟩
      · rw [w]; exact ⟨rfl, hR⟩
      · exact absurd w (fun q => by first | exact absurd ((RK_h hR a).mpr q.1) (by assumption) | exact absurd ((RK_h hR b).mpr q.2) (by assumption))
      · exact absurd w (fun q => by first | exact absurd ((RK_h hR a).mpr q.1) (by assumption) | exact absurd ((RK_h hR b).mpr q.2) (by assumption))
    · exact absurd c5 (by decide)
set_option maxHeartbeats 4000000 in
theorem p_compare {G : j_G} {X : k_X} {n : Nat} {σ : k_St} (hR : RR n σ) {a : Int} (ha : -2147483648 ≤ a ∧ a ≤ 2147483647) {b : Int} (hb : -2147483648 ≤ b ∧ b ≤ 2147483647) {od : Int} (hod : -2147483648 ≤ od ∧ od ≤ 2147483647)  : pr_ok G X mX11_compare mX12_compare [j_i a, j_i b, j_i od] n σ 0 0 := by
  refine ⟨_, c_compare hR ha hb hod, fun v n' σ' hq => ?_⟩
  obtain ⟨r, hv, rfl, hs, hD⟩ := hq
  exact ⟨RR_n hR, r, hv, d_compare (RR_scr (bx_scr hs) hR) ha hb hod ((cmp_scr hs).mpr hD)⟩
