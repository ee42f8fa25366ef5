theorem RT_wf {σ : k_St} (h : RPart σ) : p_wf σ := by
  obtain ⟨a1, a2, a3, a4, a5, a6⟩ := h
  exact ⟨by rw [a2]; exact a1, fun p p0 p1 => (a5 p p0 (by rw [a2] at p1; exact p1)).1⟩
def pt_ok (g f x l : Int) : Prop := (0 ≤ g ∧ g ≤ 299) ∧ (0 ≤ f ∧ f ≤ 2) ∧ (1 ≤ x ∧ x ≤ 999) ∧ (f = 2 → 65 ≤ l ∧ l ≤ 90)
def pt_C (n : Nat) (σ : k_St) (g f x l r : Int) (n' : Nat) (σ' : k_St) : Prop := n' = n ∧ ((¬ pt_ok g f x l ∧ r = -2 ∧ σ' = σ) ∨ (pt_ok g f x l ∧ ∃ p, p_sel σ g p ∧ ((8 ≤ p ∧ r = -4 ∧ σ' = σ) ∨ (p < 8 ∧ σ' = p_set σ p g f x l ∧ r = σ'.2.1 24 4))))
set_option maxHeartbeats 4000000 in
theorem c_part {G : j_G} {X : k_X} {n : Nat} {σ : k_St} (hR : RR n σ) {g : Int} (hg : -2147483648 ≤ g ∧ g ≤ 2147483647) {f : Int} (hf : -2147483648 ≤ f ∧ f ≤ 2147483647) {x : Int} (hx : -2147483648 ≤ x ∧ x ≤ 2147483647) {l : Int} (hl : -2147483648 ≤ l ∧ l ≤ 2147483647)  : k_run G X mX11_part [.ref 5, j_i g, j_i f, j_i x, j_i l] n σ 0 0 (fun v n' σ' => ∃ r : Int, v = some (j_i r) ∧ pt_C n σ g f x l r n' σ') := by
  obtain ⟨hK, hAc, hNm, hPs, hPt, hSm, hIx⟩ := id hR
  have hn := RR_n hR
  have hk := hK.1
  have hwh : h_wf σ 8 := hk.2.1
  have hwm : m_wf σ 16 := hk.2.2
  have hW : 0 ≤ σ.2.1 6 1 ∧ σ.2.1 6 1 ≤ 300 := hk.1
  have hfl := hSm.1
  refine k_enter (by decide +kernel) (Nat.le_of_ble_eq_true rfl) ?_
  show j_at _ _ _ [(0, .ref 5), (1, j_i g), (2, j_i f), (3, j_i x), (4, j_i l)] [] _ _ _ _
  refine a_iload_n (pc := 0) (i := 1) (by decide +kernel) rfl ?_
  refine a_if_lt (pc := 1) (off := 29) (tgt := 30) (by decide +kernel) (by decide) (by omega) (fun c1 => ?_) (fun c1 => ?_)
  · refine a_bipush (pc := 30) (n := (-2)) (by decide +kernel) rfl ?_
    refine a_ireturn (pc := 32) (by decide +kernel) rfl ?_
    refine k_ret ?_
    exact ⟨_, rfl, rfl, Or.inl ⟨by unfold pt_ok; omega, rfl, rfl⟩⟩
  · refine a_iload_n (pc := 4) (i := 1) (by decide +kernel) rfl ?_
    refine a_sipush (pc := 5) (n := 300) (by decide +kernel) rfl ?_
    refine a_icmp_ge (pc := 8) (off := 22) (tgt := 30) (by decide +kernel) (by decide) (by omega) (by omega) (fun c8 => ?_) (fun c8 => ?_)
    · refine a_bipush (pc := 30) (n := (-2)) (by decide +kernel) rfl ?_
      refine a_ireturn (pc := 32) (by decide +kernel) rfl ?_
      refine k_ret ?_
      exact ⟨_, rfl, rfl, Or.inl ⟨by unfold pt_ok; omega, rfl, rfl⟩⟩
    · refine a_iload_n (pc := 11) (i := 2) (by decide +kernel) rfl ?_
      refine b_callS (pc := 12) (c' := 0) (sl' := 0) [j_i f] [] ml_X11_128 (by decide +kernel) rfl rfl (Nat.le_of_ble_eq_true rfl) (j_fitI rfl rfl) (s_isForm (by omega)) (fun v n' σ' hq => ?_)
      obtain ⟨x, rfl, e1, e2, hx⟩ := hq
      rw [e1, e2]; clear e1 e2
      rcases hx with ⟨rfl, p12⟩ | ⟨rfl, p12⟩
      · show j_at _ _ _ [(0, .ref 5), (1, j_i g), (2, j_i f), (3, j_i x), (4, j_i l)] [j_i 1] _ _ _ _
        refine a_if_eq (pc := 15) (off := 15) (tgt := 30) (by decide +kernel) (by decide) (by omega) (fun c15 => ?_) (fun c15 => ?_)
        · exact absurd c15 (by decide)
        · refine a_iload_n (pc := 18) (i := 3) (by decide +kernel) rfl ?_
          refine a_iconst (pc := 19) (n := 1) (by decide +kernel) ?_
          refine a_icmp_lt (pc := 20) (off := 10) (tgt := 30) (by decide +kernel) (by decide) (by omega) (by omega) (fun c20 => ?_) (fun c20 => ?_)
          · refine a_bipush (pc := 30) (n := (-2)) (by decide +kernel) rfl ?_
            refine a_ireturn (pc := 32) (by decide +kernel) rfl ?_
            refine k_ret ?_
            exact ⟨_, rfl, rfl, Or.inl ⟨by unfold pt_ok; omega, rfl, rfl⟩⟩
          · refine a_iload_n (pc := 23) (i := 3) (by decide +kernel) rfl ?_
            refine a_sipush (pc := 24) (n := 999) (by decide +kernel) rfl ?_
            refine a_icmp_le (pc := 27) (off := 6) (tgt := 33) (by decide +kernel) (by decide) (by omega) (by omega) (fun c27 => ?_) (fun c27 => ?_)
            · refine a_iload_n (pc := 33) (i := 2) (by decide +kernel) rfl ?_
              refine a_iconst (pc := 34) (n := 2) (by decide +kernel) ?_
              refine a_icmp_ne (pc := 35) (off := 20) (tgt := 55) (by decide +kernel) (by decide) (by omega) (by omega) (fun c35 => ?_) (fun c35 => ?_)
              · refine a_aload_n (pc := 55) (i := 0) (by decide +kernel) rfl ?_
                refine b_getR (pc := 56) (b := 24) fl_X11_36 (by decide +kernel) (sh_5 hn) rfl ?_
                refine a_iload_n (pc := 59) (i := 1) (by decide +kernel) rfl ?_
                refine a_iload_n (pc := 60) (i := 2) (by decide +kernel) rfl ?_
                refine a_iload_n (pc := 61) (i := 3) (by decide +kernel) rfl ?_
                refine a_iload (pc := 62) (i := 4) (by decide +kernel) rfl ?_
                have hok : pt_ok g f x l := by unfold pt_ok; omega
                refine b_callV (pc := 64) (c' := 0) (sl' := 0) [j_i g, j_i f, j_i x, j_i l] [] ml_X11_131 (by decide +kernel) rfl rfl (sh_24 hn) rfl rfl (Nat.le_of_ble_eq_true rfl) (j_fitI rfl rfl) (s_begin hn (RT_wf hPt) (by omega)) (fun v n' σ' hq => ?_)
                obtain ⟨e1, p, q1, ⟨q2, rfl, e2⟩ | ⟨q2, rfl, e2⟩⟩ := hq
                · rw [e1, e2]; clear e1 e2
                  show j_at _ _ _ [(0, .ref 5), (1, j_i g), (2, j_i f), (3, j_i x), (4, j_i l)] [j_i 0] _ _ _ _
                  refine a_if_eq (pc := 67) (off := 13) (tgt := 80) (by decide +kernel) (by decide) (by omega) (fun c67 => ?_) (fun c67 => ?_)
                  · refine a_bipush (pc := 80) (n := (-4)) (by decide +kernel) rfl ?_
                    refine a_ireturn (pc := 82) (by decide +kernel) rfl ?_
                    refine k_ret ?_
                    exact ⟨_, rfl, rfl, Or.inr ⟨hok, p, q1, Or.inl ⟨q2, rfl, rfl⟩⟩⟩
                  · exact absurd c67 (by decide)
                · rw [e1]; clear e1
                  obtain ⟨σ9, hσ9⟩ : ∃ z, z = p_set σ p g f x l := ⟨_, rfl⟩
                  rw [e2, ← hσ9]; clear e2
                  show j_at _ _ _ [(0, .ref 5), (1, j_i g), (2, j_i f), (3, j_i x), (4, j_i l)] [j_i 1] _ _ _ _
                  refine a_if_eq (pc := 67) (off := 13) (tgt := 80) (by decide +kernel) (by decide) (by omega) (fun c67 => ?_) (fun c67 => ?_)
                  · exact absurd c67 (by decide)
                  · refine a_aload_n (pc := 70) (i := 0) (by decide +kernel) rfl ?_
                    refine b_getR (pc := 71) (b := 24) fl_X11_36 (by decide +kernel) (sh_5 hn) rfl ?_
                    refine b_getI (pc := 74) fl_X11_135 (by decide +kernel) (sh_24 hn) rfl ?_
                    refine a_goto (pc := 77) (off := 5) (tgt := 82) (by decide +kernel) (by decide) ?_
                    refine a_ireturn (pc := 82) (by decide +kernel) rfl ?_
                    refine k_ret ?_
                    exact ⟨_, rfl, rfl, Or.inr ⟨hok, p, q1, Or.inr ⟨q2, hσ9, rfl⟩⟩⟩
              · refine a_iload (pc := 38) (i := 4) (by decide +kernel) rfl ?_
                refine a_bipush (pc := 40) (n := 65) (by decide +kernel) rfl ?_
                refine a_icmp_lt (pc := 42) (off := 10) (tgt := 52) (by decide +kernel) (by decide) (by omega) (by omega) (fun c42 => ?_) (fun c42 => ?_)
                · refine a_bipush (pc := 52) (n := (-2)) (by decide +kernel) rfl ?_
                  refine a_ireturn (pc := 54) (by decide +kernel) rfl ?_
                  refine k_ret ?_
                  exact ⟨_, rfl, rfl, Or.inl ⟨by unfold pt_ok; omega, rfl, rfl⟩⟩
                · refine a_iload (pc := 45) (i := 4) (by decide +kernel) rfl ?_
                  refine a_bipush (pc := 47) (n := 90) (by decide +kernel) rfl ?_
                  refine a_icmp_le (pc := 49) (off := 6) (tgt := 55) (by decide +kernel) (by decide) (by omega) (by omega) (fun c49 => ?_) (fun c49 => ?_)
                  · refine a_aload_n (pc := 55) (i := 0) (by decide +kernel) rfl ?_
                    refine b_getR (pc := 56) (b := 24) fl_X11_36 (by decide +kernel) (sh_5 hn) rfl ?_
                    refine a_iload_n (pc := 59) (i := 1) (by decide +kernel) rfl ?_
                    refine a_iload_n (pc := 60) (i := 2) (by decide +kernel) rfl ?_
                    refine a_iload_n (pc := 61) (i := 3) (by decide +kernel) rfl ?_
                    refine a_iload (pc := 62) (i := 4) (by decide +kernel) rfl ?_
                    have hok : pt_ok g f x l := by unfold pt_ok; omega
                    refine b_callV (pc := 64) (c' := 0) (sl' := 0) [j_i g, j_i f, j_i x, j_i l] [] ml_X11_131 (by decide +kernel) rfl rfl (sh_24 hn) rfl rfl (Nat.le_of_ble_eq_true rfl) (j_fitI rfl rfl) (s_begin hn (RT_wf hPt) (by omega)) (fun v n' σ' hq => ?_)
                    obtain ⟨e1, p, q1, ⟨q2, rfl, e2⟩ | ⟨q2, rfl, e2⟩⟩ := hq
                    · rw [e1, e2]; clear e1 e2
                      show j_at _ _ _ [(0, .ref 5), (1, j_i g), (2, j_i f), (3, j_i x), (4, j_i l)] [j_i 0] _ _ _ _
                      refine a_if_eq (pc := 67) (off := 13) (tgt := 80) (by decide +kernel) (by decide) (by omega) (fun c67 => ?_) (fun c67 => ?_)
                      · refine a_bipush (pc := 80) (n := (-4)) (by decide +kernel) rfl ?_
                        refine a_ireturn (pc := 82) (by decide +kernel) rfl ?_
                        refine k_ret ?_
                        exact ⟨_, rfl, rfl, Or.inr ⟨hok, p, q1, Or.inl ⟨q2, rfl, rfl⟩⟩⟩
                      · exact absurd c67 (by decide)
                    · rw [e1]; clear e1
                      obtain ⟨σ9, hσ9⟩ : ∃ z, z = p_set σ p g f x l := ⟨_, rfl⟩
                      rw [e2, ← hσ9]; clear e2
                      show j_at _ _ _ [(0, .ref 5), (1, j_i g), (2, j_i f), (3, j_i x), (4, j_i l)] [j_i 1] _ _ _ _
                      refine a_if_eq (pc := 67) (off := 13) (tgt := 80) (by decide +kernel) (by decide) (by omega) (fun c67 => ?_) (fun c67 => ?_)
                      · exact absurd c67 (by decide)
                      · refine a_aload_n (pc := 70) (i := 0) (by decide +kernel) rfl ?_
                        refine b_getR (pc := 71) (b := 24) fl_X11_36 (by decide +kernel) (sh_5 hn) rfl ?_
                        refine b_getI (pc := 74) fl_X11_135 (by decide +kernel) (sh_24 hn) rfl ?_
                        refine a_goto (pc := 77) (off := 5) (tgt := 82) (by decide +kernel) (by decide) ?_
                        refine a_ireturn (pc := 82) (by decide +kernel) rfl ?_
                        refine k_ret ?_
                        exact ⟨_, rfl, rfl, Or.inr ⟨hok, p, q1, Or.inr ⟨q2, hσ9, rfl⟩⟩⟩
                  · refine a_bipush (pc := 52) (n := (-2)) (by decide +kernel) rfl ?_
                    refine a_ireturn (pc := 54) (by decide +kernel) rfl ?_
                    refine k_ret ?_
                    exact ⟨_, rfl, rfl, Or.inl ⟨by unfold pt_ok; omega, rfl, rfl⟩⟩
            · refine a_bipush (pc := 30) (n := (-2)) (by decide +kernel) rfl ?_
              refine a_ireturn (pc := 32) (by decide +kernel) rfl ?_
              refine k_ret ?_
              exact ⟨_, rfl, rfl, Or.inl ⟨by unfold pt_ok; omega, rfl, rfl⟩⟩
      · show j_at _ _ _ [(0, .ref 5), (1, j_i g), (2, j_i f), (3, j_i x), (4, j_i l)] [j_i 0] _ _ _ _
        refine a_if_eq (pc := 15) (off := 15) (tgt := 30) (by decide +kernel) (by decide) (by omega) (fun c15 => ?_) (fun c15 => ?_)
        · refine a_bipush (pc := 30) (n := (-2)) (by decide +kernel) rfl ?_
          refine a_ireturn (pc := 32) (by decide +kernel) rfl ?_
          refine k_ret ?_
          exact ⟨_, rfl, rfl, Or.inl ⟨by unfold pt_ok; omega, rfl, rfl⟩⟩
        · exact absurd c15 (by decide)
