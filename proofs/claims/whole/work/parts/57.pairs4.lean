theorem KR_h {σ : k_St} (hK : RKept σ) {h : Int} (h0 : 0 ≤ h) (h1 : h < σ.1 69 301) : σ.1 11 h = σ.1 69 (302 + 36 * h + 1) ∧ σ.1 14 h = σ.1 69 (302 + 36 * h + 2) ∧ (∀ i, 0 ≤ i → i < σ.1 69 (302 + 36 * h + 1) → σ.1 10 (h * 16 + i) = σ.1 69 (302 + 36 * h + 3 + i)) ∧ (∀ i, 0 ≤ i → i < σ.1 69 (302 + 36 * h + 2) → σ.1 13 (h * 16 + i) = σ.1 69 (302 + 36 * h + 3 + 16 + i)) := by
  obtain ⟨e1, e2, e3, e4, e5⟩ := hK.2.1.2.1.2 h h0 h1
  exact ⟨e2, e3, e4, e5⟩
/-- a head's signs, as the Model has them -/
def e_own (g : Int → Int) (h i : Int) : Int := if 0 ≤ i ∧ i < g (302 + 36 * h + 1) then g (302 + 36 * h + 3 + i) else -9
def e_key (g : Int → Int) (h i : Int) : Int := if 0 ≤ i ∧ i < e_sl g h then e_st g h i else -9
theorem KR_own {σ : k_St} (hK : RKept σ) {h : Int} (h0 : 0 ≤ h) (h1 : h < σ.1 69 301) : r_cnt σ 9 30 h = σ.1 69 (302 + 36 * h + 1) ∧ ∀ i, r_sgn σ 9 30 h i = e_own (σ.1 69) h i := by
  obtain ⟨a1, a2, a3, a4⟩ := KR_h hK h0 h1
  have hE := (KR_rg hK.1 hK.2.1).1.2.1
  refine ⟨?_, fun i => ?_⟩
  · unfold r_cnt; rw [if_pos (by omega)]; exact a1
  · unfold r_sgn e_own
    show (if 0 ≤ h ∧ h < (30 : Nat) ∧ 0 ≤ i ∧ i < σ.1 11 h then σ.1 10 (h * 16 + i) else -9) = _
    rw [a1]
    by_cases q : 0 ≤ i ∧ i < σ.1 69 (302 + 36 * h + 1)
    · rw [if_pos (by omega), if_pos q]; exact a3 i q.1 q.2
    · rw [if_neg (by omega), if_neg q]
theorem KR_key {σ : k_St} (hK : RKept σ) {h : Int} (h0 : 0 ≤ h) (h1 : h < σ.1 69 301) : r_cnt σ (h_rows σ h 1) 30 h = e_sl (σ.1 69) h ∧ ∀ i, r_sgn σ (h_rows σ h 1) 30 h i = e_key (σ.1 69) h i := by
  obtain ⟨a1, a2, a3, a4⟩ := KR_h hK h0 h1
  have hE := (KR_rg hK.1 hK.2.1).1.2.1
  have hq := (KR_rg hK.1 hK.2.1).2.1 h h0 h1
  have e12 : r_cnt σ 12 30 h = σ.1 69 (302 + 36 * h + 2) := by unfold r_cnt; rw [if_pos (by omega)]; exact a2
  by_cases z : σ.1 69 (302 + 36 * h + 2) = 0
  · have hr : h_rows σ h 1 = 9 := by unfold h_rows; rw [if_neg (by omega)]
    obtain ⟨b1, b2⟩ := KR_own hK h0 h1
    rw [hr]
    refine ⟨by rw [b1]; unfold e_sl; rw [if_pos z], fun i => ?_⟩
    rw [b2 i]; unfold e_own e_key e_sl e_st; rw [if_pos z, if_pos z]
  · have hr : h_rows σ h 1 = 12 := by unfold h_rows; rw [if_pos ⟨rfl, by omega⟩]
    rw [hr]
    refine ⟨by rw [e12]; unfold e_sl; rw [if_neg z], fun i => ?_⟩
    unfold r_sgn e_key e_sl e_st
    rw [if_neg z, if_neg z]
    show (if 0 ≤ h ∧ h < (30 : Nat) ∧ 0 ≤ i ∧ i < σ.1 14 h then σ.1 13 (h * 16 + i) else -9) = _
    rw [a2]
    by_cases q : 0 ≤ i ∧ i < σ.1 69 (302 + 36 * h + 2)
    · rw [if_pos (by omega), if_pos q]; exact a4 i q.1 q.2
    · rw [if_neg (by omega), if_neg q]
theorem h_rows_2 (σ : k_St) (h w : Int) : h_rows σ h w = 9 ∨ h_rows σ h w = 12 := by unfold h_rows; split; exact Or.inr rfl; exact Or.inl rfl
theorem e_sl_in {σ : k_St} (hK : RKept σ) {h : Int} (h0 : 0 ≤ h) (h1 : h < σ.1 69 301) : 0 ≤ e_sl (σ.1 69) h ∧ e_sl (σ.1 69) h ≤ 16 := by
  have hq := (KR_rg hK.1 hK.2.1).2.1 h h0 h1
  unfold e_sl; split
  · exact hq.1
  · exact hq.2.1
theorem h_rows_0 (σ : k_St) (h : Int) : h_rows σ h 0 = 9 := by unfold h_rows; rw [if_neg (by omega)]
def about_P (σ : k_St) (h w r : Int) : Prop := (bi (h_is σ h) = 0 ∧ r = -1) ∨ (bi (h_is σ h) = 1 ∧ w ≠ 0 ∧ w ≠ 1 ∧ r = -2) ∨ (bi (h_is σ h) = 1 ∧ (w = 0 ∨ w = 1) ∧ r = r_cnt σ (h_rows σ h w) 30 h)
set_option maxHeartbeats 4000000 in
theorem c_about {G : j_G} {X : k_X} {n : Nat} {σ : k_St} (hR : RR n σ) {h : Int} (hh : -2147483648 ≤ h ∧ h ≤ 2147483647) {w : Int} (hw : -2147483648 ≤ w ∧ w ≤ 2147483647)  : k_run G X mX11_about [.ref 5, j_i h, j_i w] n σ 0 0 (fun v n' σ' => ∃ r : Int, v = some (j_i r) ∧ n' = n ∧ σ' = σ ∧ about_P σ h w r) := by
  obtain ⟨hK, hAc, hNm, hPs, hPt, hSm, hIx⟩ := id hR
  have hn := RR_n hR
  have hk := hK.1
  have hwh : h_wf σ 8 := hk.2.1
  have hwm : m_wf σ 16 := hk.2.2
  have hW : 0 ≤ σ.2.1 6 1 ∧ σ.2.1 6 1 ≤ 300 := hk.1
  have hfl := hSm.1
  obtain ⟨x, hx⟩ : ∃ x, h_rows σ h w = x := ⟨_, rfl⟩
  have hx2 : x = 9 ∨ x = 12 := by rw [← hx]; exact h_rows_2 σ h w
  have hxA : r_at X n x 30 := by rcases hx2 with q | q <;> subst q; exact rA_9 hn; exact rA_12 hn
  have hxw : r_wf σ x 30 := by rcases hx2 with q | q <;> subst q; exact hwh.2.1; exact hwh.2.2.1
  refine k_enter (by decide +kernel) (Nat.le_of_ble_eq_true rfl) ?_
  show j_at _ _ _ [(0, .ref 5), (1, j_i h), (2, j_i w)] [] _ _ _ _
  refine a_aload_n (pc := 0) (i := 0) (by decide +kernel) rfl ?_
  refine b_getR (pc := 1) (b := 8) fl_X11_20 (by decide +kernel) (sh_5 hn) rfl ?_
  refine a_iload_n (pc := 4) (i := 1) (by decide +kernel) rfl ?_
  refine b_callV (pc := 5) (c' := 0) (sl' := 0) [j_i h] [] ml_X11_180 (by decide +kernel) rfl rfl (sh_8 hn) rfl rfl (Nat.le_of_ble_eq_true rfl) (j_fitI rfl rfl) (s_hhas hn hwh (by omega)) (fun v n' σ' hq => ?_)
  obtain ⟨x, rfl, e1, e2, hx⟩ := hq
  rw [e1, e2]; clear e1 e2
  rcases hx with ⟨rfl, p5⟩ | ⟨rfl, p5⟩
  · show j_at _ _ _ [(0, .ref 5), (1, j_i h), (2, j_i w)] [j_i 1] _ _ _ _
    have i5 := bi_y p5
    have u5 := p5.1
    have w5 := p5.2.1
    refine a_if_ne (pc := 8) (off := 5) (tgt := 13) (by decide +kernel) (by decide) (by omega) (fun c8 => ?_) (fun c8 => ?_)
    · refine a_iload_n (pc := 13) (i := 2) (by decide +kernel) rfl ?_
      refine a_if_eq (pc := 14) (off := 11) (tgt := 25) (by decide +kernel) (by decide) (by omega) (fun c14 => ?_) (fun c14 => ?_)
      · refine a_aload_n (pc := 25) (i := 0) (by decide +kernel) rfl ?_
        refine b_getR (pc := 26) (b := 8) fl_X11_20 (by decide +kernel) (sh_5 hn) rfl ?_
        refine a_iload_n (pc := 29) (i := 1) (by decide +kernel) rfl ?_
        refine a_iload_n (pc := 30) (i := 2) (by decide +kernel) rfl ?_
        refine b_pureV (pc := 31) [j_i h, j_i w] [] ml_X11_206 (by decide +kernel) rfl rfl (sh_8 hn) rfl rfl (Nat.le_of_ble_eq_true rfl) (j_fitI rfl rfl) (s_hrows hn hwh (by omega) (by omega)) ?_
        rw [hx]
        show j_at _ _ _ [(0, .ref 5), (1, j_i h), (2, j_i w)] [.ref x] _ _ _ _
        refine a_iload_n (pc := 34) (i := 1) (by decide +kernel) rfl ?_
        refine b_pureV (pc := 35) [j_i h] [] ml_X11_158 (by decide +kernel) rfl rfl hxA.2.2.1 rfl rfl (Nat.le_of_ble_eq_true rfl) (j_fitI rfl rfl) (s_countOf hxA hxw (by omega)) ?_
        have qc := r_cnt_in hxw h
        show j_at _ _ _ [(0, .ref 5), (1, j_i h), (2, j_i w)] [j_i (r_cnt σ x 30 h)] _ _ _ _
        refine a_ireturn (pc := 38) (by decide +kernel) rfl ?_
        refine k_ret ?_
        exact ⟨_, rfl, rfl, rfl, by unfold about_P; rw [hx]; omega⟩
      · refine a_iload_n (pc := 17) (i := 2) (by decide +kernel) rfl ?_
        refine a_iconst (pc := 18) (n := 1) (by decide +kernel) ?_
        refine a_icmp_eq (pc := 19) (off := 6) (tgt := 25) (by decide +kernel) (by decide) (by omega) (by omega) (fun c19 => ?_) (fun c19 => ?_)
        · refine a_aload_n (pc := 25) (i := 0) (by decide +kernel) rfl ?_
          refine b_getR (pc := 26) (b := 8) fl_X11_20 (by decide +kernel) (sh_5 hn) rfl ?_
          refine a_iload_n (pc := 29) (i := 1) (by decide +kernel) rfl ?_
          refine a_iload_n (pc := 30) (i := 2) (by decide +kernel) rfl ?_
          refine b_pureV (pc := 31) [j_i h, j_i w] [] ml_X11_206 (by decide +kernel) rfl rfl (sh_8 hn) rfl rfl (Nat.le_of_ble_eq_true rfl) (j_fitI rfl rfl) (s_hrows hn hwh (by omega) (by omega)) ?_
          rw [hx]
          show j_at _ _ _ [(0, .ref 5), (1, j_i h), (2, j_i w)] [.ref x] _ _ _ _
          refine a_iload_n (pc := 34) (i := 1) (by decide +kernel) rfl ?_
          refine b_pureV (pc := 35) [j_i h] [] ml_X11_158 (by decide +kernel) rfl rfl hxA.2.2.1 rfl rfl (Nat.le_of_ble_eq_true rfl) (j_fitI rfl rfl) (s_countOf hxA hxw (by omega)) ?_
          have qc := r_cnt_in hxw h
          show j_at _ _ _ [(0, .ref 5), (1, j_i h), (2, j_i w)] [j_i (r_cnt σ x 30 h)] _ _ _ _
          refine a_ireturn (pc := 38) (by decide +kernel) rfl ?_
          refine k_ret ?_
          exact ⟨_, rfl, rfl, rfl, by unfold about_P; rw [hx]; omega⟩
        · refine a_bipush (pc := 22) (n := (-2)) (by decide +kernel) rfl ?_
          refine a_ireturn (pc := 24) (by decide +kernel) rfl ?_
          refine k_ret ?_
          exact ⟨_, rfl, rfl, rfl, by unfold about_P; rw [hx]; omega⟩
    · exact absurd c8 (by decide)
  · show j_at _ _ _ [(0, .ref 5), (1, j_i h), (2, j_i w)] [j_i 0] _ _ _ _
    have i5 := bi_n p5
    refine a_if_ne (pc := 8) (off := 5) (tgt := 13) (by decide +kernel) (by decide) (by omega) (fun c8 => ?_) (fun c8 => ?_)
    · exact absurd c8 (by decide)
    · refine a_iconst (pc := 11) (n := (-1)) (by decide +kernel) ?_
      refine a_ireturn (pc := 12) (by decide +kernel) rfl ?_
      refine k_ret ?_
      exact ⟨_, rfl, rfl, rfl, by unfold about_P; rw [hx]; omega⟩
set_option maxHeartbeats 4000000 in
theorem d_about {G : j_G} {X : k_X} {n : Nat} {σ : k_St} (hR : RR n σ) {h : Int} (hh : -2147483648 ≤ h ∧ h ≤ 2147483647) {w : Int} (hw : -2147483648 ≤ w ∧ w ≤ 2147483647) {r : Int} (hP : about_P σ h w r)  : k_run G X mX12_about [.ref 68, j_i h, j_i w] n σ 0 0 (fun v2 n2 σ2 => v2 = some (j_i r) ∧ RR n2 σ2) := by
  obtain ⟨hK, hAc, hNm, hPs, hPt, hSm, hIx⟩ := id hR
  have hn := RR_n hR
  have hk := hK.1
  have hwh : h_wf σ 8 := hk.2.1
  have hwm : m_wf σ 16 := hk.2.2
  have hW : 0 ≤ σ.2.1 6 1 ∧ σ.2.1 6 1 ≤ 300 := hk.1
  have hfl := hSm.1
  have hg := hK.2.2.2
  obtain ⟨⟨hgW, hgE, hgM⟩, hgh, hgm⟩ := KR_rg hk hK.2.1
  have hW0 : σ.2.1 6 1 = σ.1 69 0 := hK.2.1.1.1
  have hE0 : σ.2.1 8 3 = σ.1 69 301 := hK.2.1.2.1.1
  have hM0 : σ.2.1 16 5 = σ.1 69 1382 := hK.2.1.2.2.1
  have hfl8 : σ.2.1 68 11 = σ.2.1 5 10 := hSm.2.1
  have e2 : bi (h_is σ h) = bi (d_is σ h) := bi_c (RK_h hR h).symm
  refine k_enter (by decide +kernel) (Nat.le_of_ble_eq_true rfl) ?_
  show j_at _ _ _ [(0, .ref 68), (1, j_i h), (2, j_i w)] [] _ _ _ _
  refine a_aload_n (pc := 0) (i := 0) (by decide +kernel) rfl ?_
  refine a_iload_n (pc := 1) (i := 1) (by decide +kernel) rfl ?_
  refine b_callV (pc := 2) (c' := 0) (sl' := 0) [j_i h] [] ml_X12_202 (by decide +kernel) rfl rfl (sh_68 hn) rfl rfl (Nat.le_of_ble_eq_true rfl) (j_fitI rfl rfl) (s_disHead hn hg (by omega) (by omega)) (fun v n' σ' hq => ?_)
  obtain ⟨x, rfl, e1, e2, hx⟩ := hq
  rw [e1, e2]; clear e1 e2
  rcases hx with ⟨rfl, p2⟩ | ⟨rfl, p2⟩
  · show j_at _ _ _ [(0, .ref 68), (1, j_i h), (2, j_i w)] [j_i 1] _ _ _ _
    have i2 := bi_y p2
    have u2 := p2.1
    have w2 := p2.2.1
    have hh1 : h < σ.1 69 301 := w2
    obtain ⟨ho1, ho2⟩ := KR_own hK u2 hh1
    obtain ⟨hk1, hk2⟩ := KR_key hK u2 hh1
    have hsl := e_sl_in hK u2 hh1
    have hq9 := hgh h u2 hh1
    refine a_if_ne (pc := 5) (off := 5) (tgt := 10) (by decide +kernel) (by decide) (by omega) (fun c5 => ?_) (fun c5 => ?_)
    · refine a_iload_n (pc := 10) (i := 2) (by decide +kernel) rfl ?_
      refine a_if_ne (pc := 11) (off := 11) (tgt := 22) (by decide +kernel) (by decide) (by omega) (fun c11 => ?_) (fun c11 => ?_)
      · refine a_iload_n (pc := 22) (i := 2) (by decide +kernel) rfl ?_
        refine a_iconst (pc := 23) (n := 1) (by decide +kernel) ?_
        refine a_icmp_ne (pc := 24) (off := 11) (tgt := 35) (by decide +kernel) (by decide) (by omega) (by omega) (fun c24 => ?_) (fun c24 => ?_)
        · refine a_bipush (pc := 35) (n := (-2)) (by decide +kernel) rfl ?_
          refine a_ireturn (pc := 37) (by decide +kernel) rfl ?_
          refine k_ret ?_
          have hr : ((-2) : Int) = r := by
                                      unfold about_P at hP; rw [e2] at hP
                                      first | omega | (have e0 : h_rows σ h 0 = 9 := h_rows_0 σ h
                                                       rcases hP with q | q | q
                                                       · omega
                                                       · omega
                                                       · first | (have qw : w = 0 := by omega
                                                                  subst qw; rw [e0, ho1] at q; omega) | (have qw : w = 1 := by omega
                                                                                                         subst qw; rw [hk1] at q; omega))
          exact ⟨by rw [hr], hR⟩
        · refine a_aload_n (pc := 27) (i := 0) (by decide +kernel) rfl ?_
          refine a_iload_n (pc := 28) (i := 1) (by decide +kernel) rfl ?_
          refine b_pureV (pc := 29) [j_i h] [] ml_X12_221 (by decide +kernel) rfl rfl (sh_68 hn) rfl rfl (Nat.le_of_ble_eq_true rfl) (j_fitI rfl rfl) (s_dsortedLong hn hg (by omega)) ?_
          show j_at _ _ _ [(0, .ref 68), (1, j_i h), (2, j_i w)] [j_i (e_sl (σ.1 69) h)] _ _ _ _
          refine a_goto (pc := 32) (off := 5) (tgt := 37) (by decide +kernel) (by decide) ?_
          refine a_ireturn (pc := 37) (by decide +kernel) rfl ?_
          refine k_ret ?_
          have hr : (e_sl (σ.1 69) h : Int) = r := by
                                      unfold about_P at hP; rw [e2] at hP
                                      first | omega | (have e0 : h_rows σ h 0 = 9 := h_rows_0 σ h
                                                       rcases hP with q | q | q
                                                       · omega
                                                       · omega
                                                       · first | (have qw : w = 0 := by omega
                                                                  subst qw; rw [e0, ho1] at q; omega) | (have qw : w = 1 := by omega
                                                                                                         subst qw; rw [hk1] at q; omega))
          exact ⟨by rw [hr], hR⟩
      · refine a_aload_n (pc := 14) (i := 0) (by decide +kernel) rfl ?_
        refine a_iload_n (pc := 15) (i := 1) (by decide +kernel) rfl ?_
        refine b_pureV (pc := 16) [j_i h] [] ml_X12_186 (by decide +kernel) rfl rfl (sh_68 hn) rfl rfl (Nat.le_of_ble_eq_true rfl) (j_fitI rfl rfl) (s_dsignsOf hn (by omega)) ?_
        have q2 := hg (302 + 36 * h + 1)
        show j_at _ _ _ [(0, .ref 68), (1, j_i h), (2, j_i w)] [j_i (σ.1 69 (302 + 36 * h + 1))] _ _ _ _
        refine a_goto (pc := 19) (off := 18) (tgt := 37) (by decide +kernel) (by decide) ?_
        refine a_ireturn (pc := 37) (by decide +kernel) rfl ?_
        refine k_ret ?_
        have hr : (σ.1 69 (302 + 36 * h + 1) : Int) = r := by
                                    unfold about_P at hP; rw [e2] at hP
                                    first | omega | (have e0 : h_rows σ h 0 = 9 := h_rows_0 σ h
                                                     rcases hP with q | q | q
                                                     · omega
                                                     · omega
                                                     · first | (have qw : w = 0 := by omega
                                                                subst qw; rw [e0, ho1] at q; omega) | (have qw : w = 1 := by omega
                                                                                                       subst qw; rw [hk1] at q; omega))
        exact ⟨by rw [hr], hR⟩
    · exact absurd c5 (by decide)
  · show j_at _ _ _ [(0, .ref 68), (1, j_i h), (2, j_i w)] [j_i 0] _ _ _ _
    have i2 := bi_n p2
    refine a_if_ne (pc := 5) (off := 5) (tgt := 10) (by decide +kernel) (by decide) (by omega) (fun c5 => ?_) (fun c5 => ?_)
    · exact absurd c5 (by decide)
    · refine a_iconst (pc := 8) (n := (-1)) (by decide +kernel) ?_
      refine a_ireturn (pc := 9) (by decide +kernel) rfl ?_
      refine k_ret ?_
      have hr : ((-1) : Int) = r := by
                                  unfold about_P at hP; rw [e2] at hP
                                  first | omega | (have e0 : h_rows σ h 0 = 9 := h_rows_0 σ h
                                                   rcases hP with q | q | q
                                                   · omega
                                                   · omega
                                                   · first | (have qw : w = 0 := by omega
                                                              subst qw; rw [e0, ho1] at q; omega) | (have qw : w = 1 := by omega
                                                                                                     subst qw; rw [hk1] at q; omega))
      exact ⟨by rw [hr], hR⟩
set_option maxHeartbeats 4000000 in
theorem p_about {G : j_G} {X : k_X} {n : Nat} {σ : k_St} (hR : RR n σ) {h : Int} (hh : -2147483648 ≤ h ∧ h ≤ 2147483647) {w : Int} (hw : -2147483648 ≤ w ∧ w ≤ 2147483647)  : pr_ok G X mX11_about mX12_about [j_i h, j_i w] n σ 0 0 := by
  refine ⟨_, c_about hR hh hw , fun v n' σ' hq => ?_⟩
  obtain ⟨r, hv, rfl, rfl, hP⟩ := hq
  exact ⟨RR_n hR, r, hv, d_about hR hh hw  hP⟩
def sign_P (σ : k_St) (h w i r : Int) : Prop := (bi (h_is σ h) = 0 ∧ r = -1) ∨ (bi (h_is σ h) = 1 ∧ w ≠ 0 ∧ w ≠ 1 ∧ r = -2) ∨ (bi (h_is σ h) = 1 ∧ (w = 0 ∨ w = 1) ∧ r = r_sgn σ (h_rows σ h w) 30 h i)
set_option maxHeartbeats 4000000 in
theorem c_sign {G : j_G} {X : k_X} {n : Nat} {σ : k_St} (hR : RR n σ) {h : Int} (hh : -2147483648 ≤ h ∧ h ≤ 2147483647) {w : Int} (hw : -2147483648 ≤ w ∧ w ≤ 2147483647) {i : Int} (hi : -2147483648 ≤ i ∧ i ≤ 2147483647)  : k_run G X mX11_sign [.ref 5, j_i h, j_i w, j_i i] n σ 0 0 (fun v n' σ' => ∃ r : Int, v = some (j_i r) ∧ n' = n ∧ σ' = σ ∧ sign_P σ h w i r) := by
  obtain ⟨hK, hAc, hNm, hPs, hPt, hSm, hIx⟩ := id hR
  have hn := RR_n hR
  have hk := hK.1
  have hwh : h_wf σ 8 := hk.2.1
  have hwm : m_wf σ 16 := hk.2.2
  have hW : 0 ≤ σ.2.1 6 1 ∧ σ.2.1 6 1 ≤ 300 := hk.1
  have hfl := hSm.1
  obtain ⟨x, hx⟩ : ∃ x, h_rows σ h w = x := ⟨_, rfl⟩
  have hx2 : x = 9 ∨ x = 12 := by rw [← hx]; exact h_rows_2 σ h w
  have hxA : r_at X n x 30 := by rcases hx2 with q | q <;> subst q; exact rA_9 hn; exact rA_12 hn
  have hxw : r_wf σ x 30 := by rcases hx2 with q | q <;> subst q; exact hwh.2.1; exact hwh.2.2.1
  refine k_enter (by decide +kernel) (Nat.le_of_ble_eq_true rfl) ?_
  show j_at _ _ _ [(0, .ref 5), (1, j_i h), (2, j_i w), (3, j_i i)] [] _ _ _ _
  refine a_aload_n (pc := 0) (i := 0) (by decide +kernel) rfl ?_
  refine b_getR (pc := 1) (b := 8) fl_X11_20 (by decide +kernel) (sh_5 hn) rfl ?_
  refine a_iload_n (pc := 4) (i := 1) (by decide +kernel) rfl ?_
  refine b_callV (pc := 5) (c' := 0) (sl' := 0) [j_i h] [] ml_X11_180 (by decide +kernel) rfl rfl (sh_8 hn) rfl rfl (Nat.le_of_ble_eq_true rfl) (j_fitI rfl rfl) (s_hhas hn hwh (by omega)) (fun v n' σ' hq => ?_)
  obtain ⟨x, rfl, e1, e2, hx⟩ := hq
  rw [e1, e2]; clear e1 e2
  rcases hx with ⟨rfl, p5⟩ | ⟨rfl, p5⟩
  · show j_at _ _ _ [(0, .ref 5), (1, j_i h), (2, j_i w), (3, j_i i)] [j_i 1] _ _ _ _
    have i5 := bi_y p5
    have u5 := p5.1
    have w5 := p5.2.1
    refine a_if_ne (pc := 8) (off := 5) (tgt := 13) (by decide +kernel) (by decide) (by omega) (fun c8 => ?_) (fun c8 => ?_)
    · refine a_iload_n (pc := 13) (i := 2) (by decide +kernel) rfl ?_
      refine a_if_eq (pc := 14) (off := 11) (tgt := 25) (by decide +kernel) (by decide) (by omega) (fun c14 => ?_) (fun c14 => ?_)
      · refine a_aload_n (pc := 25) (i := 0) (by decide +kernel) rfl ?_
        refine b_getR (pc := 26) (b := 8) fl_X11_20 (by decide +kernel) (sh_5 hn) rfl ?_
        refine a_iload_n (pc := 29) (i := 1) (by decide +kernel) rfl ?_
        refine a_iload_n (pc := 30) (i := 2) (by decide +kernel) rfl ?_
        refine b_pureV (pc := 31) [j_i h, j_i w] [] ml_X11_206 (by decide +kernel) rfl rfl (sh_8 hn) rfl rfl (Nat.le_of_ble_eq_true rfl) (j_fitI rfl rfl) (s_hrows hn hwh (by omega) (by omega)) ?_
        rw [hx]
        show j_at _ _ _ [(0, .ref 5), (1, j_i h), (2, j_i w), (3, j_i i)] [.ref x] _ _ _ _
        refine a_iload_n (pc := 34) (i := 1) (by decide +kernel) rfl ?_
        refine a_iload_n (pc := 35) (i := 3) (by decide +kernel) rfl ?_
        refine b_pureV (pc := 36) [j_i h, j_i i] [] ml_X11_210 (by decide +kernel) rfl rfl hxA.2.2.1 rfl rfl (Nat.le_of_ble_eq_true rfl) (j_fitI rfl rfl) (s_signAt hxA hxw (by omega) (by omega)) ?_
        have qs1 := r_sgn_in hxw h i
        show j_at _ _ _ [(0, .ref 5), (1, j_i h), (2, j_i w), (3, j_i i)] [j_i (r_sgn σ x 30 h i)] _ _ _ _
        refine a_ireturn (pc := 39) (by decide +kernel) rfl ?_
        refine k_ret ?_
        exact ⟨_, rfl, rfl, rfl, by unfold sign_P; rw [hx]; omega⟩
      · refine a_iload_n (pc := 17) (i := 2) (by decide +kernel) rfl ?_
        refine a_iconst (pc := 18) (n := 1) (by decide +kernel) ?_
        refine a_icmp_eq (pc := 19) (off := 6) (tgt := 25) (by decide +kernel) (by decide) (by omega) (by omega) (fun c19 => ?_) (fun c19 => ?_)
        · refine a_aload_n (pc := 25) (i := 0) (by decide +kernel) rfl ?_
          refine b_getR (pc := 26) (b := 8) fl_X11_20 (by decide +kernel) (sh_5 hn) rfl ?_
          refine a_iload_n (pc := 29) (i := 1) (by decide +kernel) rfl ?_
          refine a_iload_n (pc := 30) (i := 2) (by decide +kernel) rfl ?_
          refine b_pureV (pc := 31) [j_i h, j_i w] [] ml_X11_206 (by decide +kernel) rfl rfl (sh_8 hn) rfl rfl (Nat.le_of_ble_eq_true rfl) (j_fitI rfl rfl) (s_hrows hn hwh (by omega) (by omega)) ?_
          rw [hx]
          show j_at _ _ _ [(0, .ref 5), (1, j_i h), (2, j_i w), (3, j_i i)] [.ref x] _ _ _ _
          refine a_iload_n (pc := 34) (i := 1) (by decide +kernel) rfl ?_
          refine a_iload_n (pc := 35) (i := 3) (by decide +kernel) rfl ?_
          refine b_pureV (pc := 36) [j_i h, j_i i] [] ml_X11_210 (by decide +kernel) rfl rfl hxA.2.2.1 rfl rfl (Nat.le_of_ble_eq_true rfl) (j_fitI rfl rfl) (s_signAt hxA hxw (by omega) (by omega)) ?_
          have qs2 := r_sgn_in hxw h i
          show j_at _ _ _ [(0, .ref 5), (1, j_i h), (2, j_i w), (3, j_i i)] [j_i (r_sgn σ x 30 h i)] _ _ _ _
          refine a_ireturn (pc := 39) (by decide +kernel) rfl ?_
          refine k_ret ?_
          exact ⟨_, rfl, rfl, rfl, by unfold sign_P; rw [hx]; omega⟩
        · refine a_bipush (pc := 22) (n := (-2)) (by decide +kernel) rfl ?_
          refine a_ireturn (pc := 24) (by decide +kernel) rfl ?_
          refine k_ret ?_
          exact ⟨_, rfl, rfl, rfl, by unfold sign_P; rw [hx]; omega⟩
    · exact absurd c8 (by decide)
  · show j_at _ _ _ [(0, .ref 5), (1, j_i h), (2, j_i w), (3, j_i i)] [j_i 0] _ _ _ _
    have i5 := bi_n p5
    refine a_if_ne (pc := 8) (off := 5) (tgt := 13) (by decide +kernel) (by decide) (by omega) (fun c8 => ?_) (fun c8 => ?_)
    · exact absurd c8 (by decide)
    · refine a_iconst (pc := 11) (n := (-1)) (by decide +kernel) ?_
      refine a_ireturn (pc := 12) (by decide +kernel) rfl ?_
      refine k_ret ?_
      exact ⟨_, rfl, rfl, rfl, by unfold sign_P; rw [hx]; omega⟩
set_option maxHeartbeats 4000000 in
theorem d_sign {G : j_G} {X : k_X} {n : Nat} {σ : k_St} (hR : RR n σ) {h : Int} (hh : -2147483648 ≤ h ∧ h ≤ 2147483647) {w : Int} (hw : -2147483648 ≤ w ∧ w ≤ 2147483647) {i : Int} (hi : -2147483648 ≤ i ∧ i ≤ 2147483647) {r : Int} (hP : sign_P σ h w i r)  : k_run G X mX12_sign [.ref 68, j_i h, j_i w, j_i i] n σ 0 0 (fun v2 n2 σ2 => v2 = some (j_i r) ∧ RR n2 σ2) := by
  obtain ⟨hK, hAc, hNm, hPs, hPt, hSm, hIx⟩ := id hR
  have hn := RR_n hR
  have hk := hK.1
  have hwh : h_wf σ 8 := hk.2.1
  have hwm : m_wf σ 16 := hk.2.2
  have hW : 0 ≤ σ.2.1 6 1 ∧ σ.2.1 6 1 ≤ 300 := hk.1
  have hfl := hSm.1
  have hg := hK.2.2.2
  obtain ⟨⟨hgW, hgE, hgM⟩, hgh, hgm⟩ := KR_rg hk hK.2.1
  have hW0 : σ.2.1 6 1 = σ.1 69 0 := hK.2.1.1.1
  have hE0 : σ.2.1 8 3 = σ.1 69 301 := hK.2.1.2.1.1
  have hM0 : σ.2.1 16 5 = σ.1 69 1382 := hK.2.1.2.2.1
  have hfl8 : σ.2.1 68 11 = σ.2.1 5 10 := hSm.2.1
  have e2 : bi (h_is σ h) = bi (d_is σ h) := bi_c (RK_h hR h).symm
  refine k_enter (by decide +kernel) (Nat.le_of_ble_eq_true rfl) ?_
  show j_at _ _ _ [(0, .ref 68), (1, j_i h), (2, j_i w), (3, j_i i)] [] _ _ _ _
  refine a_aload_n (pc := 0) (i := 0) (by decide +kernel) rfl ?_
  refine a_iload_n (pc := 1) (i := 1) (by decide +kernel) rfl ?_
  refine b_callV (pc := 2) (c' := 0) (sl' := 0) [j_i h] [] ml_X12_202 (by decide +kernel) rfl rfl (sh_68 hn) rfl rfl (Nat.le_of_ble_eq_true rfl) (j_fitI rfl rfl) (s_disHead hn hg (by omega) (by omega)) (fun v n' σ' hq => ?_)
  obtain ⟨x, rfl, e1, e2, hx⟩ := hq
  rw [e1, e2]; clear e1 e2
  rcases hx with ⟨rfl, p2⟩ | ⟨rfl, p2⟩
  · show j_at _ _ _ [(0, .ref 68), (1, j_i h), (2, j_i w), (3, j_i i)] [j_i 1] _ _ _ _
    have i2 := bi_y p2
    have u2 := p2.1
    have w2 := p2.2.1
    have hh1 : h < σ.1 69 301 := w2
    obtain ⟨ho1, ho2⟩ := KR_own hK u2 hh1
    obtain ⟨hk1, hk2⟩ := KR_key hK u2 hh1
    have hsl := e_sl_in hK u2 hh1
    have hq9 := hgh h u2 hh1
    refine a_if_ne (pc := 5) (off := 5) (tgt := 10) (by decide +kernel) (by decide) (by omega) (fun c5 => ?_) (fun c5 => ?_)
    · refine a_iload_n (pc := 10) (i := 2) (by decide +kernel) rfl ?_
      refine a_iconst (pc := 11) (n := 0) (by decide +kernel) ?_
      refine a_iconst (pc := 12) (n := 1) (by decide +kernel) ?_
      refine b_callS (pc := 13) (c' := 0) (sl' := 0) [j_i w, j_i 0, j_i 1] [] ml_X12_128 (by decide +kernel) rfl rfl (Nat.le_of_ble_eq_true rfl) (j_fitI rfl rfl) (s_dwithin (by omega) (by omega) (by omega)) (fun v n' σ' hq => ?_)
      obtain ⟨x, rfl, e1, e2, hx⟩ := hq
      rw [e1, e2]; clear e1 e2
      rcases hx with ⟨rfl, p13⟩ | ⟨rfl, p13⟩
      · show j_at _ _ _ [(0, .ref 68), (1, j_i h), (2, j_i w), (3, j_i i)] [j_i 1] _ _ _ _
        refine a_if_ne (pc := 16) (off := 6) (tgt := 22) (by decide +kernel) (by decide) (by omega) (fun c16 => ?_) (fun c16 => ?_)
        · refine a_iload_n (pc := 22) (i := 3) (by decide +kernel) rfl ?_
          refine a_iconst (pc := 23) (n := 0) (by decide +kernel) ?_
          refine a_iload_n (pc := 24) (i := 2) (by decide +kernel) rfl ?_
          refine a_if_ne (pc := 25) (off := 11) (tgt := 36) (by decide +kernel) (by decide) (by omega) (fun c25 => ?_) (fun c25 => ?_)
          · refine a_aload_n (pc := 36) (i := 0) (by decide +kernel) rfl ?_
            refine a_iload_n (pc := 37) (i := 1) (by decide +kernel) rfl ?_
            refine b_pureV (pc := 38) [j_i h] [j_i 0, j_i i] ml_X12_221 (by decide +kernel) rfl rfl (sh_68 hn) rfl rfl (Nat.le_of_ble_eq_true rfl) (j_fitI rfl rfl) (s_dsortedLong hn hg (by omega)) ?_
            show j_at _ _ _ [(0, .ref 68), (1, j_i h), (2, j_i w), (3, j_i i)] [j_i (e_sl (σ.1 69) h), j_i 0, j_i i] _ _ _ _
            refine a_iconst (pc := 41) (n := 1) (by decide +kernel) ?_
            refine a_isub (pc := 42) (by decide +kernel) ?_
            refine b_callS (pc := 43) (c' := 0) (sl' := 0) [j_i i, j_i 0, j_i ((e_sl (σ.1 69) h) - 1)] [] ml_X12_128 (by decide +kernel) rfl rfl (Nat.le_of_ble_eq_true rfl) (j_fitI rfl rfl) (s_dwithin (by omega) (by omega) (by omega)) (fun v n' σ' hq => ?_)
            obtain ⟨x, rfl, e1, e2, hx⟩ := hq
            rw [e1, e2]; clear e1 e2
            rcases hx with ⟨rfl, p43⟩ | ⟨rfl, p43⟩
            · show j_at _ _ _ [(0, .ref 68), (1, j_i h), (2, j_i w), (3, j_i i)] [j_i 1] _ _ _ _
              refine a_if_ne (pc := 46) (off := 6) (tgt := 52) (by decide +kernel) (by decide) (by omega) (fun c46 => ?_) (fun c46 => ?_)
              · refine a_iload_n (pc := 52) (i := 2) (by decide +kernel) rfl ?_
                refine a_if_ne (pc := 53) (off := 12) (tgt := 65) (by decide +kernel) (by decide) (by omega) (fun c53 => ?_) (fun c53 => ?_)
                · refine a_aload_n (pc := 65) (i := 0) (by decide +kernel) rfl ?_
                  refine a_iload_n (pc := 66) (i := 1) (by decide +kernel) rfl ?_
                  refine a_iload_n (pc := 67) (i := 3) (by decide +kernel) rfl ?_
                  refine b_pureV (pc := 68) [j_i h, j_i i] [] ml_X12_224 (by decide +kernel) rfl rfl (sh_68 hn) rfl rfl (Nat.le_of_ble_eq_true rfl) (j_fitI rfl rfl) (s_dsortedSign hn hg (by omega) (by omega)) ?_
                  show j_at _ _ _ [(0, .ref 68), (1, j_i h), (2, j_i w), (3, j_i i)] [j_i (e_st (σ.1 69) h i)] _ _ _ _
                  refine a_ireturn (pc := 71) (by decide +kernel) rfl ?_
                  refine k_ret ?_
                  have hr : (e_st (σ.1 69) h i : Int) = r := by
                    unfold sign_P at hP; rw [e2] at hP
                    rcases hP with q | q | q
                    · omega
                    · omega
                    · have q3 := q.2.2
                      by_cases qw : w = 0
                      · first | (exfalso; omega) | (rw [qw, h_rows_0, ho2 i] at q3; unfold e_own at q3; split at q3 <;> omega)
                      · first | (exfalso; omega) | (rw [show w = 1 by omega, hk2 i] at q3; unfold e_key at q3; split at q3 <;> omega)
                  exact ⟨by rw [hr], hR⟩
                · refine a_aload_n (pc := 56) (i := 0) (by decide +kernel) rfl ?_
                  refine a_iload_n (pc := 57) (i := 1) (by decide +kernel) rfl ?_
                  refine a_iload_n (pc := 58) (i := 3) (by decide +kernel) rfl ?_
                  refine b_pureV (pc := 59) [j_i h, j_i i] [] ml_X12_189 (by decide +kernel) rfl rfl (sh_68 hn) rfl rfl (Nat.le_of_ble_eq_true rfl) (j_fitI rfl rfl) (s_dsignOf hn (by omega) (by omega)) ?_
                  have q3 := hg (302 + 36 * h + 3 + i)
                  show j_at _ _ _ [(0, .ref 68), (1, j_i h), (2, j_i w), (3, j_i i)] [j_i (σ.1 69 (302 + 36 * h + 3 + i))] _ _ _ _
                  refine a_goto (pc := 62) (off := 9) (tgt := 71) (by decide +kernel) (by decide) ?_
                  refine a_ireturn (pc := 71) (by decide +kernel) rfl ?_
                  refine k_ret ?_
                  have hr : (σ.1 69 (302 + 36 * h + 3 + i) : Int) = r := by
                    unfold sign_P at hP; rw [e2] at hP
                    rcases hP with q | q | q
                    · omega
                    · omega
                    · have q3 := q.2.2
                      by_cases qw : w = 0
                      · first | (exfalso; omega) | (rw [qw, h_rows_0, ho2 i] at q3; unfold e_own at q3; split at q3 <;> omega)
                      · first | (exfalso; omega) | (rw [show w = 1 by omega, hk2 i] at q3; unfold e_key at q3; split at q3 <;> omega)
                  exact ⟨by rw [hr], hR⟩
              · exact absurd c46 (by decide)
            · show j_at _ _ _ [(0, .ref 68), (1, j_i h), (2, j_i w), (3, j_i i)] [j_i 0] _ _ _ _
              refine a_if_ne (pc := 46) (off := 6) (tgt := 52) (by decide +kernel) (by decide) (by omega) (fun c46 => ?_) (fun c46 => ?_)
              · exact absurd c46 (by decide)
              · refine a_bipush (pc := 49) (n := (-9)) (by decide +kernel) rfl ?_
                refine a_ireturn (pc := 51) (by decide +kernel) rfl ?_
                refine k_ret ?_
                have hr : ((-9) : Int) = r := by
                  unfold sign_P at hP; rw [e2] at hP
                  rcases hP with q | q | q
                  · omega
                  · omega
                  · have q3 := q.2.2
                    by_cases qw : w = 0
                    · first | (exfalso; omega) | (rw [qw, h_rows_0, ho2 i] at q3; unfold e_own at q3; split at q3 <;> omega)
                    · first | (exfalso; omega) | (rw [show w = 1 by omega, hk2 i] at q3; unfold e_key at q3; split at q3 <;> omega)
                exact ⟨by rw [hr], hR⟩
          · refine a_aload_n (pc := 28) (i := 0) (by decide +kernel) rfl ?_
            refine a_iload_n (pc := 29) (i := 1) (by decide +kernel) rfl ?_
            refine b_pureV (pc := 30) [j_i h] [j_i 0, j_i i] ml_X12_186 (by decide +kernel) rfl rfl (sh_68 hn) rfl rfl (Nat.le_of_ble_eq_true rfl) (j_fitI rfl rfl) (s_dsignsOf hn (by omega)) ?_
            have q4 := hg (302 + 36 * h + 1)
            show j_at _ _ _ [(0, .ref 68), (1, j_i h), (2, j_i w), (3, j_i i)] [j_i (σ.1 69 (302 + 36 * h + 1)), j_i 0, j_i i] _ _ _ _
            refine a_goto (pc := 33) (off := 8) (tgt := 41) (by decide +kernel) (by decide) ?_
            refine a_iconst (pc := 41) (n := 1) (by decide +kernel) ?_
            refine a_isub (pc := 42) (by decide +kernel) ?_
            refine b_callS (pc := 43) (c' := 0) (sl' := 0) [j_i i, j_i 0, j_i ((σ.1 69 (302 + 36 * h + 1)) - 1)] [] ml_X12_128 (by decide +kernel) rfl rfl (Nat.le_of_ble_eq_true rfl) (j_fitI rfl rfl) (s_dwithin (by omega) (by omega) (by omega)) (fun v n' σ' hq => ?_)
            obtain ⟨x, rfl, e1, e2, hx⟩ := hq
            rw [e1, e2]; clear e1 e2
            rcases hx with ⟨rfl, p43⟩ | ⟨rfl, p43⟩
            · show j_at _ _ _ [(0, .ref 68), (1, j_i h), (2, j_i w), (3, j_i i)] [j_i 1] _ _ _ _
              refine a_if_ne (pc := 46) (off := 6) (tgt := 52) (by decide +kernel) (by decide) (by omega) (fun c46 => ?_) (fun c46 => ?_)
              · refine a_iload_n (pc := 52) (i := 2) (by decide +kernel) rfl ?_
                refine a_if_ne (pc := 53) (off := 12) (tgt := 65) (by decide +kernel) (by decide) (by omega) (fun c53 => ?_) (fun c53 => ?_)
                · refine a_aload_n (pc := 65) (i := 0) (by decide +kernel) rfl ?_
                  refine a_iload_n (pc := 66) (i := 1) (by decide +kernel) rfl ?_
                  refine a_iload_n (pc := 67) (i := 3) (by decide +kernel) rfl ?_
                  refine b_pureV (pc := 68) [j_i h, j_i i] [] ml_X12_224 (by decide +kernel) rfl rfl (sh_68 hn) rfl rfl (Nat.le_of_ble_eq_true rfl) (j_fitI rfl rfl) (s_dsortedSign hn hg (by omega) (by omega)) ?_
                  show j_at _ _ _ [(0, .ref 68), (1, j_i h), (2, j_i w), (3, j_i i)] [j_i (e_st (σ.1 69) h i)] _ _ _ _
                  refine a_ireturn (pc := 71) (by decide +kernel) rfl ?_
                  refine k_ret ?_
                  have hr : (e_st (σ.1 69) h i : Int) = r := by
                    unfold sign_P at hP; rw [e2] at hP
                    rcases hP with q | q | q
                    · omega
                    · omega
                    · have q3 := q.2.2
                      by_cases qw : w = 0
                      · first | (exfalso; omega) | (rw [qw, h_rows_0, ho2 i] at q3; unfold e_own at q3; split at q3 <;> omega)
                      · first | (exfalso; omega) | (rw [show w = 1 by omega, hk2 i] at q3; unfold e_key at q3; split at q3 <;> omega)
                  exact ⟨by rw [hr], hR⟩
                · refine a_aload_n (pc := 56) (i := 0) (by decide +kernel) rfl ?_
                  refine a_iload_n (pc := 57) (i := 1) (by decide +kernel) rfl ?_
                  refine a_iload_n (pc := 58) (i := 3) (by decide +kernel) rfl ?_
                  refine b_pureV (pc := 59) [j_i h, j_i i] [] ml_X12_189 (by decide +kernel) rfl rfl (sh_68 hn) rfl rfl (Nat.le_of_ble_eq_true rfl) (j_fitI rfl rfl) (s_dsignOf hn (by omega) (by omega)) ?_
                  have q6 := hg (302 + 36 * h + 3 + i)
                  show j_at _ _ _ [(0, .ref 68), (1, j_i h), (2, j_i w), (3, j_i i)] [j_i (σ.1 69 (302 + 36 * h + 3 + i))] _ _ _ _
                  refine a_goto (pc := 62) (off := 9) (tgt := 71) (by decide +kernel) (by decide) ?_
                  refine a_ireturn (pc := 71) (by decide +kernel) rfl ?_
                  refine k_ret ?_
                  have hr : (σ.1 69 (302 + 36 * h + 3 + i) : Int) = r := by
                    unfold sign_P at hP; rw [e2] at hP
                    rcases hP with q | q | q
                    · omega
                    · omega
                    · have q3 := q.2.2
                      by_cases qw : w = 0
                      · first | (exfalso; omega) | (rw [qw, h_rows_0, ho2 i] at q3; unfold e_own at q3; split at q3 <;> omega)
                      · first | (exfalso; omega) | (rw [show w = 1 by omega, hk2 i] at q3; unfold e_key at q3; split at q3 <;> omega)
                  exact ⟨by rw [hr], hR⟩
              · exact absurd c46 (by decide)
            · show j_at _ _ _ [(0, .ref 68), (1, j_i h), (2, j_i w), (3, j_i i)] [j_i 0] _ _ _ _
              refine a_if_ne (pc := 46) (off := 6) (tgt := 52) (by decide +kernel) (by decide) (by omega) (fun c46 => ?_) (fun c46 => ?_)
              · exact absurd c46 (by decide)
              · refine a_bipush (pc := 49) (n := (-9)) (by decide +kernel) rfl ?_
                refine a_ireturn (pc := 51) (by decide +kernel) rfl ?_
                refine k_ret ?_
                have hr : ((-9) : Int) = r := by
                  unfold sign_P at hP; rw [e2] at hP
                  rcases hP with q | q | q
                  · omega
                  · omega
                  · have q3 := q.2.2
                    by_cases qw : w = 0
                    · first | (exfalso; omega) | (rw [qw, h_rows_0, ho2 i] at q3; unfold e_own at q3; split at q3 <;> omega)
                    · first | (exfalso; omega) | (rw [show w = 1 by omega, hk2 i] at q3; unfold e_key at q3; split at q3 <;> omega)
                exact ⟨by rw [hr], hR⟩
        · exact absurd c16 (by decide)
      · show j_at _ _ _ [(0, .ref 68), (1, j_i h), (2, j_i w), (3, j_i i)] [j_i 0] _ _ _ _
        refine a_if_ne (pc := 16) (off := 6) (tgt := 22) (by decide +kernel) (by decide) (by omega) (fun c16 => ?_) (fun c16 => ?_)
        · exact absurd c16 (by decide)
        · refine a_bipush (pc := 19) (n := (-2)) (by decide +kernel) rfl ?_
          refine a_ireturn (pc := 21) (by decide +kernel) rfl ?_
          refine k_ret ?_
          have hr : ((-2) : Int) = r := by
            unfold sign_P at hP; rw [e2] at hP
            rcases hP with q | q | q
            · omega
            · omega
            · have q3 := q.2.2
              by_cases qw : w = 0
              · first | (exfalso; omega) | (rw [qw, h_rows_0, ho2 i] at q3; unfold e_own at q3; split at q3 <;> omega)
              · first | (exfalso; omega) | (rw [show w = 1 by omega, hk2 i] at q3; unfold e_key at q3; split at q3 <;> omega)
          exact ⟨by rw [hr], hR⟩
    · exact absurd c5 (by decide)
  · show j_at _ _ _ [(0, .ref 68), (1, j_i h), (2, j_i w), (3, j_i i)] [j_i 0] _ _ _ _
    have i2 := bi_n p2
    refine a_if_ne (pc := 5) (off := 5) (tgt := 10) (by decide +kernel) (by decide) (by omega) (fun c5 => ?_) (fun c5 => ?_)
    · exact absurd c5 (by decide)
    · refine a_iconst (pc := 8) (n := (-1)) (by decide +kernel) ?_
      refine a_ireturn (pc := 9) (by decide +kernel) rfl ?_
      refine k_ret ?_
      have hr : ((-1) : Int) = r := by
        unfold sign_P at hP; rw [e2] at hP
        rcases hP with q | q | q
        · omega
        · omega
        · have q3 := q.2.2
          by_cases qw : w = 0
          · first | (exfalso; omega) | (rw [qw, h_rows_0, ho2 i] at q3; unfold e_own at q3; split at q3 <;> omega)
          · first | (exfalso; omega) | (rw [show w = 1 by omega, hk2 i] at q3; unfold e_key at q3; split at q3 <;> omega)
      exact ⟨by rw [hr], hR⟩
set_option maxHeartbeats 4000000 in
theorem p_sign {G : j_G} {X : k_X} {n : Nat} {σ : k_St} (hR : RR n σ) {h : Int} (hh : -2147483648 ≤ h ∧ h ≤ 2147483647) {w : Int} (hw : -2147483648 ≤ w ∧ w ≤ 2147483647) {i : Int} (hi : -2147483648 ≤ i ∧ i ≤ 2147483647)  : pr_ok G X mX11_sign mX12_sign [j_i h, j_i w, j_i i] n σ 0 0 := by
  refine ⟨_, c_sign hR hh hw hi , fun v n' σ' hq => ?_⟩
  obtain ⟨r, hv, rfl, rfl, hP⟩ := hq
  exact ⟨RR_n hR, r, hv, d_sign hR hh hw hi  hP⟩
