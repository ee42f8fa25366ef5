/-- the order of two heads: by keys, else by their own bytes -/
def o_res (s t : Int → Int) (l : Int) (m : Nat) (i j : Int) (u w : Int → Int) (r : Int) : Prop := (f_cb s t l m i j ≠ 0 ∧ r = f_cb s t l m i j) ∨ (f_cb s t l m i j = 0 ∧ r_cmp u w r)
def o_post (n : Nat) (σ : k_St) (P : Int → Prop) : k_P := fun v n' σ' => n' = n ∧ k_bx σ σ' ∧ ∃ r : Int, v = some (j_i r) ∧ P r
/-- the keys of heads a and b begin at i and j -/
def o_rel (σ : k_St) (a b ord r : Int) : Prop := ∃ i j, y_ks σ (h_rows σ a 1) 30 a i ∧ y_ks σ (h_rows σ b 1) 30 b j ∧ o_res (r_sgn σ (h_rows σ a 1) 30 a) (r_sgn σ (h_rows σ b 1) 30 b) (if ord = 0 then 1 else 0) 17 i j (r_sgn σ 9 30 a) (r_sgn σ 9 30 b) r
theorem y_ks_r {σ : k_St} {b R : Nat} {row r : Int} (hw : r_wf σ b R) (h : y_ks σ b R row r) : 0 ≤ r ∧ r ≤ 16 ∨ r = -8 := by
  obtain ⟨bl, h1, h2⟩ := h
  have := r_blank_r hw h1
  rcases h1 with ⟨e1, _⟩ | ⟨e1, e2, _⟩ <;> rcases h2 with ⟨e3, _⟩ | ⟨e3, _⟩ <;> omega
theorem y_ks_0 {σ : k_St} {b R : Nat} {row r : Int} (hy : y_wf σ) (hw : r_wf σ b R) (h : y_ks σ b R row r) : 0 ≤ r ∧ r ≤ 16 := by
  have h0 := y_ks_r hw h
  obtain ⟨bl, h1, h2⟩ := h
  rcases h2 with ⟨e3, p, p0, p1, p2, p3⟩ | ⟨e3, _⟩
  · have := r_cnt_in hy.2 p; omega
  · omega
theorem h_rows_c (σ : k_St) (h w : Int) : h_rows σ h w = 9 ∨ h_rows σ h w = 12 := by unfold h_rows; split <;> simp
set_option maxHeartbeats 4000000 in
theorem l_order0 {G : j_G} {X : k_X} {n : Nat} {σ : k_St} (hn : 101 ≤ n) (hw : h_wf σ 8) (hy : y_wf σ) {a b : Int} (ha : -2147483648 ≤ a ∧ a ≤ 2147483647) (hb : -2147483648 ≤ b ∧ b ≤ 2147483647) {ra rb : Nat} (hra : r_at X n ra 30) (hwa : r_wf σ ra 30) (hrb : r_at X n rb 30) (hwb : r_wf σ rb 30)  : ∀ (m : Nat) (k i j : Int) (τ : k_St), 16 - k ≤ (m : Int) → k_bx σ τ → τ.2.1 37 0 = i → τ.2.1 38 0 = j → 0 ≤ k → k + m = 17 → (0 ≤ i ∧ i ≤ 16) → (0 ≤ j ∧ j ≤ 16) → j_at G mX5_orderOf 47 [(0, .ref 33), (1, .ref 8), (2, j_i a), (3, j_i b), (4, j_i 0), (5, .ref ra), (6, .ref rb), (7, j_i k)] [] (k_h X n τ) 0 0 (k_Q X (o_post n σ (o_res (r_sgn σ ra 30 a) (r_sgn σ rb 30 b) 1 m i j (r_sgn σ 9 30 a) (r_sgn σ 9 30 b)))) := by
  intro m
  induction m with
  | zero =>
    intro k i j τ hm hbx ti tj hk hkm hi hj
    obtain ⟨he, hw9, hw12, hg⟩ := id hw
    have hw9 : r_wf σ 9 30 := hw9
    have hw12 : r_wf σ 12 30 := hw12
    have w9t : r_wf τ 9 30 := r_wf_congr (by rw [hbx.1]) (by rw [hbx.1]) hw9
    refine a_iload (pc := 47) (i := 7) (by decide +kernel) rfl ?_
    refine a_bipush (pc := 49) (n := 16) (by decide +kernel) rfl ?_
    refine a_icmp_gt (pc := 51) (off := 133) (tgt := 184) (by decide +kernel) (by decide) (by omega) (by omega) (fun c51 => ?_) (fun c51 => ?_)
    · refine a_aload_n (pc := 184) (i := 1) (by decide +kernel) rfl ?_
      refine b_getR (pc := 185) (b := 9) fl_X5_81 (by decide +kernel) (sh_8 hn) rfl ?_
      refine a_iload_n (pc := 188) (i := 2) (by decide +kernel) rfl ?_
      refine a_aload_n (pc := 189) (i := 1) (by decide +kernel) rfl ?_
      refine b_getR (pc := 190) (b := 9) fl_X5_81 (by decide +kernel) (sh_8 hn) rfl ?_
      refine a_iload_n (pc := 193) (i := 3) (by decide +kernel) rfl ?_
      refine b_callV (pc := 194) (c' := 0) (sl' := 0) [j_i a, .ref 9, j_i b] [] ml_X5_84 (by decide +kernel) rfl rfl (sh_9 hn) rfl rfl (Nat.le_of_ble_eq_true rfl) (j_fitI rfl rfl) (s_byBytes (rA_9 hn) w9t ha (rA_9 hn) w9t hb) (fun v n' σ' hq => ?_)
      obtain ⟨y1, rfl, e1, e2, hy1⟩ := hq
      rw [e1, e2]; clear e1 e2
      show j_at _ _ _ [(0, .ref 33), (1, .ref 8), (2, j_i a), (3, j_i b), (4, j_i 0), (5, .ref ra), (6, .ref rb), (7, j_i k)] [j_i y1] _ _ _ _
      refine a_ireturn (pc := 197) (by decide +kernel) rfl ?_
      refine k_ret ?_
      refine ⟨rfl, hbx, _, rfl, Or.inr ⟨rfl, ?_⟩⟩
      have ea : r_sgn τ 9 30 a = r_sgn σ 9 30 a := by funext q; unfold r_sgn; rw [hbx.1]
      have eb : r_sgn τ 9 30 b = r_sgn σ 9 30 b := by funext q; unfold r_sgn; rw [hbx.1]
      rw [ea, eb] at hy1
      exact hy1
    · exfalso; omega
  | succ m ih =>
    intro k i j τ hm hbx ti tj hk hkm hi hj
    obtain ⟨he, hw9, hw12, hg⟩ := id hw
    have hw9 : r_wf σ 9 30 := hw9
    have hw12 : r_wf σ 12 30 := hw12
    obtain ⟨s, hs⟩ : ∃ z, z = r_sgn σ ra 30 a := ⟨_, rfl⟩
    obtain ⟨t, ht⟩ : ∃ z, z = r_sgn σ rb 30 b := ⟨_, rfl⟩
    rw [← hs, ← ht]
    have hs16 : ∀ q, 16 ≤ q → s q = -9 := fun q hq => by rw [hs]; exact r_sgn_16 hwa q hq
    have ht16 : ∀ q, 16 ≤ q → t q = -9 := fun q hq => by rw [ht]; exact r_sgn_16 hwb q hq
    have hsr : ∀ q, -128 ≤ s q ∧ s q ≤ 127 := fun q => by rw [hs]; exact r_sgn_in hwa a q
    have htr : ∀ q, -128 ≤ t q ∧ t q ≤ 127 := fun q => by rw [ht]; exact r_sgn_in hwb b q
    have p1 := f_bat_in (s := s) (l := 1) (by rw [hs16 16 (by omega)]; omega) hi.1 hi.2
    have p2 := f_bat_in (s := t) (l := 1) (by rw [ht16 16 (by omega)]; omega) hj.1 hj.2
    have hfa : r_sgn τ ra 30 a = s := by rw [hs]; funext q; unfold r_sgn; rw [hbx.1]
    have hfb : r_sgn τ rb 30 b = t := by rw [ht]; funext q; unfold r_sgn; rw [hbx.1]
    have hwa1 : r_wf τ ra 30 := r_wf_congr (by rw [hbx.1]) (by rw [hbx.1]) hwa
    have hwb1 : r_wf τ rb 30 := r_wf_congr (by rw [hbx.1]) (by rw [hbx.1]) hwb
    refine a_iload (pc := 47) (i := 7) (by decide +kernel) rfl ?_
    refine a_bipush (pc := 49) (n := 16) (by decide +kernel) rfl ?_
    refine a_icmp_gt (pc := 51) (off := 133) (tgt := 184) (by decide +kernel) (by decide) (by omega) (by omega) (fun c51 => ?_) (fun c51 => ?_)
    · exfalso; omega
    · refine a_aload_n (pc := 54) (i := 0) (by decide +kernel) rfl ?_
      refine b_getR (pc := 55) (b := 37) fl_X5_27 (by decide +kernel) (sh_33 hn) rfl ?_
      refine a_aload (pc := 58) (i := 5) (by decide +kernel) rfl ?_
      refine a_iload_n (pc := 60) (i := 2) (by decide +kernel) rfl ?_
      refine a_iload (pc := 61) (i := 4) (by decide +kernel) rfl ?_
      refine a_if_ne (pc := 63) (off := 7) (tgt := 70) (by decide +kernel) (by decide) (by omega) (fun c63 => ?_) (fun c63 => ?_)
      · exact absurd c63 (by decide)
      · refine a_iconst (pc := 66) (n := 1) (by decide +kernel) ?_
        refine a_goto (pc := 67) (off := 4) (tgt := 71) (by decide +kernel) (by decide) ?_
        refine b_callV (pc := 71) (c' := 0) (sl' := 0) [.ref ra, j_i a, j_i 1] [] ml_X5_59 (by decide +kernel) rfl rfl (sh_37 hn) rfl rfl (Nat.le_of_ble_eq_true rfl) (j_fitI rfl rfl) (s_step (sh_37 hn) hra hwa1 ha (by rw [ti]; omega) (by decide)) (fun v n' σ' hq => ?_)
        obtain ⟨rfl, e1, e2⟩ := hq
        rw [e1, e2]; clear e1 e2
        rw [hfa, ti]
        obtain ⟨σ1, hσ1⟩ : ∃ z, z = y_st τ 37 (f_be s (f_bat s 1 i)) (f_bk s (f_bat s 1 i)) (f_bv s (f_bat s 1 i)) := ⟨_, rfl⟩
        rw [← hσ1]
        have tjσ1 : σ1.2.1 38 0 = j := by rw [hσ1, y_st_f]; exact tj
        have hfbσ1 : r_sgn σ1 rb 30 b = t := by rw [hσ1]; exact hfb
        have hwbσ1 : r_wf σ1 rb 30 := by rw [hσ1]; exact hwb1
        have hbσ1 : k_bx σ σ1 := by rw [hσ1]; exact k_bx_y (Or.inl rfl) hbx
        show j_at _ _ _ [(0, .ref 33), (1, .ref 8), (2, j_i a), (3, j_i b), (4, j_i 0), (5, .ref ra), (6, .ref rb), (7, j_i k)] [] _ _ _ _
        refine a_aload_n (pc := 74) (i := 0) (by decide +kernel) rfl ?_
        refine b_getR (pc := 75) (b := 38) fl_X5_31 (by decide +kernel) (sh_33 hn) rfl ?_
        refine a_aload (pc := 78) (i := 6) (by decide +kernel) rfl ?_
        refine a_iload_n (pc := 80) (i := 3) (by decide +kernel) rfl ?_
        refine a_iload (pc := 81) (i := 4) (by decide +kernel) rfl ?_
        refine a_if_ne (pc := 83) (off := 7) (tgt := 90) (by decide +kernel) (by decide) (by omega) (fun c83 => ?_) (fun c83 => ?_)
        · exact absurd c83 (by decide)
        · refine a_iconst (pc := 86) (n := 1) (by decide +kernel) ?_
          refine a_goto (pc := 87) (off := 4) (tgt := 91) (by decide +kernel) (by decide) ?_
          refine b_callV (pc := 91) (c' := 0) (sl' := 0) [.ref rb, j_i b, j_i 1] [] ml_X5_59 (by decide +kernel) rfl rfl (sh_38 hn) rfl rfl (Nat.le_of_ble_eq_true rfl) (j_fitI rfl rfl) (s_step (sh_38 hn) hrb hwbσ1 hb (by rw [tjσ1]; omega) (by decide)) (fun v n' σ' hq => ?_)
          obtain ⟨rfl, e1, e2⟩ := hq
          rw [e1, e2]; clear e1 e2
          rw [hfbσ1, tjσ1]
          obtain ⟨σ2, hσ2⟩ : ∃ z, z = y_st σ1 38 (f_be t (f_bat t 1 j)) (f_bk t (f_bat t 1 j)) (f_bv t (f_bat t 1 j)) := ⟨_, rfl⟩
          rw [← hσ2]
          have hbσ2 : k_bx σ σ2 := by rw [hσ2]; exact k_bx_y (Or.inr rfl) hbσ1
          have w9σ2 : r_wf σ2 9 30 := r_wf_congr (by rw [hbσ2.1]) (by rw [hbσ2.1]) hw9
          show j_at _ _ _ [(0, .ref 33), (1, .ref 8), (2, j_i a), (3, j_i b), (4, j_i 0), (5, .ref ra), (6, .ref rb), (7, j_i k)] [] _ _ _ _
          refine a_aload_n (pc := 94) (i := 0) (by decide +kernel) rfl ?_
          refine b_getR (pc := 95) (b := 37) fl_X5_27 (by decide +kernel) (sh_33 hn) rfl ?_
          refine b_getI (pc := 98) fl_X5_63 (by decide +kernel) (sh_37 hn) rfl ?_
          rw [show σ2.2.1 37 1 = f_bk s (f_bat s 1 i) from (by rw [hσ2, y_st_f, hσ1]; exact y_st_1)]
          refine a_aload_n (pc := 101) (i := 0) (by decide +kernel) rfl ?_
          refine b_getR (pc := 102) (b := 38) fl_X5_31 (by decide +kernel) (sh_33 hn) rfl ?_
          refine b_getI (pc := 105) fl_X5_63 (by decide +kernel) (sh_38 hn) rfl ?_
          rw [show σ2.2.1 38 1 = f_bk t (f_bat t 1 j) from (by rw [hσ2]; exact y_st_1)]
          refine a_icmp_eq (pc := 108) (off := 21) (tgt := 129) (by decide +kernel) (by decide) (by have := f_bk_in s (f_bat s 1 i); have := f_bk_in t (f_bat t 1 j); omega) (by have := f_bk_in s (f_bat s 1 i); have := f_bk_in t (f_bat t 1 j); omega) (fun c108 => ?_) (fun c108 => ?_)
          · refine a_aload_n (pc := 129) (i := 0) (by decide +kernel) rfl ?_
            refine b_getR (pc := 130) (b := 37) fl_X5_27 (by decide +kernel) (sh_33 hn) rfl ?_
            refine b_getL (pc := 133) fl_X5_72 (by decide +kernel) (sh_37 hn) rfl ?_
            rw [show σ2.2.1 37 2 = f_bv s (f_bat s 1 i) from (by rw [hσ2, y_st_f, hσ1]; exact y_st_2)]
            refine a_aload_n (pc := 136) (i := 0) (by decide +kernel) rfl ?_
            refine b_getR (pc := 137) (b := 38) fl_X5_31 (by decide +kernel) (sh_33 hn) rfl ?_
            refine b_getL (pc := 140) fl_X5_72 (by decide +kernel) (sh_38 hn) rfl ?_
            rw [show σ2.2.1 38 2 = f_bv t (f_bat t 1 j) from (by rw [hσ2]; exact y_st_2)]
            refine a_lcmp (pc := 143) (by decide +kernel) (by have := f_bv_in (s := s) (by rw [hs16 16 (by omega)]; omega) (hsr _) p1.1 p1.2; have := f_bv_in (s := t) (by rw [ht16 16 (by omega)]; omega) (htr _) p2.1 p2.2; omega) (by have := f_bv_in (s := s) (by rw [hs16 16 (by omega)]; omega) (hsr _) p1.1 p1.2; have := f_bv_in (s := t) (by rw [ht16 16 (by omega)]; omega) (htr _) p2.1 p2.2; omega) ?_
            refine a_if_eq (pc := 144) (off := 21) (tgt := 165) (by decide +kernel) (by decide) (by split <;> (try split) <;> omega) (fun c144 => ?_) (fun c144 => ?_)
            · refine a_aload_n (pc := 165) (i := 0) (by decide +kernel) rfl ?_
              refine b_getR (pc := 166) (b := 37) fl_X5_27 (by decide +kernel) (sh_33 hn) rfl ?_
              refine b_getI (pc := 169) fl_X5_63 (by decide +kernel) (sh_37 hn) rfl ?_
              rw [show σ2.2.1 37 1 = f_bk s (f_bat s 1 i) from (by rw [hσ2, y_st_f, hσ1]; exact y_st_1)]
              refine a_if_ne (pc := 172) (off := 6) (tgt := 178) (by decide +kernel) (by decide) (by have := f_bk_in s (f_bat s 1 i); omega) (fun c172 => ?_) (fun c172 => ?_)
              · refine a_iinc (pc := 178) (i := 7) (n := 1) (x := k) (lv' := [(0, .ref 33), (1, .ref 8), (2, j_i a), (3, j_i b), (4, j_i 0), (5, .ref ra), (6, .ref rb), (7, j_i (k + 1))]) (by decide +kernel) rfl (Nat.le_of_ble_eq_true rfl) rfl ?_
                refine a_goto (pc := 181) (off := -134) (tgt := 47) (by decide +kernel) (by decide) ?_
                have hv9 : f_bv s (f_bat s 1 i) = f_bv t (f_bat t 1 j) := by
                  by_cases h1 : f_bv s (f_bat s 1 i) < f_bv t (f_bat t 1 j)
                  · rw [if_pos h1] at c144; omega
                  · rw [if_neg h1] at c144
                    by_cases h2 : f_bv s (f_bat s 1 i) = f_bv t (f_bat t 1 j)
                    · exact h2
                    · rw [if_neg h2] at c144; omega
                have e : f_cb s t 1 (m + 1) i j = f_cb s t 1 m (f_be s (f_bat s 1 i)) (f_be t (f_bat t 1 j)) := ((if_neg (not_not_intro c108)).trans (if_neg (not_not_intro hv9))).trans (if_neg c172)
                have e1 := f_be_in (s := s) hs16 p1.1 p1.2 c172
                have e2 := f_be_in (s := t) ht16 p2.1 p2.2 (by rw [← c108]; exact c172)
                have e3 := ih (k + 1) (f_be s (f_bat s 1 i)) (f_be t (f_bat t 1 j)) σ2 (by omega) hbσ2 (by rw [hσ2, y_st_f, hσ1]; exact y_st_0) (by rw [hσ2]; exact y_st_0) (by omega) (by omega) (by omega) (by omega)
                rw [← hs, ← ht] at e3
                unfold o_res at e3 ⊢
                rw [e]
                exact e3
              · refine a_goto (pc := 175) (off := 9) (tgt := 184) (by decide +kernel) (by decide) ?_
                refine a_aload_n (pc := 184) (i := 1) (by decide +kernel) rfl ?_
                refine b_getR (pc := 185) (b := 9) fl_X5_81 (by decide +kernel) (sh_8 hn) rfl ?_
                refine a_iload_n (pc := 188) (i := 2) (by decide +kernel) rfl ?_
                refine a_aload_n (pc := 189) (i := 1) (by decide +kernel) rfl ?_
                refine b_getR (pc := 190) (b := 9) fl_X5_81 (by decide +kernel) (sh_8 hn) rfl ?_
                refine a_iload_n (pc := 193) (i := 3) (by decide +kernel) rfl ?_
                refine b_callV (pc := 194) (c' := 0) (sl' := 0) [j_i a, .ref 9, j_i b] [] ml_X5_84 (by decide +kernel) rfl rfl (sh_9 hn) rfl rfl (Nat.le_of_ble_eq_true rfl) (j_fitI rfl rfl) (s_byBytes (rA_9 hn) w9σ2 ha (rA_9 hn) w9σ2 hb) (fun v n' σ' hq => ?_)
                obtain ⟨y3, rfl, e1, e2, hy3⟩ := hq
                rw [e1, e2]; clear e1 e2
                show j_at _ _ _ [(0, .ref 33), (1, .ref 8), (2, j_i a), (3, j_i b), (4, j_i 0), (5, .ref ra), (6, .ref rb), (7, j_i k)] [j_i y3] _ _ _ _
                refine a_ireturn (pc := 197) (by decide +kernel) rfl ?_
                refine k_ret ?_
                have hv9 : f_bv s (f_bat s 1 i) = f_bv t (f_bat t 1 j) := by
                  by_cases h1 : f_bv s (f_bat s 1 i) < f_bv t (f_bat t 1 j)
                  · rw [if_pos h1] at c144; omega
                  · rw [if_neg h1] at c144
                    by_cases h2 : f_bv s (f_bat s 1 i) = f_bv t (f_bat t 1 j)
                    · exact h2
                    · rw [if_neg h2] at c144; omega
                have e : f_cb s t 1 (m + 1) i j = 0 := ((if_neg (not_not_intro c108)).trans (if_neg (not_not_intro hv9))).trans (if_pos c172)
                refine ⟨rfl, hbσ2, _, rfl, Or.inr ⟨e, ?_⟩⟩
                have ea : r_sgn σ2 9 30 a = r_sgn σ 9 30 a := by funext q; unfold r_sgn; rw [hbσ2.1]
                have eb : r_sgn σ2 9 30 b = r_sgn σ 9 30 b := by funext q; unfold r_sgn; rw [hbσ2.1]
                rw [ea, eb] at hy3
                exact hy3
            · refine a_aload_n (pc := 147) (i := 0) (by decide +kernel) rfl ?_
              refine b_getR (pc := 148) (b := 37) fl_X5_27 (by decide +kernel) (sh_33 hn) rfl ?_
              refine b_getL (pc := 151) fl_X5_72 (by decide +kernel) (sh_37 hn) rfl ?_
              rw [show σ2.2.1 37 2 = f_bv s (f_bat s 1 i) from (by rw [hσ2, y_st_f, hσ1]; exact y_st_2)]
              refine a_aload_n (pc := 154) (i := 0) (by decide +kernel) rfl ?_
              refine b_getR (pc := 155) (b := 38) fl_X5_31 (by decide +kernel) (sh_33 hn) rfl ?_
              refine b_getL (pc := 158) fl_X5_72 (by decide +kernel) (sh_38 hn) rfl ?_
              rw [show σ2.2.1 38 2 = f_bv t (f_bat t 1 j) from (by rw [hσ2]; exact y_st_2)]
              refine b_pureS (pc := 161) [j_l (f_bv s (f_bat s 1 i)), j_l (f_bv t (f_bat t 1 j))] [] ml_X5_76 (by decide +kernel) rfl rfl (Nat.le_of_ble_eq_true rfl) (j_fitI rfl rfl) (s_lcompare (by have := f_bv_in (s := s) (by rw [hs16 16 (by omega)]; omega) (hsr _) p1.1 p1.2; have := f_bv_in (s := t) (by rw [ht16 16 (by omega)]; omega) (htr _) p2.1 p2.2; omega) (by have := f_bv_in (s := s) (by rw [hs16 16 (by omega)]; omega) (hsr _) p1.1 p1.2; have := f_bv_in (s := t) (by rw [ht16 16 (by omega)]; omega) (htr _) p2.1 p2.2; omega)) ?_
              show j_at _ _ _ [(0, .ref 33), (1, .ref 8), (2, j_i a), (3, j_i b), (4, j_i 0), (5, .ref ra), (6, .ref rb), (7, j_i k)] [j_i (f_sgn (f_bv s (f_bat s 1 i)) (f_bv t (f_bat t 1 j)))] _ _ _ _
              refine a_ireturn (pc := 164) (by decide +kernel) rfl ?_
              refine k_ret ?_
              refine ⟨rfl, hbσ2, _, rfl, ?_⟩
              have hv9 : f_bv s (f_bat s 1 i) ≠ f_bv t (f_bat t 1 j) := fun h9 => by rw [h9] at c144; simp at c144
              have e : f_cb s t 1 (m + 1) i j = f_sgn (f_bv s (f_bat s 1 i)) (f_bv t (f_bat t 1 j)) := (if_neg (not_not_intro c108)).trans (if_pos hv9)
              have e2 := f_sgn_cases (f_bv s (f_bat s 1 i)) (f_bv t (f_bat t 1 j))
              exact Or.inl ⟨by rw [e]; omega, e.symm⟩
          · refine a_aload_n (pc := 111) (i := 0) (by decide +kernel) rfl ?_
            refine b_getR (pc := 112) (b := 37) fl_X5_27 (by decide +kernel) (sh_33 hn) rfl ?_
            refine b_getI (pc := 115) fl_X5_63 (by decide +kernel) (sh_37 hn) rfl ?_
            rw [show σ2.2.1 37 1 = f_bk s (f_bat s 1 i) from (by rw [hσ2, y_st_f, hσ1]; exact y_st_1)]
            refine a_aload_n (pc := 118) (i := 0) (by decide +kernel) rfl ?_
            refine b_getR (pc := 119) (b := 38) fl_X5_31 (by decide +kernel) (sh_33 hn) rfl ?_
            refine b_getI (pc := 122) fl_X5_63 (by decide +kernel) (sh_38 hn) rfl ?_
            rw [show σ2.2.1 38 1 = f_bk t (f_bat t 1 j) from (by rw [hσ2]; exact y_st_1)]
            refine b_pureS (pc := 125) [j_i (f_bk s (f_bat s 1 i)), j_i (f_bk t (f_bat t 1 j))] [] ml_X5_66 (by decide +kernel) rfl rfl (Nat.le_of_ble_eq_true rfl) (j_fitI rfl rfl) (s_icompare (by have := f_bk_in s (f_bat s 1 i); omega) (by have := f_bk_in t (f_bat t 1 j); omega)) ?_
            show j_at _ _ _ [(0, .ref 33), (1, .ref 8), (2, j_i a), (3, j_i b), (4, j_i 0), (5, .ref ra), (6, .ref rb), (7, j_i k)] [j_i (f_sgn (f_bk s (f_bat s 1 i)) (f_bk t (f_bat t 1 j)))] _ _ _ _
            refine a_ireturn (pc := 128) (by decide +kernel) rfl ?_
            refine k_ret ?_
            refine ⟨rfl, hbσ2, _, rfl, ?_⟩
            have e : f_cb s t 1 (m + 1) i j = f_sgn (f_bk s (f_bat s 1 i)) (f_bk t (f_bat t 1 j)) := if_pos c108
            have e2 := f_sgn_cases (f_bk s (f_bat s 1 i)) (f_bk t (f_bat t 1 j))
            exact Or.inl ⟨by rw [e]; omega, e.symm⟩
set_option maxHeartbeats 4000000 in
theorem l_order1 {G : j_G} {X : k_X} {n : Nat} {σ : k_St} (hn : 101 ≤ n) (hw : h_wf σ 8) (hy : y_wf σ) {a b : Int} (ha : -2147483648 ≤ a ∧ a ≤ 2147483647) (hb : -2147483648 ≤ b ∧ b ≤ 2147483647) {ra rb : Nat} (hra : r_at X n ra 30) (hwa : r_wf σ ra 30) (hrb : r_at X n rb 30) (hwb : r_wf σ rb 30)  : ∀ (m : Nat) (k i j : Int) (τ : k_St), 16 - k ≤ (m : Int) → k_bx σ τ → τ.2.1 37 0 = i → τ.2.1 38 0 = j → 0 ≤ k → k + m = 17 → (0 ≤ i ∧ i ≤ 16) → (0 ≤ j ∧ j ≤ 16) → j_at G mX5_orderOf 47 [(0, .ref 33), (1, .ref 8), (2, j_i a), (3, j_i b), (4, j_i 1), (5, .ref ra), (6, .ref rb), (7, j_i k)] [] (k_h X n τ) 0 0 (k_Q X (o_post n σ (o_res (r_sgn σ ra 30 a) (r_sgn σ rb 30 b) 0 m i j (r_sgn σ 9 30 a) (r_sgn σ 9 30 b)))) := by
  intro m
  induction m with
  | zero =>
    intro k i j τ hm hbx ti tj hk hkm hi hj
    obtain ⟨he, hw9, hw12, hg⟩ := id hw
    have hw9 : r_wf σ 9 30 := hw9
    have hw12 : r_wf σ 12 30 := hw12
    have w9t : r_wf τ 9 30 := r_wf_congr (by rw [hbx.1]) (by rw [hbx.1]) hw9
    refine a_iload (pc := 47) (i := 7) (by decide +kernel) rfl ?_
    refine a_bipush (pc := 49) (n := 16) (by decide +kernel) rfl ?_
    refine a_icmp_gt (pc := 51) (off := 133) (tgt := 184) (by decide +kernel) (by decide) (by omega) (by omega) (fun c51 => ?_) (fun c51 => ?_)
    · refine a_aload_n (pc := 184) (i := 1) (by decide +kernel) rfl ?_
      refine b_getR (pc := 185) (b := 9) fl_X5_81 (by decide +kernel) (sh_8 hn) rfl ?_
      refine a_iload_n (pc := 188) (i := 2) (by decide +kernel) rfl ?_
      refine a_aload_n (pc := 189) (i := 1) (by decide +kernel) rfl ?_
      refine b_getR (pc := 190) (b := 9) fl_X5_81 (by decide +kernel) (sh_8 hn) rfl ?_
      refine a_iload_n (pc := 193) (i := 3) (by decide +kernel) rfl ?_
      refine b_callV (pc := 194) (c' := 0) (sl' := 0) [j_i a, .ref 9, j_i b] [] ml_X5_84 (by decide +kernel) rfl rfl (sh_9 hn) rfl rfl (Nat.le_of_ble_eq_true rfl) (j_fitI rfl rfl) (s_byBytes (rA_9 hn) w9t ha (rA_9 hn) w9t hb) (fun v n' σ' hq => ?_)
      obtain ⟨y1, rfl, e1, e2, hy1⟩ := hq
      rw [e1, e2]; clear e1 e2
      show j_at _ _ _ [(0, .ref 33), (1, .ref 8), (2, j_i a), (3, j_i b), (4, j_i 1), (5, .ref ra), (6, .ref rb), (7, j_i k)] [j_i y1] _ _ _ _
      refine a_ireturn (pc := 197) (by decide +kernel) rfl ?_
      refine k_ret ?_
      refine ⟨rfl, hbx, _, rfl, Or.inr ⟨rfl, ?_⟩⟩
      have ea : r_sgn τ 9 30 a = r_sgn σ 9 30 a := by funext q; unfold r_sgn; rw [hbx.1]
      have eb : r_sgn τ 9 30 b = r_sgn σ 9 30 b := by funext q; unfold r_sgn; rw [hbx.1]
      rw [ea, eb] at hy1
      exact hy1
    · exfalso; omega
  | succ m ih =>
    intro k i j τ hm hbx ti tj hk hkm hi hj
    obtain ⟨he, hw9, hw12, hg⟩ := id hw
    have hw9 : r_wf σ 9 30 := hw9
    have hw12 : r_wf σ 12 30 := hw12
    obtain ⟨s, hs⟩ : ∃ z, z = r_sgn σ ra 30 a := ⟨_, rfl⟩
    obtain ⟨t, ht⟩ : ∃ z, z = r_sgn σ rb 30 b := ⟨_, rfl⟩
    rw [← hs, ← ht]
    have hs16 : ∀ q, 16 ≤ q → s q = -9 := fun q hq => by rw [hs]; exact r_sgn_16 hwa q hq
    have ht16 : ∀ q, 16 ≤ q → t q = -9 := fun q hq => by rw [ht]; exact r_sgn_16 hwb q hq
    have hsr : ∀ q, -128 ≤ s q ∧ s q ≤ 127 := fun q => by rw [hs]; exact r_sgn_in hwa a q
    have htr : ∀ q, -128 ≤ t q ∧ t q ≤ 127 := fun q => by rw [ht]; exact r_sgn_in hwb b q
    have p1 := f_bat_in (s := s) (l := 0) (by rw [hs16 16 (by omega)]; omega) hi.1 hi.2
    have p2 := f_bat_in (s := t) (l := 0) (by rw [ht16 16 (by omega)]; omega) hj.1 hj.2
    have hfa : r_sgn τ ra 30 a = s := by rw [hs]; funext q; unfold r_sgn; rw [hbx.1]
    have hfb : r_sgn τ rb 30 b = t := by rw [ht]; funext q; unfold r_sgn; rw [hbx.1]
    have hwa1 : r_wf τ ra 30 := r_wf_congr (by rw [hbx.1]) (by rw [hbx.1]) hwa
    have hwb1 : r_wf τ rb 30 := r_wf_congr (by rw [hbx.1]) (by rw [hbx.1]) hwb
    refine a_iload (pc := 47) (i := 7) (by decide +kernel) rfl ?_
    refine a_bipush (pc := 49) (n := 16) (by decide +kernel) rfl ?_
    refine a_icmp_gt (pc := 51) (off := 133) (tgt := 184) (by decide +kernel) (by decide) (by omega) (by omega) (fun c51 => ?_) (fun c51 => ?_)
    · exfalso; omega
    · refine a_aload_n (pc := 54) (i := 0) (by decide +kernel) rfl ?_
      refine b_getR (pc := 55) (b := 37) fl_X5_27 (by decide +kernel) (sh_33 hn) rfl ?_
      refine a_aload (pc := 58) (i := 5) (by decide +kernel) rfl ?_
      refine a_iload_n (pc := 60) (i := 2) (by decide +kernel) rfl ?_
      refine a_iload (pc := 61) (i := 4) (by decide +kernel) rfl ?_
      refine a_if_ne (pc := 63) (off := 7) (tgt := 70) (by decide +kernel) (by decide) (by omega) (fun c63 => ?_) (fun c63 => ?_)
      · refine a_iconst (pc := 70) (n := 0) (by decide +kernel) ?_
        refine b_callV (pc := 71) (c' := 0) (sl' := 0) [.ref ra, j_i a, j_i 0] [] ml_X5_59 (by decide +kernel) rfl rfl (sh_37 hn) rfl rfl (Nat.le_of_ble_eq_true rfl) (j_fitI rfl rfl) (s_step (sh_37 hn) hra hwa1 ha (by rw [ti]; omega) (by decide)) (fun v n' σ' hq => ?_)
        obtain ⟨rfl, e1, e2⟩ := hq
        rw [e1, e2]; clear e1 e2
        rw [hfa, ti]
        obtain ⟨σ1, hσ1⟩ : ∃ z, z = y_st τ 37 (f_be s (f_bat s 0 i)) (f_bk s (f_bat s 0 i)) (f_bv s (f_bat s 0 i)) := ⟨_, rfl⟩
        rw [← hσ1]
        have tjσ1 : σ1.2.1 38 0 = j := by rw [hσ1, y_st_f]; exact tj
        have hfbσ1 : r_sgn σ1 rb 30 b = t := by rw [hσ1]; exact hfb
        have hwbσ1 : r_wf σ1 rb 30 := by rw [hσ1]; exact hwb1
        have hbσ1 : k_bx σ σ1 := by rw [hσ1]; exact k_bx_y (Or.inl rfl) hbx
        show j_at _ _ _ [(0, .ref 33), (1, .ref 8), (2, j_i a), (3, j_i b), (4, j_i 1), (5, .ref ra), (6, .ref rb), (7, j_i k)] [] _ _ _ _
        refine a_aload_n (pc := 74) (i := 0) (by decide +kernel) rfl ?_
        refine b_getR (pc := 75) (b := 38) fl_X5_31 (by decide +kernel) (sh_33 hn) rfl ?_
        refine a_aload (pc := 78) (i := 6) (by decide +kernel) rfl ?_
        refine a_iload_n (pc := 80) (i := 3) (by decide +kernel) rfl ?_
        refine a_iload (pc := 81) (i := 4) (by decide +kernel) rfl ?_
        refine a_if_ne (pc := 83) (off := 7) (tgt := 90) (by decide +kernel) (by decide) (by omega) (fun c83 => ?_) (fun c83 => ?_)
        · refine a_iconst (pc := 90) (n := 0) (by decide +kernel) ?_
          refine b_callV (pc := 91) (c' := 0) (sl' := 0) [.ref rb, j_i b, j_i 0] [] ml_X5_59 (by decide +kernel) rfl rfl (sh_38 hn) rfl rfl (Nat.le_of_ble_eq_true rfl) (j_fitI rfl rfl) (s_step (sh_38 hn) hrb hwbσ1 hb (by rw [tjσ1]; omega) (by decide)) (fun v n' σ' hq => ?_)
          obtain ⟨rfl, e1, e2⟩ := hq
          rw [e1, e2]; clear e1 e2
          rw [hfbσ1, tjσ1]
          obtain ⟨σ2, hσ2⟩ : ∃ z, z = y_st σ1 38 (f_be t (f_bat t 0 j)) (f_bk t (f_bat t 0 j)) (f_bv t (f_bat t 0 j)) := ⟨_, rfl⟩
          rw [← hσ2]
          have hbσ2 : k_bx σ σ2 := by rw [hσ2]; exact k_bx_y (Or.inr rfl) hbσ1
          have w9σ2 : r_wf σ2 9 30 := r_wf_congr (by rw [hbσ2.1]) (by rw [hbσ2.1]) hw9
          show j_at _ _ _ [(0, .ref 33), (1, .ref 8), (2, j_i a), (3, j_i b), (4, j_i 1), (5, .ref ra), (6, .ref rb), (7, j_i k)] [] _ _ _ _
          refine a_aload_n (pc := 94) (i := 0) (by decide +kernel) rfl ?_
          refine b_getR (pc := 95) (b := 37) fl_X5_27 (by decide +kernel) (sh_33 hn) rfl ?_
          refine b_getI (pc := 98) fl_X5_63 (by decide +kernel) (sh_37 hn) rfl ?_
          rw [show σ2.2.1 37 1 = f_bk s (f_bat s 0 i) from (by rw [hσ2, y_st_f, hσ1]; exact y_st_1)]
          refine a_aload_n (pc := 101) (i := 0) (by decide +kernel) rfl ?_
          refine b_getR (pc := 102) (b := 38) fl_X5_31 (by decide +kernel) (sh_33 hn) rfl ?_
          refine b_getI (pc := 105) fl_X5_63 (by decide +kernel) (sh_38 hn) rfl ?_
          rw [show σ2.2.1 38 1 = f_bk t (f_bat t 0 j) from (by rw [hσ2]; exact y_st_1)]
          refine a_icmp_eq (pc := 108) (off := 21) (tgt := 129) (by decide +kernel) (by decide) (by have := f_bk_in s (f_bat s 0 i); have := f_bk_in t (f_bat t 0 j); omega) (by have := f_bk_in s (f_bat s 0 i); have := f_bk_in t (f_bat t 0 j); omega) (fun c108 => ?_) (fun c108 => ?_)
          · refine a_aload_n (pc := 129) (i := 0) (by decide +kernel) rfl ?_
            refine b_getR (pc := 130) (b := 37) fl_X5_27 (by decide +kernel) (sh_33 hn) rfl ?_
            refine b_getL (pc := 133) fl_X5_72 (by decide +kernel) (sh_37 hn) rfl ?_
            rw [show σ2.2.1 37 2 = f_bv s (f_bat s 0 i) from (by rw [hσ2, y_st_f, hσ1]; exact y_st_2)]
            refine a_aload_n (pc := 136) (i := 0) (by decide +kernel) rfl ?_
            refine b_getR (pc := 137) (b := 38) fl_X5_31 (by decide +kernel) (sh_33 hn) rfl ?_
            refine b_getL (pc := 140) fl_X5_72 (by decide +kernel) (sh_38 hn) rfl ?_
            rw [show σ2.2.1 38 2 = f_bv t (f_bat t 0 j) from (by rw [hσ2]; exact y_st_2)]
            refine a_lcmp (pc := 143) (by decide +kernel) (by have := f_bv_in (s := s) (by rw [hs16 16 (by omega)]; omega) (hsr _) p1.1 p1.2; have := f_bv_in (s := t) (by rw [ht16 16 (by omega)]; omega) (htr _) p2.1 p2.2; omega) (by have := f_bv_in (s := s) (by rw [hs16 16 (by omega)]; omega) (hsr _) p1.1 p1.2; have := f_bv_in (s := t) (by rw [ht16 16 (by omega)]; omega) (htr _) p2.1 p2.2; omega) ?_
            refine a_if_eq (pc := 144) (off := 21) (tgt := 165) (by decide +kernel) (by decide) (by split <;> (try split) <;> omega) (fun c144 => ?_) (fun c144 => ?_)
            · refine a_aload_n (pc := 165) (i := 0) (by decide +kernel) rfl ?_
              refine b_getR (pc := 166) (b := 37) fl_X5_27 (by decide +kernel) (sh_33 hn) rfl ?_
              refine b_getI (pc := 169) fl_X5_63 (by decide +kernel) (sh_37 hn) rfl ?_
              rw [show σ2.2.1 37 1 = f_bk s (f_bat s 0 i) from (by rw [hσ2, y_st_f, hσ1]; exact y_st_1)]
              refine a_if_ne (pc := 172) (off := 6) (tgt := 178) (by decide +kernel) (by decide) (by have := f_bk_in s (f_bat s 0 i); omega) (fun c172 => ?_) (fun c172 => ?_)
              · refine a_iinc (pc := 178) (i := 7) (n := 1) (x := k) (lv' := [(0, .ref 33), (1, .ref 8), (2, j_i a), (3, j_i b), (4, j_i 1), (5, .ref ra), (6, .ref rb), (7, j_i (k + 1))]) (by decide +kernel) rfl (Nat.le_of_ble_eq_true rfl) rfl ?_
                refine a_goto (pc := 181) (off := -134) (tgt := 47) (by decide +kernel) (by decide) ?_
                have hv9 : f_bv s (f_bat s 0 i) = f_bv t (f_bat t 0 j) := by
                  by_cases h1 : f_bv s (f_bat s 0 i) < f_bv t (f_bat t 0 j)
                  · rw [if_pos h1] at c144; omega
                  · rw [if_neg h1] at c144
                    by_cases h2 : f_bv s (f_bat s 0 i) = f_bv t (f_bat t 0 j)
                    · exact h2
                    · rw [if_neg h2] at c144; omega
                have e : f_cb s t 0 (m + 1) i j = f_cb s t 0 m (f_be s (f_bat s 0 i)) (f_be t (f_bat t 0 j)) := ((if_neg (not_not_intro c108)).trans (if_neg (not_not_intro hv9))).trans (if_neg c172)
                have e1 := f_be_in (s := s) hs16 p1.1 p1.2 c172
                have e2 := f_be_in (s := t) ht16 p2.1 p2.2 (by rw [← c108]; exact c172)
                have e3 := ih (k + 1) (f_be s (f_bat s 0 i)) (f_be t (f_bat t 0 j)) σ2 (by omega) hbσ2 (by rw [hσ2, y_st_f, hσ1]; exact y_st_0) (by rw [hσ2]; exact y_st_0) (by omega) (by omega) (by omega) (by omega)
                rw [← hs, ← ht] at e3
                unfold o_res at e3 ⊢
                rw [e]
                exact e3
              · refine a_goto (pc := 175) (off := 9) (tgt := 184) (by decide +kernel) (by decide) ?_
                refine a_aload_n (pc := 184) (i := 1) (by decide +kernel) rfl ?_
                refine b_getR (pc := 185) (b := 9) fl_X5_81 (by decide +kernel) (sh_8 hn) rfl ?_
                refine a_iload_n (pc := 188) (i := 2) (by decide +kernel) rfl ?_
                refine a_aload_n (pc := 189) (i := 1) (by decide +kernel) rfl ?_
                refine b_getR (pc := 190) (b := 9) fl_X5_81 (by decide +kernel) (sh_8 hn) rfl ?_
                refine a_iload_n (pc := 193) (i := 3) (by decide +kernel) rfl ?_
                refine b_callV (pc := 194) (c' := 0) (sl' := 0) [j_i a, .ref 9, j_i b] [] ml_X5_84 (by decide +kernel) rfl rfl (sh_9 hn) rfl rfl (Nat.le_of_ble_eq_true rfl) (j_fitI rfl rfl) (s_byBytes (rA_9 hn) w9σ2 ha (rA_9 hn) w9σ2 hb) (fun v n' σ' hq => ?_)
                obtain ⟨y3, rfl, e1, e2, hy3⟩ := hq
                rw [e1, e2]; clear e1 e2
                show j_at _ _ _ [(0, .ref 33), (1, .ref 8), (2, j_i a), (3, j_i b), (4, j_i 1), (5, .ref ra), (6, .ref rb), (7, j_i k)] [j_i y3] _ _ _ _
                refine a_ireturn (pc := 197) (by decide +kernel) rfl ?_
                refine k_ret ?_
                have hv9 : f_bv s (f_bat s 0 i) = f_bv t (f_bat t 0 j) := by
                  by_cases h1 : f_bv s (f_bat s 0 i) < f_bv t (f_bat t 0 j)
                  · rw [if_pos h1] at c144; omega
                  · rw [if_neg h1] at c144
                    by_cases h2 : f_bv s (f_bat s 0 i) = f_bv t (f_bat t 0 j)
                    · exact h2
                    · rw [if_neg h2] at c144; omega
                have e : f_cb s t 0 (m + 1) i j = 0 := ((if_neg (not_not_intro c108)).trans (if_neg (not_not_intro hv9))).trans (if_pos c172)
                refine ⟨rfl, hbσ2, _, rfl, Or.inr ⟨e, ?_⟩⟩
                have ea : r_sgn σ2 9 30 a = r_sgn σ 9 30 a := by funext q; unfold r_sgn; rw [hbσ2.1]
                have eb : r_sgn σ2 9 30 b = r_sgn σ 9 30 b := by funext q; unfold r_sgn; rw [hbσ2.1]
                rw [ea, eb] at hy3
                exact hy3
            · refine a_aload_n (pc := 147) (i := 0) (by decide +kernel) rfl ?_
              refine b_getR (pc := 148) (b := 37) fl_X5_27 (by decide +kernel) (sh_33 hn) rfl ?_
              refine b_getL (pc := 151) fl_X5_72 (by decide +kernel) (sh_37 hn) rfl ?_
              rw [show σ2.2.1 37 2 = f_bv s (f_bat s 0 i) from (by rw [hσ2, y_st_f, hσ1]; exact y_st_2)]
              refine a_aload_n (pc := 154) (i := 0) (by decide +kernel) rfl ?_
              refine b_getR (pc := 155) (b := 38) fl_X5_31 (by decide +kernel) (sh_33 hn) rfl ?_
              refine b_getL (pc := 158) fl_X5_72 (by decide +kernel) (sh_38 hn) rfl ?_
              rw [show σ2.2.1 38 2 = f_bv t (f_bat t 0 j) from (by rw [hσ2]; exact y_st_2)]
              refine b_pureS (pc := 161) [j_l (f_bv s (f_bat s 0 i)), j_l (f_bv t (f_bat t 0 j))] [] ml_X5_76 (by decide +kernel) rfl rfl (Nat.le_of_ble_eq_true rfl) (j_fitI rfl rfl) (s_lcompare (by have := f_bv_in (s := s) (by rw [hs16 16 (by omega)]; omega) (hsr _) p1.1 p1.2; have := f_bv_in (s := t) (by rw [ht16 16 (by omega)]; omega) (htr _) p2.1 p2.2; omega) (by have := f_bv_in (s := s) (by rw [hs16 16 (by omega)]; omega) (hsr _) p1.1 p1.2; have := f_bv_in (s := t) (by rw [ht16 16 (by omega)]; omega) (htr _) p2.1 p2.2; omega)) ?_
              show j_at _ _ _ [(0, .ref 33), (1, .ref 8), (2, j_i a), (3, j_i b), (4, j_i 1), (5, .ref ra), (6, .ref rb), (7, j_i k)] [j_i (f_sgn (f_bv s (f_bat s 0 i)) (f_bv t (f_bat t 0 j)))] _ _ _ _
              refine a_ireturn (pc := 164) (by decide +kernel) rfl ?_
              refine k_ret ?_
              refine ⟨rfl, hbσ2, _, rfl, ?_⟩
              have hv9 : f_bv s (f_bat s 0 i) ≠ f_bv t (f_bat t 0 j) := fun h9 => by rw [h9] at c144; simp at c144
              have e : f_cb s t 0 (m + 1) i j = f_sgn (f_bv s (f_bat s 0 i)) (f_bv t (f_bat t 0 j)) := (if_neg (not_not_intro c108)).trans (if_pos hv9)
              have e2 := f_sgn_cases (f_bv s (f_bat s 0 i)) (f_bv t (f_bat t 0 j))
              exact Or.inl ⟨by rw [e]; omega, e.symm⟩
          · refine a_aload_n (pc := 111) (i := 0) (by decide +kernel) rfl ?_
            refine b_getR (pc := 112) (b := 37) fl_X5_27 (by decide +kernel) (sh_33 hn) rfl ?_
            refine b_getI (pc := 115) fl_X5_63 (by decide +kernel) (sh_37 hn) rfl ?_
            rw [show σ2.2.1 37 1 = f_bk s (f_bat s 0 i) from (by rw [hσ2, y_st_f, hσ1]; exact y_st_1)]
            refine a_aload_n (pc := 118) (i := 0) (by decide +kernel) rfl ?_
            refine b_getR (pc := 119) (b := 38) fl_X5_31 (by decide +kernel) (sh_33 hn) rfl ?_
            refine b_getI (pc := 122) fl_X5_63 (by decide +kernel) (sh_38 hn) rfl ?_
            rw [show σ2.2.1 38 1 = f_bk t (f_bat t 0 j) from (by rw [hσ2]; exact y_st_1)]
            refine b_pureS (pc := 125) [j_i (f_bk s (f_bat s 0 i)), j_i (f_bk t (f_bat t 0 j))] [] ml_X5_66 (by decide +kernel) rfl rfl (Nat.le_of_ble_eq_true rfl) (j_fitI rfl rfl) (s_icompare (by have := f_bk_in s (f_bat s 0 i); omega) (by have := f_bk_in t (f_bat t 0 j); omega)) ?_
            show j_at _ _ _ [(0, .ref 33), (1, .ref 8), (2, j_i a), (3, j_i b), (4, j_i 1), (5, .ref ra), (6, .ref rb), (7, j_i k)] [j_i (f_sgn (f_bk s (f_bat s 0 i)) (f_bk t (f_bat t 0 j)))] _ _ _ _
            refine a_ireturn (pc := 128) (by decide +kernel) rfl ?_
            refine k_ret ?_
            refine ⟨rfl, hbσ2, _, rfl, ?_⟩
            have e : f_cb s t 0 (m + 1) i j = f_sgn (f_bk s (f_bat s 0 i)) (f_bk t (f_bat t 0 j)) := if_pos c108
            have e2 := f_sgn_cases (f_bk s (f_bat s 0 i)) (f_bk t (f_bat t 0 j))
            exact Or.inl ⟨by rw [e]; omega, e.symm⟩
        · exact absurd c83 (by decide)
      · exact absurd c63 (by decide)
