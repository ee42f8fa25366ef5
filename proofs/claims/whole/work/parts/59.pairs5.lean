def ix (σ : k_St) : Nat := (σ.2.2 5 8).getD 0
def um_P (σ : k_St) (r : Int) : Prop := r = σ.2.1 (ix σ) 9
set_option maxHeartbeats 4000000 in
theorem c_unmatched {G : j_G} {X : k_X} {n : Nat} {σ : k_St} (hR : RR n σ)  : k_run G X mX11_unmatched [.ref 5] n σ 0 0 (fun v n' σ' => ∃ r : Int, v = some (j_i r) ∧ n' = n ∧ σ' = σ ∧ um_P σ r) := by
  obtain ⟨hK, hAc, hNm, hPs, hPt, hSm, hIx⟩ := id hR
  have hn := RR_n hR
  have hk := hK.1
  have hwh : h_wf σ 8 := hk.2.1
  have hwm : m_wf σ 16 := hk.2.2
  have hW : 0 ≤ σ.2.1 6 1 ∧ σ.2.1 6 1 ≤ 300 := hk.1
  have hfl := hSm.1
  obtain ⟨ia, ib, hab, hia, hib, wia, wib, ria, rib, hrg, h01, hIR, hchg⟩ := id hIx
  have hA : i_at X n ia := by rcases hab with q | q; rw [q.1]; exact iA_48 hn; rw [q.1]; exact iA_58 hn
  have hix : ix σ = ia := by unfold ix; rw [hia]; rfl
  have hab5 : ia = 48 ∨ ia = 58 := by omega
  obtain ⟨hs99, hs0, hs1, hs2, hs3, hs4, hs5, hs6, hs7⟩ := id hA
  obtain ⟨hc9, hp9, hl9, ho9, hv9⟩ := id wia
  refine k_enter (by decide +kernel) (Nat.le_of_ble_eq_true rfl) ?_
  show j_at _ _ _ [(0, .ref 5)] [] _ _ _ _
  refine a_aload_n (pc := 0) (i := 0) (by decide +kernel) rfl ?_
  refine b_getM (pc := 1) (b := ia) fl_X11_68 (by decide +kernel) (sh_5 hn) rfl hia ?_
  refine b_getI (pc := 4) fl_X11_330 (by decide +kernel) hs0 rfl ?_
  refine a_ireturn (pc := 7) (by decide +kernel) rfl ?_
  refine k_ret ?_
  exact ⟨_, rfl, rfl, rfl, by unfold um_P; rw [hix]⟩
set_option maxHeartbeats 4000000 in
theorem d_unmatched {G : j_G} {X : k_X} {n : Nat} {σ : k_St} (hR : RR n σ) {r : Int} (hP : um_P σ r)  : k_run G X mX12_unmatched [.ref 68] n σ 0 0 (fun v2 n2 σ2 => v2 = some (j_i r) ∧ RR n2 σ2) := by
  obtain ⟨hK, hAc, hNm, hPs, hPt, hSm, hIx⟩ := id hR
  have hn := RR_n hR
  have hk := hK.1
  have hwh : h_wf σ 8 := hk.2.1
  have hwm : m_wf σ 16 := hk.2.2
  have hW : 0 ≤ σ.2.1 6 1 ∧ σ.2.1 6 1 ≤ 300 := hk.1
  have hfl := hSm.1
  have hg := hK.2.2.2
  obtain ⟨⟨hgW, hgE, hgM⟩, hgh, hgm⟩ := KR_rg hk hK.2.1
  have hW0 : σ.2.1 6 1 = σ.1 69 0 := hK.2.1.1.1
  have hE0 : σ.2.1 8 3 = σ.1 69 301 := hK.2.1.2.1.1
  have hM0 : σ.2.1 16 5 = σ.1 69 1382 := hK.2.1.2.2.1
  have hfl8 : σ.2.1 68 11 = σ.2.1 5 10 := hSm.2.1
  obtain ⟨ia, ib, hab, hia, hib, wia, wib, ria, rib, hrg, h01, hIR, hchg⟩ := id hIx
  have hA : i_at X n ia := by rcases hab with q | q; rw [q.1]; exact iA_48 hn; rw [q.1]; exact iA_58 hn
  have hix : ix σ = ia := by unfold ix; rw [hia]; rfl
  have hab5 : ia = 48 ∨ ia = 58 := by omega
  obtain ⟨hs99, hs0, hs1, hs2, hs3, hs4, hs5, hs6, hs7⟩ := id hA
  obtain ⟨hc9, hp9, hl9, ho9, hv9⟩ := id wia
  obtain ⟨hI0, hI1, hI2, hI3, hI4, hI5, hI6, hI7, hI8⟩ := id hIR
  have hE : 0 ≤ σ.2.1 68 25 ∧ σ.2.1 68 25 ≤ 200 := by omega
  have hpr : ∀ i k, 0 ≤ i → i < σ.2.1 68 25 → 0 ≤ k → k < 3 → -9 ≤ σ.1 81 (3 * i + k) ∧ σ.1 81 (3 * i + k) ≤ 29 := fun i k i0 i1 k0 k1 => by rw [(hI1 i i0 (by omega)).1 k k0 k1]; exact f_head_in _ _
  refine k_enter (by decide +kernel) (Nat.le_of_ble_eq_true rfl) ?_
  show j_at _ _ _ [(0, .ref 68)] [] _ _ _ _
  refine a_aload_n (pc := 0) (i := 0) (by decide +kernel) rfl ?_
  refine b_getI (pc := 1) fl_X12_297 (by decide +kernel) (sh_68 hn) rfl ?_
  refine a_ireturn (pc := 4) (by decide +kernel) rfl ?_
  refine k_ret ?_
  unfold um_P at hP
  rw [hix] at hP
  exact ⟨by rw [hP, hI7], hR⟩
set_option maxHeartbeats 4000000 in
theorem p_unmatched {G : j_G} {X : k_X} {n : Nat} {σ : k_St} (hR : RR n σ)  : pr_ok G X mX11_unmatched mX12_unmatched [] n σ 0 0 := by
  refine ⟨_, c_unmatched hR  , fun v n' σ' hq => ?_⟩
  obtain ⟨r, hv, rfl, rfl, hP⟩ := hq
  exact ⟨RR_n hR, r, hv, d_unmatched hR   hP⟩
def ua_P (σ : k_St) (i r : Int) : Prop := (i < 0 ∧ r = -1) ∨ (0 ≤ i ∧ σ.2.1 (ix σ) 9 ≤ i ∧ r = -1) ∨ (0 ≤ i ∧ i < σ.2.1 (ix σ) 9 ∧ r = σ.1 (ix σ + 6) i)
set_option maxHeartbeats 4000000 in
theorem c_unmatchedAt {G : j_G} {X : k_X} {n : Nat} {σ : k_St} (hR : RR n σ) {i : Int} (hi : -2147483648 ≤ i ∧ i ≤ 2147483647)  : k_run G X mX11_unmatchedAt [.ref 5, j_i i] n σ 0 0 (fun v n' σ' => ∃ r : Int, v = some (j_i r) ∧ n' = n ∧ σ' = σ ∧ ua_P σ i r) := by
  obtain ⟨hK, hAc, hNm, hPs, hPt, hSm, hIx⟩ := id hR
  have hn := RR_n hR
  have hk := hK.1
  have hwh : h_wf σ 8 := hk.2.1
  have hwm : m_wf σ 16 := hk.2.2
  have hW : 0 ≤ σ.2.1 6 1 ∧ σ.2.1 6 1 ≤ 300 := hk.1
  have hfl := hSm.1
  obtain ⟨ia, ib, hab, hia, hib, wia, wib, ria, rib, hrg, h01, hIR, hchg⟩ := id hIx
  have hA : i_at X n ia := by rcases hab with q | q; rw [q.1]; exact iA_48 hn; rw [q.1]; exact iA_58 hn
  have hix : ix σ = ia := by unfold ix; rw [hia]; rfl
  have hab5 : ia = 48 ∨ ia = 58 := by omega
  obtain ⟨hs99, hs0, hs1, hs2, hs3, hs4, hs5, hs6, hs7⟩ := id hA
  obtain ⟨hc9, hp9, hl9, ho9, hv9⟩ := id wia
  refine k_enter (by decide +kernel) (Nat.le_of_ble_eq_true rfl) ?_
  show j_at _ _ _ [(0, .ref 5), (1, j_i i)] [] _ _ _ _
  refine a_iload_n (pc := 0) (i := 1) (by decide +kernel) rfl ?_
  refine a_if_lt (pc := 1) (off := 26) (tgt := 27) (by decide +kernel) (by decide) (by omega) (fun c1 => ?_) (fun c1 => ?_)
  · refine a_iconst (pc := 27) (n := (-1)) (by decide +kernel) ?_
    refine a_ireturn (pc := 28) (by decide +kernel) rfl ?_
    refine k_ret ?_
    refine ⟨_, rfl, rfl, rfl, ?_⟩
    unfold ua_P
    rw [hix]
    first | exact Or.inl (by omega) | exact Or.inr (Or.inl (by omega)) | exact Or.inr (Or.inr (by omega))
  · refine a_iload_n (pc := 4) (i := 1) (by decide +kernel) rfl ?_
    refine a_aload_n (pc := 5) (i := 0) (by decide +kernel) rfl ?_
    refine b_getM (pc := 6) (b := ia) fl_X11_68 (by decide +kernel) (sh_5 hn) rfl hia ?_
    refine b_getI (pc := 9) fl_X11_330 (by decide +kernel) hs0 rfl ?_
    refine a_icmp_ge (pc := 12) (off := 15) (tgt := 27) (by decide +kernel) (by decide) (by omega) (by omega) (fun c12 => ?_) (fun c12 => ?_)
    · refine a_iconst (pc := 27) (n := (-1)) (by decide +kernel) ?_
      refine a_ireturn (pc := 28) (by decide +kernel) rfl ?_
      refine k_ret ?_
      refine ⟨_, rfl, rfl, rfl, ?_⟩
      unfold ua_P
      rw [hix]
      first | exact Or.inl (by omega) | exact Or.inr (Or.inl (by omega)) | exact Or.inr (Or.inr (by omega))
    · refine a_aload_n (pc := 15) (i := 0) (by decide +kernel) rfl ?_
      refine b_getM (pc := 16) (b := ia) fl_X11_68 (by decide +kernel) (sh_5 hn) rfl hia ?_
      refine b_getR (pc := 19) (b := ia + 6) fl_X11_333 (by decide +kernel) hs0 rfl ?_
      refine a_iload_n (pc := 22) (i := 1) (by decide +kernel) rfl ?_
      refine b_iaload (pc := 23) (by decide +kernel) hs6 (by omega) (by omega) (by omega) ?_
      refine a_goto (pc := 24) (off := 4) (tgt := 28) (by decide +kernel) (by decide) ?_
      refine a_ireturn (pc := 28) (by decide +kernel) rfl ?_
      refine k_ret ?_
      refine ⟨_, rfl, rfl, rfl, ?_⟩
      unfold ua_P
      rw [hix]
      first | exact Or.inl (by omega) | exact Or.inr (Or.inl (by omega)) | exact Or.inr (Or.inr (by omega))
set_option maxHeartbeats 4000000 in
theorem d_unmatchedAt {G : j_G} {X : k_X} {n : Nat} {σ : k_St} (hR : RR n σ) {i : Int} (hi : -2147483648 ≤ i ∧ i ≤ 2147483647) {r : Int} (hP : ua_P σ i r)  : k_run G X mX12_unmatchedAt [.ref 68, j_i i] n σ 0 0 (fun v2 n2 σ2 => v2 = some (j_i r) ∧ RR n2 σ2) := by
  obtain ⟨hK, hAc, hNm, hPs, hPt, hSm, hIx⟩ := id hR
  have hn := RR_n hR
  have hk := hK.1
  have hwh : h_wf σ 8 := hk.2.1
  have hwm : m_wf σ 16 := hk.2.2
  have hW : 0 ≤ σ.2.1 6 1 ∧ σ.2.1 6 1 ≤ 300 := hk.1
  have hfl := hSm.1
  have hg := hK.2.2.2
  obtain ⟨⟨hgW, hgE, hgM⟩, hgh, hgm⟩ := KR_rg hk hK.2.1
  have hW0 : σ.2.1 6 1 = σ.1 69 0 := hK.2.1.1.1
  have hE0 : σ.2.1 8 3 = σ.1 69 301 := hK.2.1.2.1.1
  have hM0 : σ.2.1 16 5 = σ.1 69 1382 := hK.2.1.2.2.1
  have hfl8 : σ.2.1 68 11 = σ.2.1 5 10 := hSm.2.1
  obtain ⟨ia, ib, hab, hia, hib, wia, wib, ria, rib, hrg, h01, hIR, hchg⟩ := id hIx
  have hA : i_at X n ia := by rcases hab with q | q; rw [q.1]; exact iA_48 hn; rw [q.1]; exact iA_58 hn
  have hix : ix σ = ia := by unfold ix; rw [hia]; rfl
  have hab5 : ia = 48 ∨ ia = 58 := by omega
  obtain ⟨hs99, hs0, hs1, hs2, hs3, hs4, hs5, hs6, hs7⟩ := id hA
  obtain ⟨hc9, hp9, hl9, ho9, hv9⟩ := id wia
  obtain ⟨hI0, hI1, hI2, hI3, hI4, hI5, hI6, hI7, hI8⟩ := id hIR
  have hE : 0 ≤ σ.2.1 68 25 ∧ σ.2.1 68 25 ≤ 200 := by omega
  have hpr : ∀ i k, 0 ≤ i → i < σ.2.1 68 25 → 0 ≤ k → k < 3 → -9 ≤ σ.1 81 (3 * i + k) ∧ σ.1 81 (3 * i + k) ≤ 29 := fun i k i0 i1 k0 k1 => by rw [(hI1 i i0 (by omega)).1 k k0 k1]; exact f_head_in _ _
  refine k_enter (by decide +kernel) (Nat.le_of_ble_eq_true rfl) ?_
  show j_at _ _ _ [(0, .ref 68), (1, j_i i)] [] _ _ _ _
  refine a_iload_n (pc := 0) (i := 1) (by decide +kernel) rfl ?_
  refine a_iconst (pc := 1) (n := 0) (by decide +kernel) ?_
  refine a_aload_n (pc := 2) (i := 0) (by decide +kernel) rfl ?_
  refine b_getI (pc := 3) fl_X12_297 (by decide +kernel) (sh_68 hn) rfl ?_
  refine a_iconst (pc := 6) (n := 1) (by decide +kernel) ?_
  refine a_isub (pc := 7) (by decide +kernel) ?_
  refine b_callS (pc := 8) (c' := 0) (sl' := 0) [j_i i, j_i 0, j_i ((σ.2.1 68 43) - 1)] [] ml_X12_128 (by decide +kernel) rfl rfl (Nat.le_of_ble_eq_true rfl) (j_fitI rfl rfl) (s_dwithin (by omega) (by omega) (by omega)) (fun v n' σ' hq => ?_)
  obtain ⟨x, rfl, e1, e2, hx⟩ := hq
  rw [e1, e2]; clear e1 e2
  rcases hx with ⟨rfl, p8⟩ | ⟨rfl, p8⟩
  · show j_at _ _ _ [(0, .ref 68), (1, j_i i)] [j_i 1] _ _ _ _
    refine a_if_eq (pc := 11) (off := 12) (tgt := 23) (by decide +kernel) (by decide) (by omega) (fun c11 => ?_) (fun c11 => ?_)
    · exact absurd c11 (by decide)
    · have z8 := hI8 i (by omega) (by omega)
      refine a_aload_n (pc := 14) (i := 0) (by decide +kernel) rfl ?_
      refine b_getR (pc := 15) (b := 95) fl_X12_93 (by decide +kernel) (sh_68 hn) rfl ?_
      refine a_iload_n (pc := 18) (i := 1) (by decide +kernel) rfl ?_
      refine b_iaload (pc := 19) (by decide +kernel) (sh_95 hn) (by omega) (by omega) (by omega) ?_
      refine a_goto (pc := 20) (off := 4) (tgt := 24) (by decide +kernel) (by decide) ?_
      refine a_ireturn (pc := 24) (by decide +kernel) rfl ?_
      refine k_ret ?_
      have hr : (σ.1 95 i : Int) = r := by
        unfold ua_P at hP
        rw [hix] at hP
        rcases hP with hP | hP | hP <;> omega
      exact ⟨by rw [hr], hR⟩
  · show j_at _ _ _ [(0, .ref 68), (1, j_i i)] [j_i 0] _ _ _ _
    refine a_if_eq (pc := 11) (off := 12) (tgt := 23) (by decide +kernel) (by decide) (by omega) (fun c11 => ?_) (fun c11 => ?_)
    · refine a_iconst (pc := 23) (n := (-1)) (by decide +kernel) ?_
      refine a_ireturn (pc := 24) (by decide +kernel) rfl ?_
      refine k_ret ?_
      have hr : ((-1) : Int) = r := by
        unfold ua_P at hP
        rw [hix] at hP
        rcases hP with hP | hP | hP <;> omega
      exact ⟨by rw [hr], hR⟩
    · exact absurd c11 (by decide)
set_option maxHeartbeats 4000000 in
theorem p_unmatchedAt {G : j_G} {X : k_X} {n : Nat} {σ : k_St} (hR : RR n σ) {i : Int} (hi : -2147483648 ≤ i ∧ i ≤ 2147483647)  : pr_ok G X mX11_unmatchedAt mX12_unmatchedAt [j_i i] n σ 0 0 := by
  refine ⟨_, c_unmatchedAt hR hi , fun v n' σ' hq => ?_⟩
  obtain ⟨r, hv, rfl, rfl, hP⟩ := hq
  exact ⟨RR_n hR, r, hv, d_unmatchedAt hR hi  hP⟩
def pl_P (σ : k_St) (e i w r : Int) : Prop := (¬ (0 ≤ e ∧ e < σ.2.1 (ix σ) 0) ∧ r = -1) ∨ ((0 ≤ e ∧ e < σ.2.1 (ix σ) 0) ∧ ¬ (0 ≤ i ∧ i < i_pn σ (ix σ) e) ∧ r = -1) ∨ ((0 ≤ e ∧ e < σ.2.1 (ix σ) 0) ∧ (0 ≤ i ∧ i < i_pn σ (ix σ) e) ∧ ¬ (0 ≤ w ∧ w < 4) ∧ r = -2) ∨ ((0 ≤ e ∧ e < σ.2.1 (ix σ) 0) ∧ (0 ≤ i ∧ i < i_pn σ (ix σ) e) ∧ (0 ≤ w ∧ w < 4) ∧ r = σ.1 (ix σ + 4) ((i_ps σ (ix σ) e + i) * 4 + w))
set_option maxHeartbeats 4000000 in
theorem c_place {G : j_G} {X : k_X} {n : Nat} {σ : k_St} (hR : RR n σ) {e : Int} (he : -2147483648 ≤ e ∧ e ≤ 2147483647) {i : Int} (hi : -2147483648 ≤ i ∧ i ≤ 2147483647) {w : Int} (hw : -2147483648 ≤ w ∧ w ≤ 2147483647)  : k_run G X mX11_place [.ref 5, j_i e, j_i i, j_i w] n σ 0 0 (fun v n' σ' => ∃ r : Int, v = some (j_i r) ∧ n' = n ∧ σ' = σ ∧ pl_P σ e i w r) := by
  obtain ⟨hK, hAc, hNm, hPs, hPt, hSm, hIx⟩ := id hR
  have hn := RR_n hR
  have hk := hK.1
  have hwh : h_wf σ 8 := hk.2.1
  have hwm : m_wf σ 16 := hk.2.2
  have hW : 0 ≤ σ.2.1 6 1 ∧ σ.2.1 6 1 ≤ 300 := hk.1
  have hfl := hSm.1
  obtain ⟨ia, ib, hab, hia, hib, wia, wib, ria, rib, hrg, h01, hIR, hchg⟩ := id hIx
  have hA : i_at X n ia := by rcases hab with q | q; rw [q.1]; exact iA_48 hn; rw [q.1]; exact iA_58 hn
  have hix : ix σ = ia := by unfold ix; rw [hia]; rfl
  have hab5 : ia = 48 ∨ ia = 58 := by omega
  obtain ⟨hs99, hs0, hs1, hs2, hs3, hs4, hs5, hs6, hs7⟩ := id hA
  obtain ⟨hc9, hp9, hl9, ho9, hv9⟩ := id wia
  refine k_enter (by decide +kernel) (Nat.le_of_ble_eq_true rfl) ?_
  show j_at _ _ _ [(0, .ref 5), (1, j_i e), (2, j_i i), (3, j_i w)] [] _ _ _ _
  refine a_aload_n (pc := 0) (i := 0) (by decide +kernel) rfl ?_
  refine b_getM (pc := 1) (b := ia) fl_X11_68 (by decide +kernel) (sh_5 hn) rfl hia ?_
  refine a_iload_n (pc := 4) (i := 1) (by decide +kernel) rfl ?_
  refine b_callV (pc := 5) (c' := 0) (sl' := 0) [j_i e] [] ml_X11_286 (by decide +kernel) rfl rfl hs0 rfl rfl (Nat.le_of_ble_eq_true rfl) (j_fitI rfl rfl) (s_ihas hA wia (by omega)) (fun v n' σ' hq => ?_)
  obtain ⟨x, rfl, e1, e2, hx⟩ := hq
  rw [e1, e2]; clear e1 e2
  rcases hx with ⟨rfl, p5⟩ | ⟨rfl, p5⟩
  · show j_at _ _ _ [(0, .ref 5), (1, j_i e), (2, j_i i), (3, j_i w)] [j_i 1] _ _ _ _
    refine a_if_eq (pc := 8) (off := 19) (tgt := 27) (by decide +kernel) (by decide) (by omega) (fun c8 => ?_) (fun c8 => ?_)
    · exact absurd c8 (by decide)
    · refine a_iload_n (pc := 11) (i := 2) (by decide +kernel) rfl ?_
      refine a_if_lt (pc := 12) (off := 15) (tgt := 27) (by decide +kernel) (by decide) (by omega) (fun c12 => ?_) (fun c12 => ?_)
      · refine a_iconst (pc := 27) (n := (-1)) (by decide +kernel) ?_
        refine a_ireturn (pc := 28) (by decide +kernel) rfl ?_
        refine k_ret ?_
        refine ⟨_, rfl, rfl, rfl, ?_⟩
        unfold pl_P
        rw [hix]
        first | exact Or.inl (by omega) | exact Or.inr (Or.inl (by omega)) | exact Or.inr (Or.inr (Or.inl (by omega))) | exact Or.inr (Or.inr (Or.inr (by omega)))
      · refine a_iload_n (pc := 15) (i := 2) (by decide +kernel) rfl ?_
        refine a_aload_n (pc := 16) (i := 0) (by decide +kernel) rfl ?_
        refine b_getM (pc := 17) (b := ia) fl_X11_68 (by decide +kernel) (sh_5 hn) rfl hia ?_
        refine a_iload_n (pc := 20) (i := 1) (by decide +kernel) rfl ?_
        refine b_pureV (pc := 21) [j_i e] [j_i i] ml_X11_293 (by decide +kernel) rfl rfl hs0 rfl rfl (Nat.le_of_ble_eq_true rfl) (j_fitI rfl rfl) (s_placesOf hA wia (by omega)) ?_
        have q1 := i_pn_in wia e
        show j_at _ _ _ [(0, .ref 5), (1, j_i e), (2, j_i i), (3, j_i w)] [j_i (i_pn σ ia e), j_i i] _ _ _ _
        refine a_icmp_lt (pc := 24) (off := 5) (tgt := 29) (by decide +kernel) (by decide) (by omega) (by omega) (fun c24 => ?_) (fun c24 => ?_)
        · refine a_iload_n (pc := 29) (i := 3) (by decide +kernel) rfl ?_
          refine a_if_lt (pc := 30) (off := 8) (tgt := 38) (by decide +kernel) (by decide) (by omega) (fun c30 => ?_) (fun c30 => ?_)
          · refine a_bipush (pc := 38) (n := (-2)) (by decide +kernel) rfl ?_
            refine a_ireturn (pc := 40) (by decide +kernel) rfl ?_
            refine k_ret ?_
            refine ⟨_, rfl, rfl, rfl, ?_⟩
            unfold pl_P
            rw [hix]
            first | exact Or.inl (by omega) | exact Or.inr (Or.inl (by omega)) | exact Or.inr (Or.inr (Or.inl (by omega))) | exact Or.inr (Or.inr (Or.inr (by omega)))
          · refine a_iload_n (pc := 33) (i := 3) (by decide +kernel) rfl ?_
            refine a_iconst (pc := 34) (n := 4) (by decide +kernel) ?_
            refine a_icmp_lt (pc := 35) (off := 6) (tgt := 41) (by decide +kernel) (by decide) (by omega) (by omega) (fun c35 => ?_) (fun c35 => ?_)
            · refine a_aload_n (pc := 41) (i := 0) (by decide +kernel) rfl ?_
              refine b_getM (pc := 42) (b := ia) fl_X11_68 (by decide +kernel) (sh_5 hn) rfl hia ?_
              refine b_getR (pc := 45) (b := ia + 4) fl_X11_305 (by decide +kernel) hs0 rfl ?_
              refine a_aload_n (pc := 48) (i := 0) (by decide +kernel) rfl ?_
              refine b_getM (pc := 49) (b := ia) fl_X11_68 (by decide +kernel) (sh_5 hn) rfl hia ?_
              refine a_iload_n (pc := 52) (i := 1) (by decide +kernel) rfl ?_
              refine b_pureV (pc := 53) [j_i e] [.ref (ia + 4)] ml_X11_308 (by decide +kernel) rfl rfl hs0 rfl rfl (Nat.le_of_ble_eq_true rfl) (j_fitI rfl rfl) (s_placeStart hA wia (by omega)) ?_
              have q2 := i_ps_in wia e
              show j_at _ _ _ [(0, .ref 5), (1, j_i e), (2, j_i i), (3, j_i w)] [j_i (i_ps σ ia e), .ref (ia + 4)] _ _ _ _
              refine a_iload_n (pc := 56) (i := 2) (by decide +kernel) rfl ?_
              refine a_iadd (pc := 57) (by decide +kernel) ?_
              refine a_iconst (pc := 58) (n := 4) (by decide +kernel) ?_
              refine a_imul (pc := 59) (by decide +kernel) ?_
              refine a_iload_n (pc := 60) (i := 3) (by decide +kernel) rfl ?_
              refine a_iadd (pc := 61) (by decide +kernel) ?_
              refine b_iaload (pc := 62) (by decide +kernel) hs4 (by omega) (by omega) (by omega) ?_
              refine a_ireturn (pc := 63) (by decide +kernel) rfl ?_
              refine k_ret ?_
              refine ⟨_, rfl, rfl, rfl, ?_⟩
              unfold pl_P
              rw [hix]
              first | exact Or.inl (by omega) | exact Or.inr (Or.inl (by omega)) | exact Or.inr (Or.inr (Or.inl (by omega))) | exact Or.inr (Or.inr (Or.inr (by omega)))
            · refine a_bipush (pc := 38) (n := (-2)) (by decide +kernel) rfl ?_
              refine a_ireturn (pc := 40) (by decide +kernel) rfl ?_
              refine k_ret ?_
              refine ⟨_, rfl, rfl, rfl, ?_⟩
              unfold pl_P
              rw [hix]
              first | exact Or.inl (by omega) | exact Or.inr (Or.inl (by omega)) | exact Or.inr (Or.inr (Or.inl (by omega))) | exact Or.inr (Or.inr (Or.inr (by omega)))
        · refine a_iconst (pc := 27) (n := (-1)) (by decide +kernel) ?_
          refine a_ireturn (pc := 28) (by decide +kernel) rfl ?_
          refine k_ret ?_
          refine ⟨_, rfl, rfl, rfl, ?_⟩
          unfold pl_P
          rw [hix]
          first | exact Or.inl (by omega) | exact Or.inr (Or.inl (by omega)) | exact Or.inr (Or.inr (Or.inl (by omega))) | exact Or.inr (Or.inr (Or.inr (by omega)))
  · show j_at _ _ _ [(0, .ref 5), (1, j_i e), (2, j_i i), (3, j_i w)] [j_i 0] _ _ _ _
    refine a_if_eq (pc := 8) (off := 19) (tgt := 27) (by decide +kernel) (by decide) (by omega) (fun c8 => ?_) (fun c8 => ?_)
    · refine a_iconst (pc := 27) (n := (-1)) (by decide +kernel) ?_
      refine a_ireturn (pc := 28) (by decide +kernel) rfl ?_
      refine k_ret ?_
      refine ⟨_, rfl, rfl, rfl, ?_⟩
      unfold pl_P
      rw [hix]
      first | exact Or.inl (by omega) | exact Or.inr (Or.inl (by omega)) | exact Or.inr (Or.inr (Or.inl (by omega))) | exact Or.inr (Or.inr (Or.inr (by omega)))
    · exact absurd c8 (by decide)
set_option maxHeartbeats 4000000 in
theorem d_place {G : j_G} {X : k_X} {n : Nat} {σ : k_St} (hR : RR n σ) {e : Int} (he : -2147483648 ≤ e ∧ e ≤ 2147483647) {i : Int} (hi : -2147483648 ≤ i ∧ i ≤ 2147483647) {w : Int} (hw : -2147483648 ≤ w ∧ w ≤ 2147483647) {r : Int} (hP : pl_P σ e i w r)  : k_run G X mX12_place [.ref 68, j_i e, j_i i, j_i w] n σ 0 0 (fun v2 n2 σ2 => v2 = some (j_i r) ∧ RR n2 σ2) := by
  obtain ⟨hK, hAc, hNm, hPs, hPt, hSm, hIx⟩ := id hR
  have hn := RR_n hR
  have hk := hK.1
  have hwh : h_wf σ 8 := hk.2.1
  have hwm : m_wf σ 16 := hk.2.2
  have hW : 0 ≤ σ.2.1 6 1 ∧ σ.2.1 6 1 ≤ 300 := hk.1
  have hfl := hSm.1
  have hg := hK.2.2.2
  obtain ⟨⟨hgW, hgE, hgM⟩, hgh, hgm⟩ := KR_rg hk hK.2.1
  have hW0 : σ.2.1 6 1 = σ.1 69 0 := hK.2.1.1.1
  have hE0 : σ.2.1 8 3 = σ.1 69 301 := hK.2.1.2.1.1
  have hM0 : σ.2.1 16 5 = σ.1 69 1382 := hK.2.1.2.2.1
  have hfl8 : σ.2.1 68 11 = σ.2.1 5 10 := hSm.2.1
  obtain ⟨ia, ib, hab, hia, hib, wia, wib, ria, rib, hrg, h01, hIR, hchg⟩ := id hIx
  have hA : i_at X n ia := by rcases hab with q | q; rw [q.1]; exact iA_48 hn; rw [q.1]; exact iA_58 hn
  have hix : ix σ = ia := by unfold ix; rw [hia]; rfl
  have hab5 : ia = 48 ∨ ia = 58 := by omega
  obtain ⟨hs99, hs0, hs1, hs2, hs3, hs4, hs5, hs6, hs7⟩ := id hA
  obtain ⟨hc9, hp9, hl9, ho9, hv9⟩ := id wia
  obtain ⟨hI0, hI1, hI2, hI3, hI4, hI5, hI6, hI7, hI8⟩ := id hIR
  have hE : 0 ≤ σ.2.1 68 25 ∧ σ.2.1 68 25 ≤ 200 := by omega
  have hpr : ∀ i k, 0 ≤ i → i < σ.2.1 68 25 → 0 ≤ k → k < 3 → -9 ≤ σ.1 81 (3 * i + k) ∧ σ.1 81 (3 * i + k) ≤ 29 := fun i k i0 i1 k0 k1 => by rw [(hI1 i i0 (by omega)).1 k k0 k1]; exact f_head_in _ _
  refine k_enter (by decide +kernel) (Nat.le_of_ble_eq_true rfl) ?_
  show j_at _ _ _ [(0, .ref 68), (1, j_i e), (2, j_i i), (3, j_i w)] [] _ _ _ _
  refine a_aload_n (pc := 0) (i := 0) (by decide +kernel) rfl ?_
  refine a_iload_n (pc := 1) (i := 1) (by decide +kernel) rfl ?_
  refine b_callV (pc := 2) (c' := 0) (sl' := 0) [j_i e] [] ml_X12_389 (by decide +kernel) rfl rfl (sh_68 hn) rfl rfl (Nat.le_of_ble_eq_true rfl) (j_fitI rfl rfl) (s_disEntry hn hE (by omega)) (fun v n' σ' hq => ?_)
  obtain ⟨x, rfl, e1, e2, hx⟩ := hq
  rw [e1, e2]; clear e1 e2
  rcases hx with ⟨rfl, p2⟩ | ⟨rfl, p2⟩
  · show j_at _ _ _ [(0, .ref 68), (1, j_i e), (2, j_i i), (3, j_i w)] [j_i 1] _ _ _ _
    obtain ⟨y1, ⟨y2, y3, y4, y5⟩, ⟨y6, y7, y8, y9⟩, _⟩ := hI1 e (by omega) (by omega)
    have z1 := y2
    have z2 := y3
    have z3 := i_ps_in wia e
    refine a_if_eq (pc := 5) (off := 19) (tgt := 24) (by decide +kernel) (by decide) (by omega) (fun c5 => ?_) (fun c5 => ?_)
    · exact absurd c5 (by decide)
    · refine a_iload_n (pc := 8) (i := 2) (by decide +kernel) rfl ?_
      refine a_iconst (pc := 9) (n := 0) (by decide +kernel) ?_
      refine a_aload_n (pc := 10) (i := 0) (by decide +kernel) rfl ?_
      refine b_getR (pc := 11) (b := 82) fl_X12_54 (by decide +kernel) (sh_68 hn) rfl ?_
      refine a_iload_n (pc := 14) (i := 1) (by decide +kernel) rfl ?_
      refine b_iaload (pc := 15) (by decide +kernel) (sh_82 hn) (by omega) (by omega) (by omega) ?_
      refine a_iconst (pc := 16) (n := 1) (by decide +kernel) ?_
      refine a_isub (pc := 17) (by decide +kernel) ?_
      refine b_callS (pc := 18) (c' := 0) (sl' := 0) [j_i i, j_i 0, j_i ((σ.1 82 e) - 1)] [] ml_X12_128 (by decide +kernel) rfl rfl (Nat.le_of_ble_eq_true rfl) (j_fitI rfl rfl) (s_dwithin (by omega) (by omega) (by omega)) (fun v n' σ' hq => ?_)
      obtain ⟨x, rfl, e1, e2, hx⟩ := hq
      rw [e1, e2]; clear e1 e2
      rcases hx with ⟨rfl, p18⟩ | ⟨rfl, p18⟩
      · show j_at _ _ _ [(0, .ref 68), (1, j_i e), (2, j_i i), (3, j_i w)] [j_i 1] _ _ _ _
        refine a_if_ne (pc := 21) (off := 5) (tgt := 26) (by decide +kernel) (by decide) (by omega) (fun c21 => ?_) (fun c21 => ?_)
        · refine a_iload_n (pc := 26) (i := 3) (by decide +kernel) rfl ?_
          refine a_iconst (pc := 27) (n := 0) (by decide +kernel) ?_
          refine a_iconst (pc := 28) (n := 3) (by decide +kernel) ?_
          refine b_callS (pc := 29) (c' := 0) (sl' := 0) [j_i w, j_i 0, j_i 3] [] ml_X12_128 (by decide +kernel) rfl rfl (Nat.le_of_ble_eq_true rfl) (j_fitI rfl rfl) (s_dwithin (by omega) (by omega) (by omega)) (fun v n' σ' hq => ?_)
          obtain ⟨x, rfl, e1, e2, hx⟩ := hq
          rw [e1, e2]; clear e1 e2
          rcases hx with ⟨rfl, p29⟩ | ⟨rfl, p29⟩
          · show j_at _ _ _ [(0, .ref 68), (1, j_i e), (2, j_i i), (3, j_i w)] [j_i 1] _ _ _ _
            refine a_if_eq (pc := 32) (off := 23) (tgt := 55) (by decide +kernel) (by decide) (by omega) (fun c32 => ?_) (fun c32 => ?_)
            · exact absurd c32 (by decide)
            · refine a_aload_n (pc := 35) (i := 0) (by decide +kernel) rfl ?_
              refine b_getR (pc := 36) (b := 86) fl_X12_66 (by decide +kernel) (sh_68 hn) rfl ?_
              refine a_iconst (pc := 39) (n := 4) (by decide +kernel) ?_
              refine a_aload_n (pc := 40) (i := 0) (by decide +kernel) rfl ?_
              refine b_getR (pc := 41) (b := 83) fl_X12_57 (by decide +kernel) (sh_68 hn) rfl ?_
              refine a_iload_n (pc := 44) (i := 1) (by decide +kernel) rfl ?_
              refine b_iaload (pc := 45) (by decide +kernel) (sh_83 hn) (by omega) (by omega) (by omega) ?_
              refine a_iload_n (pc := 46) (i := 2) (by decide +kernel) rfl ?_
              refine a_iadd (pc := 47) (by decide +kernel) ?_
              refine a_imul (pc := 48) (by decide +kernel) ?_
              refine a_iload_n (pc := 49) (i := 3) (by decide +kernel) rfl ?_
              refine a_iadd (pc := 50) (by decide +kernel) ?_
              refine b_iaload (pc := 51) (by decide +kernel) (sh_86 hn) (by omega) (by omega) (by omega) ?_
              refine a_goto (pc := 52) (off := 5) (tgt := 57) (by decide +kernel) (by decide) ?_
              refine a_ireturn (pc := 57) (by decide +kernel) rfl ?_
              refine k_ret ?_
              have hr : (σ.1 86 ((4 * ((σ.1 83 e) + i)) + w) : Int) = r := by
                unfold pl_P at hP
                rw [hix] at hP
                rcases hP with hP | hP | hP | hP
                · omega
                · omega
                · omega
                · rw [hP.2.2.2, show (i_ps σ ia e + i) * 4 + w = 4 * (i_ps σ ia e + i) + w by omega, ← hI4 _ (by omega) (by omega), z2]
              exact ⟨by rw [hr], hR⟩
          · show j_at _ _ _ [(0, .ref 68), (1, j_i e), (2, j_i i), (3, j_i w)] [j_i 0] _ _ _ _
            refine a_if_eq (pc := 32) (off := 23) (tgt := 55) (by decide +kernel) (by decide) (by omega) (fun c32 => ?_) (fun c32 => ?_)
            · refine a_bipush (pc := 55) (n := (-2)) (by decide +kernel) rfl ?_
              refine a_ireturn (pc := 57) (by decide +kernel) rfl ?_
              refine k_ret ?_
              have hr : ((-2) : Int) = r := by
                unfold pl_P at hP
                rw [hix] at hP
                rcases hP with hP | hP | hP | hP <;> omega
              exact ⟨by rw [hr], hR⟩
            · exact absurd c32 (by decide)
        · exact absurd c21 (by decide)
      · show j_at _ _ _ [(0, .ref 68), (1, j_i e), (2, j_i i), (3, j_i w)] [j_i 0] _ _ _ _
        refine a_if_ne (pc := 21) (off := 5) (tgt := 26) (by decide +kernel) (by decide) (by omega) (fun c21 => ?_) (fun c21 => ?_)
        · exact absurd c21 (by decide)
        · refine a_iconst (pc := 24) (n := (-1)) (by decide +kernel) ?_
          refine a_ireturn (pc := 25) (by decide +kernel) rfl ?_
          refine k_ret ?_
          have hr : ((-1) : Int) = r := by
            unfold pl_P at hP
            rw [hix] at hP
            rcases hP with hP | hP | hP | hP <;> omega
          exact ⟨by rw [hr], hR⟩
  · show j_at _ _ _ [(0, .ref 68), (1, j_i e), (2, j_i i), (3, j_i w)] [j_i 0] _ _ _ _
    refine a_if_eq (pc := 5) (off := 19) (tgt := 24) (by decide +kernel) (by decide) (by omega) (fun c5 => ?_) (fun c5 => ?_)
    · refine a_iconst (pc := 24) (n := (-1)) (by decide +kernel) ?_
      refine a_ireturn (pc := 25) (by decide +kernel) rfl ?_
      refine k_ret ?_
      have hr : ((-1) : Int) = r := by
        unfold pl_P at hP
        rw [hix] at hP
        rcases hP with hP | hP | hP | hP <;> omega
      exact ⟨by rw [hr], hR⟩
    · exact absurd c5 (by decide)
set_option maxHeartbeats 4000000 in
theorem p_place {G : j_G} {X : k_X} {n : Nat} {σ : k_St} (hR : RR n σ) {e : Int} (he : -2147483648 ≤ e ∧ e ≤ 2147483647) {i : Int} (hi : -2147483648 ≤ i ∧ i ≤ 2147483647) {w : Int} (hw : -2147483648 ≤ w ∧ w ≤ 2147483647)  : pr_ok G X mX11_place mX12_place [j_i e, j_i i, j_i w] n σ 0 0 := by
  refine ⟨_, c_place hR he hi hw , fun v n' σ' hq => ?_⟩
  obtain ⟨r, hv, rfl, rfl, hP⟩ := hq
  exact ⟨RR_n hR, r, hv, d_place hR he hi hw  hP⟩
def se_P (σ : k_St) (e i w r : Int) : Prop := (¬ (0 ≤ e ∧ e < σ.2.1 (ix σ) 0) ∧ r = -1) ∨ ((0 ≤ e ∧ e < σ.2.1 (ix σ) 0) ∧ ¬ (0 ≤ i ∧ i < i_sn σ (ix σ) e) ∧ r = -1) ∨ ((0 ≤ e ∧ e < σ.2.1 (ix σ) 0) ∧ (0 ≤ i ∧ i < i_sn σ (ix σ) e) ∧ ¬ (0 ≤ w ∧ w < 3) ∧ r = -2) ∨ ((0 ≤ e ∧ e < σ.2.1 (ix σ) 0) ∧ (0 ≤ i ∧ i < i_sn σ (ix σ) e) ∧ (0 ≤ w ∧ w < 3) ∧ r = σ.1 (ix σ + 5) ((i_ls σ (ix σ) e + i) * 3 + w))
set_option maxHeartbeats 4000000 in
theorem c_sees {G : j_G} {X : k_X} {n : Nat} {σ : k_St} (hR : RR n σ) {e : Int} (he : -2147483648 ≤ e ∧ e ≤ 2147483647) {i : Int} (hi : -2147483648 ≤ i ∧ i ≤ 2147483647) {w : Int} (hw : -2147483648 ≤ w ∧ w ≤ 2147483647)  : k_run G X mX11_sees [.ref 5, j_i e, j_i i, j_i w] n σ 0 0 (fun v n' σ' => ∃ r : Int, v = some (j_i r) ∧ n' = n ∧ σ' = σ ∧ se_P σ e i w r) := by
  obtain ⟨hK, hAc, hNm, hPs, hPt, hSm, hIx⟩ := id hR
  have hn := RR_n hR
  have hk := hK.1
  have hwh : h_wf σ 8 := hk.2.1
  have hwm : m_wf σ 16 := hk.2.2
  have hW : 0 ≤ σ.2.1 6 1 ∧ σ.2.1 6 1 ≤ 300 := hk.1
  have hfl := hSm.1
  obtain ⟨ia, ib, hab, hia, hib, wia, wib, ria, rib, hrg, h01, hIR, hchg⟩ := id hIx
  have hA : i_at X n ia := by rcases hab with q | q; rw [q.1]; exact iA_48 hn; rw [q.1]; exact iA_58 hn
  have hix : ix σ = ia := by unfold ix; rw [hia]; rfl
  have hab5 : ia = 48 ∨ ia = 58 := by omega
  obtain ⟨hs99, hs0, hs1, hs2, hs3, hs4, hs5, hs6, hs7⟩ := id hA
  obtain ⟨hc9, hp9, hl9, ho9, hv9⟩ := id wia
  refine k_enter (by decide +kernel) (Nat.le_of_ble_eq_true rfl) ?_
  show j_at _ _ _ [(0, .ref 5), (1, j_i e), (2, j_i i), (3, j_i w)] [] _ _ _ _
  refine a_aload_n (pc := 0) (i := 0) (by decide +kernel) rfl ?_
  refine b_getM (pc := 1) (b := ia) fl_X11_68 (by decide +kernel) (sh_5 hn) rfl hia ?_
  refine a_iload_n (pc := 4) (i := 1) (by decide +kernel) rfl ?_
  refine b_callV (pc := 5) (c' := 0) (sl' := 0) [j_i e] [] ml_X11_286 (by decide +kernel) rfl rfl hs0 rfl rfl (Nat.le_of_ble_eq_true rfl) (j_fitI rfl rfl) (s_ihas hA wia (by omega)) (fun v n' σ' hq => ?_)
  obtain ⟨x, rfl, e1, e2, hx⟩ := hq
  rw [e1, e2]; clear e1 e2
  rcases hx with ⟨rfl, p5⟩ | ⟨rfl, p5⟩
  · show j_at _ _ _ [(0, .ref 5), (1, j_i e), (2, j_i i), (3, j_i w)] [j_i 1] _ _ _ _
    refine a_if_eq (pc := 8) (off := 19) (tgt := 27) (by decide +kernel) (by decide) (by omega) (fun c8 => ?_) (fun c8 => ?_)
    · exact absurd c8 (by decide)
    · refine a_iload_n (pc := 11) (i := 2) (by decide +kernel) rfl ?_
      refine a_if_lt (pc := 12) (off := 15) (tgt := 27) (by decide +kernel) (by decide) (by omega) (fun c12 => ?_) (fun c12 => ?_)
      · refine a_iconst (pc := 27) (n := (-1)) (by decide +kernel) ?_
        refine a_ireturn (pc := 28) (by decide +kernel) rfl ?_
        refine k_ret ?_
        refine ⟨_, rfl, rfl, rfl, ?_⟩
        unfold se_P
        rw [hix]
        first | exact Or.inl (by omega) | exact Or.inr (Or.inl (by omega)) | exact Or.inr (Or.inr (Or.inl (by omega))) | exact Or.inr (Or.inr (Or.inr (by omega)))
      · refine a_iload_n (pc := 15) (i := 2) (by decide +kernel) rfl ?_
        refine a_aload_n (pc := 16) (i := 0) (by decide +kernel) rfl ?_
        refine b_getM (pc := 17) (b := ia) fl_X11_68 (by decide +kernel) (sh_5 hn) rfl hia ?_
        refine a_iload_n (pc := 20) (i := 1) (by decide +kernel) rfl ?_
        refine b_pureV (pc := 21) [j_i e] [j_i i] ml_X11_299 (by decide +kernel) rfl rfl hs0 rfl rfl (Nat.le_of_ble_eq_true rfl) (j_fitI rfl rfl) (s_seesOf hA wia (by omega)) ?_
        have q1 := i_sn_in wia e
        show j_at _ _ _ [(0, .ref 5), (1, j_i e), (2, j_i i), (3, j_i w)] [j_i (i_sn σ ia e), j_i i] _ _ _ _
        refine a_icmp_lt (pc := 24) (off := 5) (tgt := 29) (by decide +kernel) (by decide) (by omega) (by omega) (fun c24 => ?_) (fun c24 => ?_)
        · refine a_iload_n (pc := 29) (i := 3) (by decide +kernel) rfl ?_
          refine a_if_lt (pc := 30) (off := 8) (tgt := 38) (by decide +kernel) (by decide) (by omega) (fun c30 => ?_) (fun c30 => ?_)
          · refine a_bipush (pc := 38) (n := (-2)) (by decide +kernel) rfl ?_
            refine a_ireturn (pc := 40) (by decide +kernel) rfl ?_
            refine k_ret ?_
            refine ⟨_, rfl, rfl, rfl, ?_⟩
            unfold se_P
            rw [hix]
            first | exact Or.inl (by omega) | exact Or.inr (Or.inl (by omega)) | exact Or.inr (Or.inr (Or.inl (by omega))) | exact Or.inr (Or.inr (Or.inr (by omega)))
          · refine a_iload_n (pc := 33) (i := 3) (by decide +kernel) rfl ?_
            refine a_iconst (pc := 34) (n := 3) (by decide +kernel) ?_
            refine a_icmp_lt (pc := 35) (off := 6) (tgt := 41) (by decide +kernel) (by decide) (by omega) (by omega) (fun c35 => ?_) (fun c35 => ?_)
            · refine a_aload_n (pc := 41) (i := 0) (by decide +kernel) rfl ?_
              refine b_getM (pc := 42) (b := ia) fl_X11_68 (by decide +kernel) (sh_5 hn) rfl hia ?_
              refine b_getR (pc := 45) (b := ia + 5) fl_X11_311 (by decide +kernel) hs0 rfl ?_
              refine a_aload_n (pc := 48) (i := 0) (by decide +kernel) rfl ?_
              refine b_getM (pc := 49) (b := ia) fl_X11_68 (by decide +kernel) (sh_5 hn) rfl hia ?_
              refine a_iload_n (pc := 52) (i := 1) (by decide +kernel) rfl ?_
              refine b_pureV (pc := 53) [j_i e] [.ref (ia + 5)] ml_X11_314 (by decide +kernel) rfl rfl hs0 rfl rfl (Nat.le_of_ble_eq_true rfl) (j_fitI rfl rfl) (s_leadStart hA wia (by omega)) ?_
              have q2 := i_ls_in wia e
              show j_at _ _ _ [(0, .ref 5), (1, j_i e), (2, j_i i), (3, j_i w)] [j_i (i_ls σ ia e), .ref (ia + 5)] _ _ _ _
              refine a_iload_n (pc := 56) (i := 2) (by decide +kernel) rfl ?_
              refine a_iadd (pc := 57) (by decide +kernel) ?_
              refine a_iconst (pc := 58) (n := 3) (by decide +kernel) ?_
              refine a_imul (pc := 59) (by decide +kernel) ?_
              refine a_iload_n (pc := 60) (i := 3) (by decide +kernel) rfl ?_
              refine a_iadd (pc := 61) (by decide +kernel) ?_
              refine b_iaload (pc := 62) (by decide +kernel) hs5 (by omega) (by omega) (by omega) ?_
              refine a_ireturn (pc := 63) (by decide +kernel) rfl ?_
              refine k_ret ?_
              refine ⟨_, rfl, rfl, rfl, ?_⟩
              unfold se_P
              rw [hix]
              first | exact Or.inl (by omega) | exact Or.inr (Or.inl (by omega)) | exact Or.inr (Or.inr (Or.inl (by omega))) | exact Or.inr (Or.inr (Or.inr (by omega)))
            · refine a_bipush (pc := 38) (n := (-2)) (by decide +kernel) rfl ?_
              refine a_ireturn (pc := 40) (by decide +kernel) rfl ?_
              refine k_ret ?_
              refine ⟨_, rfl, rfl, rfl, ?_⟩
              unfold se_P
              rw [hix]
              first | exact Or.inl (by omega) | exact Or.inr (Or.inl (by omega)) | exact Or.inr (Or.inr (Or.inl (by omega))) | exact Or.inr (Or.inr (Or.inr (by omega)))
        · refine a_iconst (pc := 27) (n := (-1)) (by decide +kernel) ?_
          refine a_ireturn (pc := 28) (by decide +kernel) rfl ?_
          refine k_ret ?_
          refine ⟨_, rfl, rfl, rfl, ?_⟩
          unfold se_P
          rw [hix]
          first | exact Or.inl (by omega) | exact Or.inr (Or.inl (by omega)) | exact Or.inr (Or.inr (Or.inl (by omega))) | exact Or.inr (Or.inr (Or.inr (by omega)))
  · show j_at _ _ _ [(0, .ref 5), (1, j_i e), (2, j_i i), (3, j_i w)] [j_i 0] _ _ _ _
    refine a_if_eq (pc := 8) (off := 19) (tgt := 27) (by decide +kernel) (by decide) (by omega) (fun c8 => ?_) (fun c8 => ?_)
    · refine a_iconst (pc := 27) (n := (-1)) (by decide +kernel) ?_
      refine a_ireturn (pc := 28) (by decide +kernel) rfl ?_
      refine k_ret ?_
      refine ⟨_, rfl, rfl, rfl, ?_⟩
      unfold se_P
      rw [hix]
      first | exact Or.inl (by omega) | exact Or.inr (Or.inl (by omega)) | exact Or.inr (Or.inr (Or.inl (by omega))) | exact Or.inr (Or.inr (Or.inr (by omega)))
    · exact absurd c8 (by decide)
set_option maxHeartbeats 4000000 in
theorem d_sees {G : j_G} {X : k_X} {n : Nat} {σ : k_St} (hR : RR n σ) {e : Int} (he : -2147483648 ≤ e ∧ e ≤ 2147483647) {i : Int} (hi : -2147483648 ≤ i ∧ i ≤ 2147483647) {w : Int} (hw : -2147483648 ≤ w ∧ w ≤ 2147483647) {r : Int} (hP : se_P σ e i w r)  : k_run G X mX12_sees [.ref 68, j_i e, j_i i, j_i w] n σ 0 0 (fun v2 n2 σ2 => v2 = some (j_i r) ∧ RR n2 σ2) := by
  obtain ⟨hK, hAc, hNm, hPs, hPt, hSm, hIx⟩ := id hR
  have hn := RR_n hR
  have hk := hK.1
  have hwh : h_wf σ 8 := hk.2.1
  have hwm : m_wf σ 16 := hk.2.2
  have hW : 0 ≤ σ.2.1 6 1 ∧ σ.2.1 6 1 ≤ 300 := hk.1
  have hfl := hSm.1
  have hg := hK.2.2.2
  obtain ⟨⟨hgW, hgE, hgM⟩, hgh, hgm⟩ := KR_rg hk hK.2.1
  have hW0 : σ.2.1 6 1 = σ.1 69 0 := hK.2.1.1.1
  have hE0 : σ.2.1 8 3 = σ.1 69 301 := hK.2.1.2.1.1
  have hM0 : σ.2.1 16 5 = σ.1 69 1382 := hK.2.1.2.2.1
  have hfl8 : σ.2.1 68 11 = σ.2.1 5 10 := hSm.2.1
  obtain ⟨ia, ib, hab, hia, hib, wia, wib, ria, rib, hrg, h01, hIR, hchg⟩ := id hIx
  have hA : i_at X n ia := by rcases hab with q | q; rw [q.1]; exact iA_48 hn; rw [q.1]; exact iA_58 hn
  have hix : ix σ = ia := by unfold ix; rw [hia]; rfl
  have hab5 : ia = 48 ∨ ia = 58 := by omega
  obtain ⟨hs99, hs0, hs1, hs2, hs3, hs4, hs5, hs6, hs7⟩ := id hA
  obtain ⟨hc9, hp9, hl9, ho9, hv9⟩ := id wia
  obtain ⟨hI0, hI1, hI2, hI3, hI4, hI5, hI6, hI7, hI8⟩ := id hIR
  have hE : 0 ≤ σ.2.1 68 25 ∧ σ.2.1 68 25 ≤ 200 := by omega
  have hpr : ∀ i k, 0 ≤ i → i < σ.2.1 68 25 → 0 ≤ k → k < 3 → -9 ≤ σ.1 81 (3 * i + k) ∧ σ.1 81 (3 * i + k) ≤ 29 := fun i k i0 i1 k0 k1 => by rw [(hI1 i i0 (by omega)).1 k k0 k1]; exact f_head_in _ _
  refine k_enter (by decide +kernel) (Nat.le_of_ble_eq_true rfl) ?_
  show j_at _ _ _ [(0, .ref 68), (1, j_i e), (2, j_i i), (3, j_i w)] [] _ _ _ _
  refine a_aload_n (pc := 0) (i := 0) (by decide +kernel) rfl ?_
  refine a_iload_n (pc := 1) (i := 1) (by decide +kernel) rfl ?_
  refine b_callV (pc := 2) (c' := 0) (sl' := 0) [j_i e] [] ml_X12_389 (by decide +kernel) rfl rfl (sh_68 hn) rfl rfl (Nat.le_of_ble_eq_true rfl) (j_fitI rfl rfl) (s_disEntry hn hE (by omega)) (fun v n' σ' hq => ?_)
  obtain ⟨x, rfl, e1, e2, hx⟩ := hq
  rw [e1, e2]; clear e1 e2
  rcases hx with ⟨rfl, p2⟩ | ⟨rfl, p2⟩
  · show j_at _ _ _ [(0, .ref 68), (1, j_i e), (2, j_i i), (3, j_i w)] [j_i 1] _ _ _ _
    obtain ⟨y1, ⟨y2, y3, y4, y5⟩, ⟨y6, y7, y8, y9⟩, _⟩ := hI1 e (by omega) (by omega)
    have z1 := y6
    have z2 := y7
    have z3 := i_ls_in wia e
    refine a_if_eq (pc := 5) (off := 19) (tgt := 24) (by decide +kernel) (by decide) (by omega) (fun c5 => ?_) (fun c5 => ?_)
    · exact absurd c5 (by decide)
    · refine a_iload_n (pc := 8) (i := 2) (by decide +kernel) rfl ?_
      refine a_iconst (pc := 9) (n := 0) (by decide +kernel) ?_
      refine a_aload_n (pc := 10) (i := 0) (by decide +kernel) rfl ?_
      refine b_getR (pc := 11) (b := 84) fl_X12_60 (by decide +kernel) (sh_68 hn) rfl ?_
      refine a_iload_n (pc := 14) (i := 1) (by decide +kernel) rfl ?_
      refine b_iaload (pc := 15) (by decide +kernel) (sh_84 hn) (by omega) (by omega) (by omega) ?_
      refine a_iconst (pc := 16) (n := 1) (by decide +kernel) ?_
      refine a_isub (pc := 17) (by decide +kernel) ?_
      refine b_callS (pc := 18) (c' := 0) (sl' := 0) [j_i i, j_i 0, j_i ((σ.1 84 e) - 1)] [] ml_X12_128 (by decide +kernel) rfl rfl (Nat.le_of_ble_eq_true rfl) (j_fitI rfl rfl) (s_dwithin (by omega) (by omega) (by omega)) (fun v n' σ' hq => ?_)
      obtain ⟨x, rfl, e1, e2, hx⟩ := hq
      rw [e1, e2]; clear e1 e2
      rcases hx with ⟨rfl, p18⟩ | ⟨rfl, p18⟩
      · show j_at _ _ _ [(0, .ref 68), (1, j_i e), (2, j_i i), (3, j_i w)] [j_i 1] _ _ _ _
        refine a_if_ne (pc := 21) (off := 5) (tgt := 26) (by decide +kernel) (by decide) (by omega) (fun c21 => ?_) (fun c21 => ?_)
        · refine a_iload_n (pc := 26) (i := 3) (by decide +kernel) rfl ?_
          refine a_iconst (pc := 27) (n := 0) (by decide +kernel) ?_
          refine a_iconst (pc := 28) (n := 2) (by decide +kernel) ?_
          refine b_callS (pc := 29) (c' := 0) (sl' := 0) [j_i w, j_i 0, j_i 2] [] ml_X12_128 (by decide +kernel) rfl rfl (Nat.le_of_ble_eq_true rfl) (j_fitI rfl rfl) (s_dwithin (by omega) (by omega) (by omega)) (fun v n' σ' hq => ?_)
          obtain ⟨x, rfl, e1, e2, hx⟩ := hq
          rw [e1, e2]; clear e1 e2
          rcases hx with ⟨rfl, p29⟩ | ⟨rfl, p29⟩
          · show j_at _ _ _ [(0, .ref 68), (1, j_i e), (2, j_i i), (3, j_i w)] [j_i 1] _ _ _ _
            refine a_if_eq (pc := 32) (off := 23) (tgt := 55) (by decide +kernel) (by decide) (by omega) (fun c32 => ?_) (fun c32 => ?_)
            · exact absurd c32 (by decide)
            · refine a_aload_n (pc := 35) (i := 0) (by decide +kernel) rfl ?_
              refine b_getR (pc := 36) (b := 87) fl_X12_69 (by decide +kernel) (sh_68 hn) rfl ?_
              refine a_iconst (pc := 39) (n := 3) (by decide +kernel) ?_
              refine a_aload_n (pc := 40) (i := 0) (by decide +kernel) rfl ?_
              refine b_getR (pc := 41) (b := 85) fl_X12_63 (by decide +kernel) (sh_68 hn) rfl ?_
              refine a_iload_n (pc := 44) (i := 1) (by decide +kernel) rfl ?_
              refine b_iaload (pc := 45) (by decide +kernel) (sh_85 hn) (by omega) (by omega) (by omega) ?_
              refine a_iload_n (pc := 46) (i := 2) (by decide +kernel) rfl ?_
              refine a_iadd (pc := 47) (by decide +kernel) ?_
              refine a_imul (pc := 48) (by decide +kernel) ?_
              refine a_iload_n (pc := 49) (i := 3) (by decide +kernel) rfl ?_
              refine a_iadd (pc := 50) (by decide +kernel) ?_
              refine b_iaload (pc := 51) (by decide +kernel) (sh_87 hn) (by omega) (by omega) (by omega) ?_
              refine a_goto (pc := 52) (off := 5) (tgt := 57) (by decide +kernel) (by decide) ?_
              refine a_ireturn (pc := 57) (by decide +kernel) rfl ?_
              refine k_ret ?_
              have hr : (σ.1 87 ((3 * ((σ.1 85 e) + i)) + w) : Int) = r := by
                unfold se_P at hP
                rw [hix] at hP
                rcases hP with hP | hP | hP | hP
                · omega
                · omega
                · omega
                · rw [hP.2.2.2, show (i_ls σ ia e + i) * 3 + w = 3 * (i_ls σ ia e + i) + w by omega, ← hI6 _ (by omega) (by omega), z2]
              exact ⟨by rw [hr], hR⟩
          · show j_at _ _ _ [(0, .ref 68), (1, j_i e), (2, j_i i), (3, j_i w)] [j_i 0] _ _ _ _
            refine a_if_eq (pc := 32) (off := 23) (tgt := 55) (by decide +kernel) (by decide) (by omega) (fun c32 => ?_) (fun c32 => ?_)
            · refine a_bipush (pc := 55) (n := (-2)) (by decide +kernel) rfl ?_
              refine a_ireturn (pc := 57) (by decide +kernel) rfl ?_
              refine k_ret ?_
              have hr : ((-2) : Int) = r := by
                unfold se_P at hP
                rw [hix] at hP
                rcases hP with hP | hP | hP | hP <;> omega
              exact ⟨by rw [hr], hR⟩
            · exact absurd c32 (by decide)
        · exact absurd c21 (by decide)
      · show j_at _ _ _ [(0, .ref 68), (1, j_i e), (2, j_i i), (3, j_i w)] [j_i 0] _ _ _ _
        refine a_if_ne (pc := 21) (off := 5) (tgt := 26) (by decide +kernel) (by decide) (by omega) (fun c21 => ?_) (fun c21 => ?_)
        · exact absurd c21 (by decide)
        · refine a_iconst (pc := 24) (n := (-1)) (by decide +kernel) ?_
          refine a_ireturn (pc := 25) (by decide +kernel) rfl ?_
          refine k_ret ?_
          have hr : ((-1) : Int) = r := by
            unfold se_P at hP
            rw [hix] at hP
            rcases hP with hP | hP | hP | hP <;> omega
          exact ⟨by rw [hr], hR⟩
  · show j_at _ _ _ [(0, .ref 68), (1, j_i e), (2, j_i i), (3, j_i w)] [j_i 0] _ _ _ _
    refine a_if_eq (pc := 5) (off := 19) (tgt := 24) (by decide +kernel) (by decide) (by omega) (fun c5 => ?_) (fun c5 => ?_)
    · refine a_iconst (pc := 24) (n := (-1)) (by decide +kernel) ?_
      refine a_ireturn (pc := 25) (by decide +kernel) rfl ?_
      refine k_ret ?_
      have hr : ((-1) : Int) = r := by
        unfold se_P at hP
        rw [hix] at hP
        rcases hP with hP | hP | hP | hP <;> omega
      exact ⟨by rw [hr], hR⟩
    · exact absurd c5 (by decide)
set_option maxHeartbeats 4000000 in
theorem p_sees {G : j_G} {X : k_X} {n : Nat} {σ : k_St} (hR : RR n σ) {e : Int} (he : -2147483648 ≤ e ∧ e ≤ 2147483647) {i : Int} (hi : -2147483648 ≤ i ∧ i ≤ 2147483647) {w : Int} (hw : -2147483648 ≤ w ∧ w ≤ 2147483647)  : pr_ok G X mX11_sees mX12_sees [j_i e, j_i i, j_i w] n σ 0 0 := by
  refine ⟨_, c_sees hR he hi hw , fun v n' σ' hq => ?_⟩
  obtain ⟨r, hv, rfl, rfl, hP⟩ := hq
  exact ⟨RR_n hR, r, hv, d_sees hR he hi hw  hP⟩
def le_P (σ : k_St) (w r : Int) : Prop := (¬ (0 ≤ w ∧ w ≤ 2) ∧ r = -2) ∨ ((0 ≤ w ∧ w ≤ 2) ∧ r = f_count (i_lB σ (ix σ) w) (σ.2.1 (ix σ) 7).toNat)
set_option maxHeartbeats 4000000 in
theorem c_led {G : j_G} {X : k_X} {n : Nat} {σ : k_St} (hR : RR n σ) {w : Int} (hw : -2147483648 ≤ w ∧ w ≤ 2147483647)  : k_run G X mX11_led [.ref 5, j_i w] n σ 0 0 (fun v n' σ' => ∃ r : Int, v = some (j_i r) ∧ n' = n ∧ σ' = σ ∧ le_P σ w r) := by
  obtain ⟨hK, hAc, hNm, hPs, hPt, hSm, hIx⟩ := id hR
  have hn := RR_n hR
  have hk := hK.1
  have hwh : h_wf σ 8 := hk.2.1
  have hwm : m_wf σ 16 := hk.2.2
  have hW : 0 ≤ σ.2.1 6 1 ∧ σ.2.1 6 1 ≤ 300 := hk.1
  have hfl := hSm.1
  obtain ⟨ia, ib, hab, hia, hib, wia, wib, ria, rib, hrg, h01, hIR, hchg⟩ := id hIx
  have hA : i_at X n ia := by rcases hab with q | q; rw [q.1]; exact iA_48 hn; rw [q.1]; exact iA_58 hn
  have hix : ix σ = ia := by unfold ix; rw [hia]; rfl
  have hab5 : ia = 48 ∨ ia = 58 := by omega
  obtain ⟨hs99, hs0, hs1, hs2, hs3, hs4, hs5, hs6, hs7⟩ := id hA
  obtain ⟨hc9, hp9, hl9, ho9, hv9⟩ := id wia
  refine k_enter (by decide +kernel) (Nat.le_of_ble_eq_true rfl) ?_
  show j_at _ _ _ [(0, .ref 5), (1, j_i w)] [] _ _ _ _
  refine a_iload_n (pc := 0) (i := 1) (by decide +kernel) rfl ?_
  refine a_if_lt (pc := 1) (off := 8) (tgt := 9) (by decide +kernel) (by decide) (by omega) (fun c1 => ?_) (fun c1 => ?_)
  · refine a_bipush (pc := 9) (n := (-2)) (by decide +kernel) rfl ?_
    refine a_goto (pc := 11) (off := 11) (tgt := 22) (by decide +kernel) (by decide) ?_
    refine a_ireturn (pc := 22) (by decide +kernel) rfl ?_
    refine k_ret ?_
    refine ⟨_, rfl, rfl, rfl, ?_⟩
    unfold le_P
    rw [hix]
    first | exact Or.inl (by omega) | exact Or.inr (by omega)
  · refine a_iload_n (pc := 4) (i := 1) (by decide +kernel) rfl ?_
    refine a_iconst (pc := 5) (n := 2) (by decide +kernel) ?_
    refine a_icmp_le (pc := 6) (off := 8) (tgt := 14) (by decide +kernel) (by decide) (by omega) (by omega) (fun c6 => ?_) (fun c6 => ?_)
    · refine a_aload_n (pc := 14) (i := 0) (by decide +kernel) rfl ?_
      refine b_getM (pc := 15) (b := ia) fl_X11_68 (by decide +kernel) (sh_5 hn) rfl hia ?_
      refine a_iload_n (pc := 18) (i := 1) (by decide +kernel) rfl ?_
      refine b_pureV (pc := 19) [j_i w] [] ml_X11_336 (by decide +kernel) rfl rfl hs0 rfl rfl (Nat.le_of_ble_eq_true rfl) (j_fitI rfl rfl) (s_countLed hA wia (by omega)) ?_
      show j_at _ _ _ [(0, .ref 5), (1, j_i w)] [j_i (f_count (i_lB σ ia w) (σ.2.1 ia 7).toNat)] _ _ _ _
      refine a_ireturn (pc := 22) (by decide +kernel) rfl ?_
      refine k_ret ?_
      refine ⟨_, rfl, rfl, rfl, ?_⟩
      unfold le_P
      rw [hix]
      first | exact Or.inl (by omega) | exact Or.inr (by omega)
    · refine a_bipush (pc := 9) (n := (-2)) (by decide +kernel) rfl ?_
      refine a_goto (pc := 11) (off := 11) (tgt := 22) (by decide +kernel) (by decide) ?_
      refine a_ireturn (pc := 22) (by decide +kernel) rfl ?_
      refine k_ret ?_
      refine ⟨_, rfl, rfl, rfl, ?_⟩
      unfold le_P
      rw [hix]
      first | exact Or.inl (by omega) | exact Or.inr (by omega)
def d_lB (F : Int → Int) (w : Int) : Int → Bool := fun k => decide (F (3 * k + 2) = w)
set_option maxHeartbeats 4000000 in
theorem l_dled {G : j_G} {X : k_X} {n : Nat} {σ : k_St} (hn : 101 ≤ n) {w : Int} (hw : 0 ≤ w ∧ w ≤ 2) (h34 : 0 ≤ σ.2.1 68 34 ∧ σ.2.1 68 34 ≤ 50) (hr87 : ∀ k, 0 ≤ k → k < σ.2.1 68 34 → 0 ≤ σ.1 87 (3 * k + 2) ∧ σ.1 87 (3 * k + 2) ≤ 29)  : ∀ (m : Nat) (k s : Int), 50 - k < (m : Int) → 0 ≤ k → k ≤ σ.2.1 68 34 → s = f_count (d_lB (σ.1 87) w) k.toNat → j_at G mX12_led 16 [(0, .ref 68), (1, j_i w), (2, j_i s), (3, j_i k)] [] (k_h X n σ) 0 0 (k_Q X (k_is n σ (some (j_i (f_count (d_lB (σ.1 87) w) (σ.2.1 68 34).toNat))))) := by
  intro m
  induction m with
  | zero => intro k s h1 h2 h3; exact absurd h1 (by omega)
  | succ m ih =>
    intro k s hm h0 hN hs
    refine a_iload_n (pc := 16) (i := 3) (by decide +kernel) rfl ?_
    refine a_aload_n (pc := 17) (i := 0) (by decide +kernel) rfl ?_
    refine b_getI (pc := 18) fl_X12_343 (by decide +kernel) (sh_68 hn) rfl ?_
    refine a_icmp_ge (pc := 21) (off := 31) (tgt := 52) (by decide +kernel) (by decide) (by omega) (by omega) (fun c21 => ?_) (fun c21 => ?_)
    · refine a_iload_n (pc := 52) (i := 2) (by decide +kernel) rfl ?_
      refine a_ireturn (pc := 53) (by decide +kernel) rfl ?_
      refine k_ret ?_
      refine ⟨?_, rfl, rfl⟩
      rw [hs, show k = σ.2.1 68 34 by omega]
    · refine a_iload_n (pc := 24) (i := 2) (by decide +kernel) rfl ?_
      refine a_aload_n (pc := 25) (i := 0) (by decide +kernel) rfl ?_
      refine b_getR (pc := 26) (b := 87) fl_X12_69 (by decide +kernel) (sh_68 hn) rfl ?_
      refine a_iconst (pc := 29) (n := 3) (by decide +kernel) ?_
      refine a_iload_n (pc := 30) (i := 3) (by decide +kernel) rfl ?_
      refine a_imul (pc := 31) (by decide +kernel) ?_
      refine a_iconst (pc := 32) (n := 2) (by decide +kernel) ?_
      refine a_iadd (pc := 33) (by decide +kernel) ?_
      refine b_iaload (pc := 34) (by decide +kernel) (sh_87 hn) (by omega) (by omega) (by omega) ?_
      refine a_iload_n (pc := 35) (i := 1) (by decide +kernel) rfl ?_
      have q9 := hr87 k (by omega) (by omega)
      refine a_icmp_ne (pc := 36) (off := 7) (tgt := 43) (by decide +kernel) (by decide) (by omega) (by omega) (fun c36 => ?_) (fun c36 => ?_)
      · refine a_iconst (pc := 43) (n := 0) (by decide +kernel) ?_
        refine a_iadd (pc := 44) (by decide +kernel) ?_
        refine a_istore_n (pc := 45) (i := 2) (lv' := [(0, .ref 68), (1, j_i w), (2, j_i (s + 0)), (3, j_i k)]) (by decide +kernel) (Nat.le_of_ble_eq_true rfl) rfl ?_
        refine a_iinc (pc := 46) (i := 3) (n := 1) (x := k) (lv' := [(0, .ref 68), (1, j_i w), (2, j_i (s + 0)), (3, j_i (k + 1))]) (by decide +kernel) rfl (Nat.le_of_ble_eq_true rfl) rfl ?_
        refine a_goto (pc := 49) (off := -33) (tgt := 16) (by decide +kernel) (by decide) ?_
        refine ih (k + 1) (s + 0) (by omega) (by omega) (by omega) ?_
        rw [f_count_n (by omega) (by unfold d_lB; exact decide_eq_false c36)]; omega
      · refine a_iconst (pc := 39) (n := 1) (by decide +kernel) ?_
        refine a_goto (pc := 40) (off := 4) (tgt := 44) (by decide +kernel) (by decide) ?_
        refine a_iadd (pc := 44) (by decide +kernel) ?_
        refine a_istore_n (pc := 45) (i := 2) (lv' := [(0, .ref 68), (1, j_i w), (2, j_i (s + 1)), (3, j_i k)]) (by decide +kernel) (Nat.le_of_ble_eq_true rfl) rfl ?_
        refine a_iinc (pc := 46) (i := 3) (n := 1) (x := k) (lv' := [(0, .ref 68), (1, j_i w), (2, j_i (s + 1)), (3, j_i (k + 1))]) (by decide +kernel) rfl (Nat.le_of_ble_eq_true rfl) rfl ?_
        refine a_goto (pc := 49) (off := -33) (tgt := 16) (by decide +kernel) (by decide) ?_
        refine ih (k + 1) (s + 1) (by omega) (by omega) (by omega) ?_
        rw [f_count_y (by omega) (by unfold d_lB; exact decide_eq_true c36)]; omega
set_option maxHeartbeats 4000000 in
theorem d_led {G : j_G} {X : k_X} {n : Nat} {σ : k_St} (hR : RR n σ) {w : Int} (hw : -2147483648 ≤ w ∧ w ≤ 2147483647) {r : Int} (hP : le_P σ w r)  : k_run G X mX12_led [.ref 68, j_i w] n σ 0 0 (fun v2 n2 σ2 => v2 = some (j_i r) ∧ RR n2 σ2) := by
  obtain ⟨hK, hAc, hNm, hPs, hPt, hSm, hIx⟩ := id hR
  have hn := RR_n hR
  have hk := hK.1
  have hwh : h_wf σ 8 := hk.2.1
  have hwm : m_wf σ 16 := hk.2.2
  have hW : 0 ≤ σ.2.1 6 1 ∧ σ.2.1 6 1 ≤ 300 := hk.1
  have hfl := hSm.1
  have hg := hK.2.2.2
  obtain ⟨⟨hgW, hgE, hgM⟩, hgh, hgm⟩ := KR_rg hk hK.2.1
  have hW0 : σ.2.1 6 1 = σ.1 69 0 := hK.2.1.1.1
  have hE0 : σ.2.1 8 3 = σ.1 69 301 := hK.2.1.2.1.1
  have hM0 : σ.2.1 16 5 = σ.1 69 1382 := hK.2.1.2.2.1
  have hfl8 : σ.2.1 68 11 = σ.2.1 5 10 := hSm.2.1
  obtain ⟨ia, ib, hab, hia, hib, wia, wib, ria, rib, hrg, h01, hIR, hchg⟩ := id hIx
  have hA : i_at X n ia := by rcases hab with q | q; rw [q.1]; exact iA_48 hn; rw [q.1]; exact iA_58 hn
  have hix : ix σ = ia := by unfold ix; rw [hia]; rfl
  have hab5 : ia = 48 ∨ ia = 58 := by omega
  obtain ⟨hs99, hs0, hs1, hs2, hs3, hs4, hs5, hs6, hs7⟩ := id hA
  obtain ⟨hc9, hp9, hl9, ho9, hv9⟩ := id wia
  obtain ⟨hI0, hI1, hI2, hI3, hI4, hI5, hI6, hI7, hI8⟩ := id hIR
  have hE : 0 ≤ σ.2.1 68 25 ∧ σ.2.1 68 25 ≤ 200 := by omega
  have hpr : ∀ i k, 0 ≤ i → i < σ.2.1 68 25 → 0 ≤ k → k < 3 → -9 ≤ σ.1 81 (3 * i + k) ∧ σ.1 81 (3 * i + k) ≤ 29 := fun i k i0 i1 k0 k1 => by rw [(hI1 i i0 (by omega)).1 k k0 k1]; exact f_head_in _ _
  refine k_enter (by decide +kernel) (Nat.le_of_ble_eq_true rfl) ?_
  show j_at _ _ _ [(0, .ref 68), (1, j_i w)] [] _ _ _ _
  refine a_iload_n (pc := 0) (i := 1) (by decide +kernel) rfl ?_
  refine a_iconst (pc := 1) (n := 0) (by decide +kernel) ?_
  refine a_iconst (pc := 2) (n := 2) (by decide +kernel) ?_
  refine b_callS (pc := 3) (c' := 0) (sl' := 0) [j_i w, j_i 0, j_i 2] [] ml_X12_128 (by decide +kernel) rfl rfl (Nat.le_of_ble_eq_true rfl) (j_fitI rfl rfl) (s_dwithin (by omega) (by omega) (by omega)) (fun v n' σ' hq => ?_)
  obtain ⟨x, rfl, e1, e2, hx⟩ := hq
  rw [e1, e2]; clear e1 e2
  rcases hx with ⟨rfl, p3⟩ | ⟨rfl, p3⟩
  · show j_at _ _ _ [(0, .ref 68), (1, j_i w)] [j_i 1] _ _ _ _
    refine a_if_ne (pc := 6) (off := 6) (tgt := 12) (by decide +kernel) (by decide) (by omega) (fun c6 => ?_) (fun c6 => ?_)
    · refine a_iconst (pc := 12) (n := 0) (by decide +kernel) ?_
      refine a_istore_n (pc := 13) (i := 2) (lv' := [(0, .ref 68), (1, j_i w), (2, j_i 0)]) (by decide +kernel) (Nat.le_of_ble_eq_true rfl) rfl ?_
      refine a_iconst (pc := 14) (n := 0) (by decide +kernel) ?_
      refine a_istore_n (pc := 15) (i := 3) (lv' := [(0, .ref 68), (1, j_i w), (2, j_i 0), (3, j_i 0)]) (by decide +kernel) (Nat.le_of_ble_eq_true rfl) rfl ?_
      have h34 : 0 ≤ σ.2.1 68 34 ∧ σ.2.1 68 34 ≤ 50 := by omega
      refine k_mono (fun v n' σ' hq => ?_) (l_dled hn (by omega) h34 (fun k k0 k1 => by rw [hI6 _ (by omega) (by omega)]; exact (hv9 _).2.2.2.2.1) 51 0 0 (by omega) (by omega) (by omega) rfl)
      obtain ⟨q1, q2, q3⟩ := hq
      rw [q1, q2, q3]
      unfold le_P at hP
      rw [hix] at hP
      rcases hP with hP | hP
      · omega
      · refine ⟨?_, hR⟩
        rw [hP.2, ← hI5, f_count_congr (g := d_lB (σ.1 87) w) (g' := i_lB σ ia w) (fun i i0 i1 => by unfold d_lB i_lB; rw [hI6 _ (by omega) (by omega), show 3 * i + 2 = i * 3 + 2 by omega])]
    · exact absurd c6 (by decide)
  · show j_at _ _ _ [(0, .ref 68), (1, j_i w)] [j_i 0] _ _ _ _
    refine a_if_ne (pc := 6) (off := 6) (tgt := 12) (by decide +kernel) (by decide) (by omega) (fun c6 => ?_) (fun c6 => ?_)
    · exact absurd c6 (by decide)
    · refine a_bipush (pc := 9) (n := (-2)) (by decide +kernel) rfl ?_
      refine a_ireturn (pc := 11) (by decide +kernel) rfl ?_
      refine k_ret ?_
      have hr : ((-2) : Int) = r := by
        unfold le_P at hP
        rw [hix] at hP
        rcases hP with hP | hP <;> omega
      exact ⟨by rw [hr], hR⟩
set_option maxHeartbeats 4000000 in
theorem p_led {G : j_G} {X : k_X} {n : Nat} {σ : k_St} (hR : RR n σ) {w : Int} (hw : -2147483648 ≤ w ∧ w ≤ 2147483647)  : pr_ok G X mX11_led mX12_led [j_i w] n σ 0 0 := by
  refine ⟨_, c_led hR hw , fun v n' σ' hq => ?_⟩
  obtain ⟨r, hv, rfl, rfl, hP⟩ := hq
  exact ⟨RR_n hR, r, hv, d_led hR hw  hP⟩
