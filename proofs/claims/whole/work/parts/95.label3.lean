def lab_C (n : Nat) (σ : k_St) (g : Int) (A : Int → List Int → Prop) (r : Int) (n' : Nat) (σ' : k_St) : Prop := n' = n ∧ ((¬ (0 ≤ g ∧ g < f_page (σ.2.1 6 1) (σ.2.1 5 10) + 1) ∧ r = -1 ∧ σ' = σ) ∨ ((0 ≤ g ∧ g < f_page (σ.2.1 6 1) (σ.2.1 5 10) + 1) ∧ ∃ p, p_of σ g p ∧ A r (p_signs σ p g) ∧ σ' = e_puts 29 24 6 (k_sI σ 24 6 0) (p_signs σ p g)))
def lab_D (σ : k_St) (g : Int) (A : Int → List Int → Prop) (r : Int) : Prop := (¬ (0 ≤ g ∧ g < f_page (σ.2.1 6 1) (σ.2.1 5 10) + 1) ∧ r = -1) ∨ ((0 ≤ g ∧ g < f_page (σ.2.1 6 1) (σ.2.1 5 10) + 1) ∧ ∃ p, p_of σ g p ∧ A r (p_signs σ p g))
def lab_A (r : Int) (L : List Int) : Prop := r = (L.length : Int)
def lab_S (i r : Int) (L : List Int) : Prop := (¬ (0 ≤ i ∧ i < (L.length : Int)) ∧ r = -9) ∨ ((0 ≤ i ∧ i < (L.length : Int)) ∧ L[i.toNat]? = some r)
theorem lab_s {L : List Int} {i : Int} {F : Int → Int} (hL : ∀ (k : Nat) (x : Int), L[k]? = some x → F (k : Int) = x) (h0 : 0 ≤ i) (h1 : i < (L.length : Int)) : L[i.toNat]? = some (F i) := by
  have e : i.toNat < L.length := by omega
  have h := hL i.toNat _ (List.getElem?_eq_getElem e)
  rw [show ((i.toNat : Nat) : Int) = i by omega] at h
  rw [h]; exact List.getElem?_eq_getElem e
theorem e_puts_scr {σ : k_St} {L : List Int} : scr σ (e_puts 29 24 6 (k_sI σ 24 6 0) L) := ⟨fun c hc => by rw [e_puts_o (by omega)]; rfl, fun c j hc => by rw [e_puts_f (by omega), k_IN (by omega)], by rw [e_puts_r]; rfl⟩
theorem lab_scr {σ τ : k_St} (h : scr σ τ) {g p : Int} : (p_of τ g p ↔ p_of σ g p) ∧ p_signs τ p g = p_signs σ p g := by
  unfold p_of p_signs p_form p_num
  rw [h.1 25 (by omega), h.1 26 (by omega), h.1 27 (by omega), h.1 28 (by omega), h.2.1 24 4 (by omega)]
  exact ⟨Iff.rfl, rfl⟩
theorem lab_CD {n n' : Nat} {σ σ' : k_St} {g r : Int} {A : Int → List Int → Prop} (h : lab_C n σ g A r n' σ') : n' = n ∧ scr σ σ' ∧ lab_D σ' g A r := by
  obtain ⟨h0, ⟨h1, h2, h3⟩ | ⟨h1, p, h2, h3, h4⟩⟩ := h
  · subst h3; exact ⟨h0, scr_r, Or.inl ⟨h1, h2⟩⟩
  · have hs : scr σ σ' := by rw [h4]; exact e_puts_scr
    refine ⟨h0, hs, Or.inr ⟨?_, p, (lab_scr hs).1.mpr h2, by rw [(lab_scr hs).2]; exact h3⟩⟩
    rw [hs.2.1 6 1 (by omega), hs.2.1 5 10 (by omega)]; exact h1
set_option maxHeartbeats 4000000 in
theorem c_label {G : j_G} {X : k_X} {n : Nat} {σ : k_St} (hR : RR n σ) {g : Int} (hg : -2147483648 ≤ g ∧ g ≤ 2147483647)  : k_run G X mX11_label [.ref 5, j_i g] n σ 0 0 (fun v n' σ' => ∃ r : Int, v = some (j_i r) ∧ lab_C n σ g lab_A r n' σ') := by
  obtain ⟨hK, hAc, hNm, hPs, hPt, hSm, hIx⟩ := id hR
  have hn := RR_n hR
  have hk := hK.1
  have hwh : h_wf σ 8 := hk.2.1
  have hwm : m_wf σ 16 := hk.2.2
  have hW : 0 ≤ σ.2.1 6 1 ∧ σ.2.1 6 1 ≤ 300 := hk.1
  have hfl := hSm.1
  have qp := f_page_in (f := σ.2.1 5 10) hW
  refine k_enter (by decide +kernel) (Nat.le_of_ble_eq_true rfl) ?_
  show j_at _ _ _ [(0, .ref 5), (1, j_i g)] [] _ _ _ _
  refine a_aload_n (pc := 0) (i := 0) (by decide +kernel) rfl ?_
  refine a_iload_n (pc := 1) (i := 1) (by decide +kernel) rfl ?_
  refine b_callV (pc := 2) (c' := 0) (sl' := 0) [j_i g] [] ml_X11_138 (by decide +kernel) rfl rfl (sh_5 hn) rfl rfl (Nat.le_of_ble_eq_true rfl) (j_fitI rfl rfl) (c_hasPage hR (by omega)) (fun v n' σ' hq => ?_)
  obtain ⟨x, rfl, e1, e2, hx⟩ := hq
  rw [e1, e2]; clear e1 e2
  rcases hx with ⟨rfl, p2⟩ | ⟨rfl, p2⟩
  · show j_at _ _ _ [(0, .ref 5), (1, j_i g)] [j_i 1] _ _ _ _
    refine a_if_eq (pc := 5) (off := 14) (tgt := 19) (by decide +kernel) (by decide) (by omega) (fun c5 => ?_) (fun c5 => ?_)
    · exact absurd c5 (by decide)
    · refine a_aload_n (pc := 8) (i := 0) (by decide +kernel) rfl ?_
      refine b_getR (pc := 9) (b := 24) fl_X11_36 (by decide +kernel) (sh_5 hn) rfl ?_
      refine a_iload_n (pc := 12) (i := 1) (by decide +kernel) rfl ?_
      refine b_callV (pc := 13) (c' := 0) (sl' := 0) [j_i g] [] ml_X11_141 (by decide +kernel) rfl rfl (sh_24 hn) rfl rfl (Nat.le_of_ble_eq_true rfl) (j_fitI rfl rfl) (s_write hn (RT_wf hPt) (by omega)) (fun v n' σ' hq => ?_)
      obtain ⟨p, q1, rfl, rfl, e2⟩ := hq
      obtain ⟨σ1, hσ1⟩ : ∃ z, z = e_puts 29 24 6 (k_sI σ 24 6 0) (p_signs σ p g) := ⟨_, rfl⟩
      rw [e2, ← hσ1]; clear e2
      have hl9 := p_signs_len (RT_wf hPt) q1 (by omega)
      show j_at _ _ _ [(0, .ref 5), (1, j_i g)] [j_i ((p_signs σ p g).length : Int)] _ _ _ _
      refine a_goto (pc := 16) (off := 4) (tgt := 20) (by decide +kernel) (by decide) ?_
      refine a_ireturn (pc := 20) (by decide +kernel) rfl ?_
      refine k_ret ?_
      exact ⟨_, rfl, rfl, Or.inr ⟨p2, p, q1, rfl, hσ1⟩⟩
  · show j_at _ _ _ [(0, .ref 5), (1, j_i g)] [j_i 0] _ _ _ _
    refine a_if_eq (pc := 5) (off := 14) (tgt := 19) (by decide +kernel) (by decide) (by omega) (fun c5 => ?_) (fun c5 => ?_)
    · refine a_iconst (pc := 19) (n := (-1)) (by decide +kernel) ?_
      refine a_ireturn (pc := 20) (by decide +kernel) rfl ?_
      refine k_ret ?_
      exact ⟨_, rfl, rfl, Or.inl ⟨p2, rfl, rfl⟩⟩
    · exact absurd c5 (by decide)
set_option maxHeartbeats 4000000 in
theorem c_labelSign {G : j_G} {X : k_X} {n : Nat} {σ : k_St} (hR : RR n σ) {g : Int} (hg : -2147483648 ≤ g ∧ g ≤ 2147483647) {i : Int} (hi : -2147483648 ≤ i ∧ i ≤ 2147483647)  : k_run G X mX11_labelSign [.ref 5, j_i g, j_i i] n σ 0 0 (fun v n' σ' => ∃ r : Int, v = some (j_i r) ∧ lab_C n σ g (lab_S i) r n' σ') := by
  obtain ⟨hK, hAc, hNm, hPs, hPt, hSm, hIx⟩ := id hR
  have hn := RR_n hR
  have hk := hK.1
  have hwh : h_wf σ 8 := hk.2.1
  have hwm : m_wf σ 16 := hk.2.2
  have hW : 0 ≤ σ.2.1 6 1 ∧ σ.2.1 6 1 ≤ 300 := hk.1
  have hfl := hSm.1
  have qp := f_page_in (f := σ.2.1 5 10) hW
  refine k_enter (by decide +kernel) (Nat.le_of_ble_eq_true rfl) ?_
  show j_at _ _ _ [(0, .ref 5), (1, j_i g), (2, j_i i)] [] _ _ _ _
  refine a_aload_n (pc := 0) (i := 0) (by decide +kernel) rfl ?_
  refine a_iload_n (pc := 1) (i := 1) (by decide +kernel) rfl ?_
  refine b_callV (pc := 2) (c' := 0) (sl' := 0) [j_i g] [] ml_X11_138 (by decide +kernel) rfl rfl (sh_5 hn) rfl rfl (Nat.le_of_ble_eq_true rfl) (j_fitI rfl rfl) (c_hasPage hR (by omega)) (fun v n' σ' hq => ?_)
  obtain ⟨x, rfl, e1, e2, hx⟩ := hq
  rw [e1, e2]; clear e1 e2
  rcases hx with ⟨rfl, p2⟩ | ⟨rfl, p2⟩
  · show j_at _ _ _ [(0, .ref 5), (1, j_i g), (2, j_i i)] [j_i 1] _ _ _ _
    refine a_if_ne (pc := 5) (off := 5) (tgt := 10) (by decide +kernel) (by decide) (by omega) (fun c5 => ?_) (fun c5 => ?_)
    · refine a_aload_n (pc := 10) (i := 0) (by decide +kernel) rfl ?_
      refine b_getR (pc := 11) (b := 24) fl_X11_36 (by decide +kernel) (sh_5 hn) rfl ?_
      refine a_iload_n (pc := 14) (i := 1) (by decide +kernel) rfl ?_
      refine b_callV (pc := 15) (c' := 0) (sl' := 0) [j_i g] [] ml_X11_141 (by decide +kernel) rfl rfl (sh_24 hn) rfl rfl (Nat.le_of_ble_eq_true rfl) (j_fitI rfl rfl) (s_write hn (RT_wf hPt) (by omega)) (fun v n' σ' hq => ?_)
      obtain ⟨p, q1, rfl, rfl, e2⟩ := hq
      obtain ⟨σ1, hσ1⟩ : ∃ z, z = e_puts 29 24 6 (k_sI σ 24 6 0) (p_signs σ p g) := ⟨_, rfl⟩
      rw [e2, ← hσ1]; clear e2
      have hl9 := p_signs_len (RT_wf hPt) q1 (by omega)
      show j_at _ _ _ [(0, .ref 5), (1, j_i g), (2, j_i i)] [j_i ((p_signs σ p g).length : Int)] _ _ _ _
      refine a_istore_n (pc := 18) (i := 3) (lv' := [(0, .ref 5), (1, j_i g), (2, j_i i), (3, j_i ((p_signs σ p g).length : Int))]) (by decide +kernel) (Nat.le_of_ble_eq_true rfl) rfl ?_
      refine a_iload_n (pc := 19) (i := 2) (by decide +kernel) rfl ?_
      refine a_if_lt (pc := 20) (off := 20) (tgt := 40) (by decide +kernel) (by decide) (by omega) (fun c20 => ?_) (fun c20 => ?_)
      · refine a_bipush (pc := 40) (n := (-9)) (by decide +kernel) rfl ?_
        refine a_ireturn (pc := 42) (by decide +kernel) rfl ?_
        refine k_ret ?_
        exact ⟨_, rfl, rfl, Or.inr ⟨p2, p, q1, Or.inl ⟨by omega, rfl⟩, hσ1⟩⟩
      · refine a_iload_n (pc := 23) (i := 2) (by decide +kernel) rfl ?_
        refine a_iload_n (pc := 24) (i := 3) (by decide +kernel) rfl ?_
        refine a_icmp_ge (pc := 25) (off := 15) (tgt := 40) (by decide +kernel) (by decide) (by omega) (by omega) (fun c25 => ?_) (fun c25 => ?_)
        · refine a_bipush (pc := 40) (n := (-9)) (by decide +kernel) rfl ?_
          refine a_ireturn (pc := 42) (by decide +kernel) rfl ?_
          refine k_ret ?_
          exact ⟨_, rfl, rfl, Or.inr ⟨p2, p, q1, Or.inl ⟨by omega, rfl⟩, hσ1⟩⟩
        · refine a_aload_n (pc := 28) (i := 0) (by decide +kernel) rfl ?_
          refine b_getR (pc := 29) (b := 24) fl_X11_36 (by decide +kernel) (sh_5 hn) rfl ?_
          refine b_getR (pc := 32) (b := 29) fl_X11_144 (by decide +kernel) (sh_24 hn) rfl ?_
          refine a_iload_n (pc := 35) (i := 2) (by decide +kernel) rfl ?_
          refine b_iaload (pc := 36) (by decide +kernel) (sh_29 hn) (by omega) (by omega) (by omega) ?_
          refine a_goto (pc := 37) (off := 5) (tgt := 42) (by decide +kernel) (by decide) ?_
          refine a_ireturn (pc := 42) (by decide +kernel) rfl ?_
          refine k_ret ?_
          refine ⟨_, rfl, rfl, Or.inr ⟨p2, p, q1, Or.inr ⟨by omega, lab_s (fun k x hk => ?_) (by omega) (by omega)⟩, hσ1⟩⟩
          have := e_puts_at (a := 29) (o := 24) (j := 6) (σ := k_sI σ 24 6 0) hk
          rw [k_II, show (0 : Int) + (k : Int) = (k : Int) by omega] at this
          rw [hσ1]; exact this
    · exact absurd c5 (by decide)
  · show j_at _ _ _ [(0, .ref 5), (1, j_i g), (2, j_i i)] [j_i 0] _ _ _ _
    refine a_if_ne (pc := 5) (off := 5) (tgt := 10) (by decide +kernel) (by decide) (by omega) (fun c5 => ?_) (fun c5 => ?_)
    · exact absurd c5 (by decide)
    · refine a_iconst (pc := 8) (n := (-1)) (by decide +kernel) ?_
      refine a_ireturn (pc := 9) (by decide +kernel) rfl ?_
      refine k_ret ?_
      exact ⟨_, rfl, rfl, Or.inl ⟨p2, rfl, rfl⟩⟩
set_option maxHeartbeats 4000000 in
theorem d_label {G : j_G} {X : k_X} {n : Nat} {σ : k_St} (hR : RR n σ) {g : Int} (hg : -2147483648 ≤ g ∧ g ≤ 2147483647) {r : Int} (hP : lab_D σ g lab_A r)  : k_run G X mX12_label [.ref 68, j_i g] n σ 0 0 (fun v2 n2 σ2 => v2 = some (j_i r) ∧ RR n2 σ2) := by
  obtain ⟨hK, hAc, hNm, hPs, hPt, hSm, hIx⟩ := id hR
  have hn := RR_n hR
  have hk := hK.1
  have hwh : h_wf σ 8 := hk.2.1
  have hwm : m_wf σ 16 := hk.2.2
  have hW : 0 ≤ σ.2.1 6 1 ∧ σ.2.1 6 1 ≤ 300 := hk.1
  have hfl := hSm.1
  have hg := hK.2.2.2
  obtain ⟨⟨hgW, hgE, hgM⟩, hgh, hgm⟩ := KR_rg hk hK.2.1
  have hW0 : σ.2.1 6 1 = σ.1 69 0 := hK.2.1.1.1
  have hE0 : σ.2.1 8 3 = σ.1 69 301 := hK.2.1.2.1.1
  have hM0 : σ.2.1 16 5 = σ.1 69 1382 := hK.2.1.2.2.1
  have hfl8 : σ.2.1 68 11 = σ.2.1 5 10 := hSm.2.1
  have hT : RPart σ := hPt
  have e3 : f_page (σ.2.1 6 1) (σ.2.1 5 10) = f_page (σ.1 69 0) (σ.2.1 68 11) := by rw [hW0, hfl8]
  have hfl : 1 ≤ σ.2.1 68 11 ∧ σ.2.1 68 11 ≤ 50 := by rw [hfl8]; exact hSm.1
  have hW : 0 ≤ σ.1 69 0 ∧ σ.1 69 0 ≤ 300 := hgW
  have qp := f_page_in (f := σ.2.1 68 11) hgW
  unfold lab_D at hP
  rw [e3] at hP
  refine k_enter (by decide +kernel) (Nat.le_of_ble_eq_true rfl) ?_
  show j_at _ _ _ [(0, .ref 68), (1, j_i g)] [] _ _ _ _
  refine a_iload_n (pc := 0) (i := 1) (by decide +kernel) rfl ?_
  refine a_iconst (pc := 1) (n := 0) (by decide +kernel) ?_
  refine a_aload_n (pc := 2) (i := 0) (by decide +kernel) rfl ?_
  refine b_pureV (pc := 3) [] [j_i 0, j_i g] ml_X12_174 (by decide +kernel) rfl rfl (sh_68 hn) rfl rfl (Nat.le_of_ble_eq_true rfl) (j_fitI rfl rfl) (s_dpages hn hW hfl) ?_
  show j_at _ _ _ [(0, .ref 68), (1, j_i g)] [j_i (f_page (σ.1 69 0) (σ.2.1 68 11) + 1), j_i 0, j_i g] _ _ _ _
  refine a_iconst (pc := 6) (n := 1) (by decide +kernel) ?_
  refine a_isub (pc := 7) (by decide +kernel) ?_
  refine b_callS (pc := 8) (c' := 0) (sl' := 0) [j_i g, j_i 0, j_i ((f_page (σ.1 69 0) (σ.2.1 68 11) + 1) - 1)] [] ml_X12_128 (by decide +kernel) rfl rfl (Nat.le_of_ble_eq_true rfl) (j_fitI rfl rfl) (s_dwithin (by omega) (by omega) (by omega)) (fun v n' σ' hq => ?_)
  obtain ⟨x, rfl, e1, e2, hx⟩ := hq
  rw [e1, e2]; clear e1 e2
  rcases hx with ⟨rfl, p8⟩ | ⟨rfl, p8⟩
  · show j_at _ _ _ [(0, .ref 68), (1, j_i g)] [j_i 1] _ _ _ _
    refine a_if_ne (pc := 11) (off := 5) (tgt := 16) (by decide +kernel) (by decide) (by omega) (fun c11 => ?_) (fun c11 => ?_)
    · obtain ⟨_, p, q1, hA⟩ : (0 ≤ g ∧ g < f_page (σ.1 69 0) (σ.2.1 68 11) + 1) ∧ ∃ p, p_of σ g p ∧ lab_A r (p_signs σ p g) := by
        rcases hP with ⟨w, _⟩ | w
        · exact absurd p8 (by omega)
        · exact w
      have hl9 := p_signs_len (RT_wf hPt) q1 (by omega)
      refine a_aload_n (pc := 16) (i := 0) (by decide +kernel) rfl ?_
      refine a_iload_n (pc := 17) (i := 1) (by decide +kernel) rfl ?_
      refine b_callV (pc := 18) (c' := 0) (sl' := 0) [j_i g] [] ml_X12_177 (by decide +kernel) rfl rfl (sh_68 hn) rfl rfl (Nat.le_of_ble_eq_true rfl) (j_fitI rfl rfl) (e_makeLabel hn hT (by omega) q1) (fun v n' σ' hq => ?_)
      obtain ⟨rfl, rfl, hl⟩ := hq
      obtain ⟨σ2, hσ2⟩ : ∃ z, z = σ' := ⟨_, rfl⟩
      rw [← hσ2] at hl ⊢
      clear hσ2
      show j_at _ _ _ [(0, .ref 68), (1, j_i g)] [] _ _ _ _
      refine a_aload_n (pc := 21) (i := 0) (by decide +kernel) rfl ?_
      refine b_getI (pc := 22) fl_X12_148 (by decide +kernel) (sh_68 hn) rfl ?_
      rw [show σ2.2.1 68 20 = ((p_signs σ p g).length : Int) from hl.2.2.2.1]
      refine a_ireturn (pc := 25) (by decide +kernel) rfl ?_
      refine k_ret ?_
      exact ⟨by rw [show r = _ from hA], RR_scr (lb_scr hl) hR⟩
    · exact absurd c11 (by decide)
  · show j_at _ _ _ [(0, .ref 68), (1, j_i g)] [j_i 0] _ _ _ _
    refine a_if_ne (pc := 11) (off := 5) (tgt := 16) (by decide +kernel) (by decide) (by omega) (fun c11 => ?_) (fun c11 => ?_)
    · exact absurd c11 (by decide)
    · refine a_iconst (pc := 14) (n := (-1)) (by decide +kernel) ?_
      refine a_ireturn (pc := 15) (by decide +kernel) rfl ?_
      refine k_ret ?_
      rcases hP with ⟨w1, w2⟩ | ⟨w1, _⟩
      · rw [w2]; exact ⟨rfl, hR⟩
      · exact absurd w1 (by omega)
set_option maxHeartbeats 4000000 in
theorem d_labelSign {G : j_G} {X : k_X} {n : Nat} {σ : k_St} (hR : RR n σ) {g : Int} (hg : -2147483648 ≤ g ∧ g ≤ 2147483647) {i : Int} (hi : -2147483648 ≤ i ∧ i ≤ 2147483647) {r : Int} (hP : lab_D σ g (lab_S i) r)  : k_run G X mX12_labelSign [.ref 68, j_i g, j_i i] n σ 0 0 (fun v2 n2 σ2 => v2 = some (j_i r) ∧ RR n2 σ2) := by
  obtain ⟨hK, hAc, hNm, hPs, hPt, hSm, hIx⟩ := id hR
  have hn := RR_n hR
  have hk := hK.1
  have hwh : h_wf σ 8 := hk.2.1
  have hwm : m_wf σ 16 := hk.2.2
  have hW : 0 ≤ σ.2.1 6 1 ∧ σ.2.1 6 1 ≤ 300 := hk.1
  have hfl := hSm.1
  have hg := hK.2.2.2
  obtain ⟨⟨hgW, hgE, hgM⟩, hgh, hgm⟩ := KR_rg hk hK.2.1
  have hW0 : σ.2.1 6 1 = σ.1 69 0 := hK.2.1.1.1
  have hE0 : σ.2.1 8 3 = σ.1 69 301 := hK.2.1.2.1.1
  have hM0 : σ.2.1 16 5 = σ.1 69 1382 := hK.2.1.2.2.1
  have hfl8 : σ.2.1 68 11 = σ.2.1 5 10 := hSm.2.1
  have hT : RPart σ := hPt
  have e3 : f_page (σ.2.1 6 1) (σ.2.1 5 10) = f_page (σ.1 69 0) (σ.2.1 68 11) := by rw [hW0, hfl8]
  have hfl : 1 ≤ σ.2.1 68 11 ∧ σ.2.1 68 11 ≤ 50 := by rw [hfl8]; exact hSm.1
  have hW : 0 ≤ σ.1 69 0 ∧ σ.1 69 0 ≤ 300 := hgW
  have qp := f_page_in (f := σ.2.1 68 11) hgW
  unfold lab_D at hP
  rw [e3] at hP
  refine k_enter (by decide +kernel) (Nat.le_of_ble_eq_true rfl) ?_
  show j_at _ _ _ [(0, .ref 68), (1, j_i g), (2, j_i i)] [] _ _ _ _
  refine a_iload_n (pc := 0) (i := 1) (by decide +kernel) rfl ?_
  refine a_iconst (pc := 1) (n := 0) (by decide +kernel) ?_
  refine a_aload_n (pc := 2) (i := 0) (by decide +kernel) rfl ?_
  refine b_pureV (pc := 3) [] [j_i 0, j_i g] ml_X12_174 (by decide +kernel) rfl rfl (sh_68 hn) rfl rfl (Nat.le_of_ble_eq_true rfl) (j_fitI rfl rfl) (s_dpages hn hW hfl) ?_
  show j_at _ _ _ [(0, .ref 68), (1, j_i g), (2, j_i i)] [j_i (f_page (σ.1 69 0) (σ.2.1 68 11) + 1), j_i 0, j_i g] _ _ _ _
  refine a_iconst (pc := 6) (n := 1) (by decide +kernel) ?_
  refine a_isub (pc := 7) (by decide +kernel) ?_
  refine b_callS (pc := 8) (c' := 0) (sl' := 0) [j_i g, j_i 0, j_i ((f_page (σ.1 69 0) (σ.2.1 68 11) + 1) - 1)] [] ml_X12_128 (by decide +kernel) rfl rfl (Nat.le_of_ble_eq_true rfl) (j_fitI rfl rfl) (s_dwithin (by omega) (by omega) (by omega)) (fun v n' σ' hq => ?_)
  obtain ⟨x, rfl, e1, e2, hx⟩ := hq
  rw [e1, e2]; clear e1 e2
  rcases hx with ⟨rfl, p8⟩ | ⟨rfl, p8⟩
  · show j_at _ _ _ [(0, .ref 68), (1, j_i g), (2, j_i i)] [j_i 1] _ _ _ _
    refine a_if_ne (pc := 11) (off := 5) (tgt := 16) (by decide +kernel) (by decide) (by omega) (fun c11 => ?_) (fun c11 => ?_)
    · obtain ⟨_, p, q1, hA⟩ : (0 ≤ g ∧ g < f_page (σ.1 69 0) (σ.2.1 68 11) + 1) ∧ ∃ p, p_of σ g p ∧ lab_S i r (p_signs σ p g) := by
        rcases hP with ⟨w, _⟩ | w
        · exact absurd p8 (by omega)
        · exact w
      have hl9 := p_signs_len (RT_wf hPt) q1 (by omega)
      refine a_aload_n (pc := 16) (i := 0) (by decide +kernel) rfl ?_
      refine a_iload_n (pc := 17) (i := 1) (by decide +kernel) rfl ?_
      refine b_callV (pc := 18) (c' := 0) (sl' := 0) [j_i g] [] ml_X12_177 (by decide +kernel) rfl rfl (sh_68 hn) rfl rfl (Nat.le_of_ble_eq_true rfl) (j_fitI rfl rfl) (e_makeLabel hn hT (by omega) q1) (fun v n' σ' hq => ?_)
      obtain ⟨rfl, rfl, hl⟩ := hq
      obtain ⟨σ2, hσ2⟩ : ∃ z, z = σ' := ⟨_, rfl⟩
      rw [← hσ2] at hl ⊢
      clear hσ2
      show j_at _ _ _ [(0, .ref 68), (1, j_i g), (2, j_i i)] [] _ _ _ _
      refine a_iload_n (pc := 21) (i := 2) (by decide +kernel) rfl ?_
      refine a_iconst (pc := 22) (n := 0) (by decide +kernel) ?_
      refine a_aload_n (pc := 23) (i := 0) (by decide +kernel) rfl ?_
      refine b_getI (pc := 24) fl_X12_148 (by decide +kernel) (sh_68 hn) rfl ?_
      rw [show σ2.2.1 68 20 = ((p_signs σ p g).length : Int) from hl.2.2.2.1]
      refine a_iconst (pc := 27) (n := 1) (by decide +kernel) ?_
      refine a_isub (pc := 28) (by decide +kernel) ?_
      refine b_callS (pc := 29) (c' := 0) (sl' := 0) [j_i i, j_i 0, j_i (((p_signs σ p g).length : Int) - 1)] [] ml_X12_128 (by decide +kernel) rfl rfl (Nat.le_of_ble_eq_true rfl) (j_fitI rfl rfl) (s_dwithin (by omega) (by omega) (by omega)) (fun v n' σ' hq => ?_)
      obtain ⟨x, rfl, e1, e2, hx⟩ := hq
      rw [e1, e2]; clear e1 e2
      rcases hx with ⟨rfl, p29⟩ | ⟨rfl, p29⟩
      · show j_at _ _ _ [(0, .ref 68), (1, j_i g), (2, j_i i)] [j_i 1] _ _ _ _
        refine a_if_eq (pc := 32) (off := 12) (tgt := 44) (by decide +kernel) (by decide) (by omega) (fun c32 => ?_) (fun c32 => ?_)
        · exact absurd c32 (by decide)
        · refine a_aload_n (pc := 35) (i := 0) (by decide +kernel) rfl ?_
          refine b_getR (pc := 36) (b := 80) fl_X12_48 (by decide +kernel) (sh_68 hn) rfl ?_
          refine a_iload_n (pc := 39) (i := 2) (by decide +kernel) rfl ?_
          refine b_iaload (pc := 40) (by decide +kernel) (sh_80 hn) (by omega) (by omega) (by omega) ?_
          refine a_goto (pc := 41) (off := 5) (tgt := 46) (by decide +kernel) (by decide) ?_
          refine a_ireturn (pc := 46) (by decide +kernel) rfl ?_
          refine k_ret ?_
          rcases hA with ⟨w1, _⟩ | ⟨w1, w2⟩
          · exact absurd w1 (by omega)
          · rw [lab_s hl.2.2.2.2 (by omega) (by omega)] at w2
            exact ⟨by rw [Option.some.inj w2], RR_scr (lb_scr hl) hR⟩
      · show j_at _ _ _ [(0, .ref 68), (1, j_i g), (2, j_i i)] [j_i 0] _ _ _ _
        refine a_if_eq (pc := 32) (off := 12) (tgt := 44) (by decide +kernel) (by decide) (by omega) (fun c32 => ?_) (fun c32 => ?_)
        · refine a_bipush (pc := 44) (n := (-9)) (by decide +kernel) rfl ?_
          refine a_ireturn (pc := 46) (by decide +kernel) rfl ?_
          refine k_ret ?_
          rcases hA with ⟨w1, w2⟩ | ⟨w1, _⟩
          · rw [w2]; exact ⟨rfl, RR_scr (lb_scr hl) hR⟩
          · exact absurd w1 (by omega)
        · exact absurd c32 (by decide)
    · exact absurd c11 (by decide)
  · show j_at _ _ _ [(0, .ref 68), (1, j_i g), (2, j_i i)] [j_i 0] _ _ _ _
    refine a_if_ne (pc := 11) (off := 5) (tgt := 16) (by decide +kernel) (by decide) (by omega) (fun c11 => ?_) (fun c11 => ?_)
    · exact absurd c11 (by decide)
    · refine a_iconst (pc := 14) (n := (-1)) (by decide +kernel) ?_
      refine a_ireturn (pc := 15) (by decide +kernel) rfl ?_
      refine k_ret ?_
      rcases hP with ⟨w1, w2⟩ | ⟨w1, _⟩
      · rw [w2]; exact ⟨rfl, hR⟩
      · exact absurd w1 (by omega)
set_option maxHeartbeats 4000000 in
theorem p_label {G : j_G} {X : k_X} {n : Nat} {σ : k_St} (hR : RR n σ) {g : Int} (hg : -2147483648 ≤ g ∧ g ≤ 2147483647)  : pr_ok G X mX11_label mX12_label [j_i g] n σ 0 0 := by
  refine ⟨_, c_label hR hg, fun v n' σ' hq => ?_⟩
  obtain ⟨r, hv, hC⟩ := hq
  obtain ⟨rfl, hs, hD⟩ := lab_CD hC
  exact ⟨RR_n hR, r, hv, d_label (RR_scr hs hR) hg hD⟩
set_option maxHeartbeats 4000000 in
theorem p_labelSign {G : j_G} {X : k_X} {n : Nat} {σ : k_St} (hR : RR n σ) {g : Int} (hg : -2147483648 ≤ g ∧ g ≤ 2147483647) {i : Int} (hi : -2147483648 ≤ i ∧ i ≤ 2147483647)  : pr_ok G X mX11_labelSign mX12_labelSign [j_i g, j_i i] n σ 0 0 := by
  refine ⟨_, c_labelSign hR hg hi, fun v n' σ' hq => ?_⟩
  obtain ⟨r, hv, hC⟩ := hq
  obtain ⟨rfl, hs, hD⟩ := lab_CD hC
  exact ⟨RR_n hR, r, hv, d_labelSign (RR_scr hs hR) hg hi hD⟩
def labd_P (σ : k_St) (f x l r : Int) : Prop := (¬ (0 ≤ f ∧ f ≤ 2) ∧ r = -2) ∨ ((0 ≤ f ∧ f ≤ 2) ∧ ((r = -9 ∧ ∀ g, 0 ≤ g → g < f_page (σ.2.1 6 1) (σ.2.1 5 10) + 1 → ¬ p_lab σ g f x l) ∨ (0 ≤ r ∧ r < f_page (σ.2.1 6 1) (σ.2.1 5 10) + 1 ∧ p_lab σ r f x l ∧ ∀ g, 0 ≤ g → g < r → ¬ p_lab σ g f x l)))
set_option maxHeartbeats 4000000 in
theorem l_labelled {G : j_G} {X : k_X} {n : Nat} {σ : k_St} (hR : RR n σ) {f : Int} (hf : -2147483648 ≤ f ∧ f ≤ 2147483647) {x : Int} (hx : -2147483648 ≤ x ∧ x ≤ 2147483647) {l : Int} (hl : -2147483648 ≤ l ∧ l ≤ 2147483647) (hok : 0 ≤ f ∧ f ≤ 2)  : ∀ (z : Nat) (g : Int), f_page (σ.2.1 6 1) (σ.2.1 5 10) + 1 - g < (z : Int) → 0 ≤ g → g ≤ f_page (σ.2.1 6 1) (σ.2.1 5 10) + 1 → (∀ q, 0 ≤ q → q < g → ¬ p_lab σ q f x l) → j_at G mX11_labelled 19 [(0, .ref 5), (1, j_i f), (2, j_i x), (3, j_i l), (4, j_i (f_page (σ.2.1 6 1) (σ.2.1 5 10) + 1)), (5, j_i g)] [] (k_h X n σ) 0 0 (k_Q X (fun v n' σ' => ∃ r : Int, v = some (j_i r) ∧ n' = n ∧ σ' = σ ∧ labd_P σ f x l r)) := by
  obtain ⟨hK, hAc, hNm, hPs, hPt, hSm, hIx⟩ := id hR
  have hn := RR_n hR
  have hk := hK.1
  have hwh : h_wf σ 8 := hk.2.1
  have hwm : m_wf σ 16 := hk.2.2
  have hW : 0 ≤ σ.2.1 6 1 ∧ σ.2.1 6 1 ≤ 300 := hk.1
  have hfl := hSm.1
  have qp := f_page_in (f := σ.2.1 5 10) hW
  intro z
  induction z with
  | zero => intro g h1 h2 h3; exact absurd h1 (by omega)
  | succ z ih =>
    intro g hz h0 hN hI
    refine a_iload (pc := 19) (i := 5) (by decide +kernel) rfl ?_
    refine a_iload (pc := 21) (i := 4) (by decide +kernel) rfl ?_
    refine a_icmp_ge (pc := 23) (off := 27) (tgt := 50) (by decide +kernel) (by decide) (by omega) (by omega) (fun c23 => ?_) (fun c23 => ?_)
    · refine a_bipush (pc := 50) (n := (-9)) (by decide +kernel) rfl ?_
      refine a_ireturn (pc := 52) (by decide +kernel) rfl ?_
      refine k_ret ?_
      exact ⟨_, rfl, rfl, rfl, Or.inr ⟨hok, Or.inl ⟨rfl, fun q q0 q1 => hI q q0 (by omega)⟩⟩⟩
    · refine a_aload_n (pc := 26) (i := 0) (by decide +kernel) rfl ?_
      refine b_getR (pc := 27) (b := 24) fl_X11_36 (by decide +kernel) (sh_5 hn) rfl ?_
      refine a_iload (pc := 30) (i := 5) (by decide +kernel) rfl ?_
      refine a_iload_n (pc := 32) (i := 1) (by decide +kernel) rfl ?_
      refine a_iload_n (pc := 33) (i := 2) (by decide +kernel) rfl ?_
      refine a_iload_n (pc := 34) (i := 3) (by decide +kernel) rfl ?_
      refine b_callV (pc := 35) (c' := 0) (sl' := 0) [j_i g, j_i f, j_i x, j_i l] [] ml_X11_151 (by decide +kernel) rfl rfl (sh_24 hn) rfl rfl (Nat.le_of_ble_eq_true rfl) (j_fitI rfl rfl) (s_isLabelled hn (RT_wf hPt) (by omega) (fun _ _ => RT_u hPt) hf hx hl) (fun v n' σ' hq => ?_)
      obtain ⟨x, rfl, e1, e2, hx⟩ := hq
      rw [e1, e2]; clear e1 e2
      rcases hx with ⟨rfl, p35⟩ | ⟨rfl, p35⟩
      · show j_at _ _ _ [(0, .ref 5), (1, j_i f), (2, j_i x), (3, j_i l), (4, j_i (f_page (σ.2.1 6 1) (σ.2.1 5 10) + 1)), (5, j_i g)] [j_i 1] _ _ _ _
        refine a_if_eq (pc := 38) (off := 6) (tgt := 44) (by decide +kernel) (by decide) (by omega) (fun c38 => ?_) (fun c38 => ?_)
        · exact absurd c38 (by decide)
        · refine a_iload (pc := 41) (i := 5) (by decide +kernel) rfl ?_
          refine a_ireturn (pc := 43) (by decide +kernel) rfl ?_
          refine k_ret ?_
          exact ⟨_, rfl, rfl, rfl, Or.inr ⟨hok, Or.inr ⟨h0, by omega, p35, hI⟩⟩⟩
      · show j_at _ _ _ [(0, .ref 5), (1, j_i f), (2, j_i x), (3, j_i l), (4, j_i (f_page (σ.2.1 6 1) (σ.2.1 5 10) + 1)), (5, j_i g)] [j_i 0] _ _ _ _
        refine a_if_eq (pc := 38) (off := 6) (tgt := 44) (by decide +kernel) (by decide) (by omega) (fun c38 => ?_) (fun c38 => ?_)
        · refine a_iinc (pc := 44) (i := 5) (n := 1) (x := g) (lv' := [(0, .ref 5), (1, j_i f), (2, j_i x), (3, j_i l), (4, j_i (f_page (σ.2.1 6 1) (σ.2.1 5 10) + 1)), (5, j_i (g + 1))]) (by decide +kernel) rfl (Nat.le_of_ble_eq_true rfl) rfl ?_
          refine a_goto (pc := 47) (off := -28) (tgt := 19) (by decide +kernel) (by decide) ?_
          exact ih (g + 1) (by omega) (by omega) (by omega) (fun q q0 q1 => by by_cases e : q = g; rw [e]; exact p35; exact hI q q0 (by omega))
        · exact absurd c38 (by decide)
set_option maxHeartbeats 4000000 in
theorem c_labelled {G : j_G} {X : k_X} {n : Nat} {σ : k_St} (hR : RR n σ) {f : Int} (hf : -2147483648 ≤ f ∧ f ≤ 2147483647) {x : Int} (hx : -2147483648 ≤ x ∧ x ≤ 2147483647) {l : Int} (hl : -2147483648 ≤ l ∧ l ≤ 2147483647)  : k_run G X mX11_labelled [.ref 5, j_i f, j_i x, j_i l] n σ 0 0 (fun v n' σ' => ∃ r : Int, v = some (j_i r) ∧ n' = n ∧ σ' = σ ∧ labd_P σ f x l r) := by
  obtain ⟨hK, hAc, hNm, hPs, hPt, hSm, hIx⟩ := id hR
  have hn := RR_n hR
  have hk := hK.1
  have hwh : h_wf σ 8 := hk.2.1
  have hwm : m_wf σ 16 := hk.2.2
  have hW : 0 ≤ σ.2.1 6 1 ∧ σ.2.1 6 1 ≤ 300 := hk.1
  have hfl := hSm.1
  have qp := f_page_in (f := σ.2.1 5 10) hW
  refine k_enter (by decide +kernel) (Nat.le_of_ble_eq_true rfl) ?_
  show j_at _ _ _ [(0, .ref 5), (1, j_i f), (2, j_i x), (3, j_i l)] [] _ _ _ _
  refine a_iload_n (pc := 0) (i := 1) (by decide +kernel) rfl ?_
  refine b_callS (pc := 1) (c' := 0) (sl' := 0) [j_i f] [] ml_X11_128 (by decide +kernel) rfl rfl (Nat.le_of_ble_eq_true rfl) (j_fitI rfl rfl) (s_isForm (by omega)) (fun v n' σ' hq => ?_)
  obtain ⟨x, rfl, e1, e2, hx⟩ := hq
  rw [e1, e2]; clear e1 e2
  rcases hx with ⟨rfl, p1⟩ | ⟨rfl, p1⟩
  · show j_at _ _ _ [(0, .ref 5), (1, j_i f), (2, j_i x), (3, j_i l)] [j_i 1] _ _ _ _
    refine a_if_ne (pc := 4) (off := 6) (tgt := 10) (by decide +kernel) (by decide) (by omega) (fun c4 => ?_) (fun c4 => ?_)
    · refine a_aload_n (pc := 10) (i := 0) (by decide +kernel) rfl ?_
      refine b_pureV (pc := 11) [] [] ml_X11_147 (by decide +kernel) rfl rfl (sh_5 hn) rfl rfl (Nat.le_of_ble_eq_true rfl) (j_fitI rfl rfl) (c_pageCount hR) ?_
      have qp := f_page_in (f := σ.2.1 5 10) hW
      show j_at _ _ _ [(0, .ref 5), (1, j_i f), (2, j_i x), (3, j_i l)] [j_i (f_page (σ.2.1 6 1) (σ.2.1 5 10) + 1)] _ _ _ _
      refine a_istore (pc := 14) (i := 4) (lv' := [(0, .ref 5), (1, j_i f), (2, j_i x), (3, j_i l), (4, j_i (f_page (σ.2.1 6 1) (σ.2.1 5 10) + 1))]) (by decide +kernel) (Nat.le_of_ble_eq_true rfl) rfl ?_
      refine a_iconst (pc := 16) (n := 0) (by decide +kernel) ?_
      refine a_istore (pc := 17) (i := 5) (lv' := [(0, .ref 5), (1, j_i f), (2, j_i x), (3, j_i l), (4, j_i (f_page (σ.2.1 6 1) (σ.2.1 5 10) + 1)), (5, j_i 0)]) (by decide +kernel) (Nat.le_of_ble_eq_true rfl) rfl ?_
      exact l_labelled hR hf hx hl (by omega) 400 0 (by omega) (by omega) (by omega) (fun q q0 q1 => absurd q0 (by omega))
    · exact absurd c4 (by decide)
  · show j_at _ _ _ [(0, .ref 5), (1, j_i f), (2, j_i x), (3, j_i l)] [j_i 0] _ _ _ _
    refine a_if_ne (pc := 4) (off := 6) (tgt := 10) (by decide +kernel) (by decide) (by omega) (fun c4 => ?_) (fun c4 => ?_)
    · exact absurd c4 (by decide)
    · refine a_bipush (pc := 7) (n := (-2)) (by decide +kernel) rfl ?_
      refine a_ireturn (pc := 9) (by decide +kernel) rfl ?_
      refine k_ret ?_
      exact ⟨_, rfl, rfl, rfl, Or.inl ⟨by omega, rfl⟩⟩
set_option maxHeartbeats 4000000 in
theorem l_dlabelled {G : j_G} {X : k_X} {n : Nat} {σ : k_St} (hR : RR n σ) {f : Int} (hf : -2147483648 ≤ f ∧ f ≤ 2147483647) {x : Int} (hx : -2147483648 ≤ x ∧ x ≤ 2147483647) {l : Int} (hl : -2147483648 ≤ l ∧ l ≤ 2147483647) (hok : 0 ≤ f ∧ f ≤ 2) {r : Int} (hP : ((r = -9 ∧ ∀ g, 0 ≤ g → g < f_page (σ.1 69 0) (σ.2.1 68 11) + 1 → ¬ p_lab σ g f x l) ∨ (0 ≤ r ∧ r < f_page (σ.1 69 0) (σ.2.1 68 11) + 1 ∧ p_lab σ r f x l ∧ ∀ g, 0 ≤ g → g < r → ¬ p_lab σ g f x l)))  : ∀ (z : Nat) (g : Int), 400 - g < (z : Int) → 0 ≤ g → g ≤ f_page (σ.1 69 0) (σ.2.1 68 11) + 1 → (∀ q, 0 ≤ q → q < g → ¬ p_lab σ q f x l) → j_at G mX12_labelled 15 [(0, .ref 68), (1, j_i f), (2, j_i x), (3, j_i l), (4, j_i g)] [] (k_h X n σ) 0 0 (k_Q X (fun v2 n2 σ2 => v2 = some (j_i r) ∧ RR n2 σ2)) := by
  obtain ⟨hK, hAc, hNm, hPs, hPt, hSm, hIx⟩ := id hR
  have hn := RR_n hR
  have hk := hK.1
  have hwh : h_wf σ 8 := hk.2.1
  have hwm : m_wf σ 16 := hk.2.2
  have hW : 0 ≤ σ.2.1 6 1 ∧ σ.2.1 6 1 ≤ 300 := hk.1
  have hfl := hSm.1
  have hg := hK.2.2.2
  obtain ⟨⟨hgW, hgE, hgM⟩, hgh, hgm⟩ := KR_rg hk hK.2.1
  have hW0 : σ.2.1 6 1 = σ.1 69 0 := hK.2.1.1.1
  have hE0 : σ.2.1 8 3 = σ.1 69 301 := hK.2.1.2.1.1
  have hM0 : σ.2.1 16 5 = σ.1 69 1382 := hK.2.1.2.2.1
  have hfl8 : σ.2.1 68 11 = σ.2.1 5 10 := hSm.2.1
  have hT : RPart σ := hPt
  have e3 : f_page (σ.2.1 6 1) (σ.2.1 5 10) = f_page (σ.1 69 0) (σ.2.1 68 11) := by rw [hW0, hfl8]
  have hfl : 1 ≤ σ.2.1 68 11 ∧ σ.2.1 68 11 ≤ 50 := by rw [hfl8]; exact hSm.1
  have hW : 0 ≤ σ.1 69 0 ∧ σ.1 69 0 ≤ 300 := hgW
  have qp := f_page_in (f := σ.2.1 68 11) hgW
  intro z
  induction z with
  | zero => intro g h1 h2 h3; exact absurd h1 (by omega)
  | succ z ih =>
    intro g hz h0 hN hI
    refine a_iload (pc := 15) (i := 4) (by decide +kernel) rfl ?_
    refine a_aload_n (pc := 17) (i := 0) (by decide +kernel) rfl ?_
    refine b_pureV (pc := 18) [] [j_i g] ml_X12_174 (by decide +kernel) rfl rfl (sh_68 hn) rfl rfl (Nat.le_of_ble_eq_true rfl) (j_fitI rfl rfl) (s_dpages hn hW hfl) ?_
    show j_at _ _ _ [(0, .ref 68), (1, j_i f), (2, j_i x), (3, j_i l), (4, j_i g)] [j_i (f_page (σ.1 69 0) (σ.2.1 68 11) + 1), j_i g] _ _ _ _
    refine a_icmp_ge (pc := 21) (off := 52) (tgt := 73) (by decide +kernel) (by decide) (by omega) (by omega) (fun c21 => ?_) (fun c21 => ?_)
    · refine a_bipush (pc := 73) (n := (-9)) (by decide +kernel) rfl ?_
      refine a_ireturn (pc := 75) (by decide +kernel) rfl ?_
      refine k_ret ?_
      have hr : (-9 : Int) = r := by
        rcases hP with ⟨w, _⟩ | ⟨w1, w2, w3, w4⟩
        · omega
        · exact absurd w3 (hI r w1 (by omega))
      exact ⟨by rw [← hr], hR⟩
    · obtain ⟨p, hp⟩ := RT_of hPt g
      have hfo := p_form_in (RT_wf hT) (p_of_r hp)
      have hnu := p_num_in (g := g) (RT_wf hT) (p_of_r hp) (by omega)
      have hlb : p_lab σ g f x l ↔ (p_form σ p = f ∧ p_num σ p g = x ∧ (f = 2 → σ.1 28 p = l)) := by
        constructor
        · rintro ⟨p2, w1, w2, w3, w4⟩
          rw [RT_u hT hp w1]
          refine ⟨w2, w3, fun e => ?_⟩
          rcases w4 with w4 | w4 | w4
          · rw [w4] at w2; unfold p_form at w2; rw [if_pos rfl] at w2; omega
          · exact absurd e w4
          · exact w4
        · rintro ⟨w1, w2, w3⟩
          refine ⟨p, hp, w1, w2, ?_⟩
          by_cases e : f = 2
          · exact Or.inr (Or.inr (w3 e))
          · exact Or.inr (Or.inl e)
      refine a_aload_n (pc := 24) (i := 0) (by decide +kernel) rfl ?_
      refine a_iload (pc := 25) (i := 4) (by decide +kernel) rfl ?_
      refine b_pureV (pc := 27) [j_i g] [] ml_X12_161 (by decide +kernel) rfl rfl (sh_68 hn) rfl rfl (Nat.le_of_ble_eq_true rfl) (j_fitI rfl rfl) (e_formOf hn hT (by omega) hp) ?_
      show j_at _ _ _ [(0, .ref 68), (1, j_i f), (2, j_i x), (3, j_i l), (4, j_i g)] [j_i (p_form σ p)] _ _ _ _
      refine a_iload_n (pc := 30) (i := 1) (by decide +kernel) rfl ?_
      refine a_icmp_ne (pc := 31) (off := 36) (tgt := 67) (by decide +kernel) (by decide) (by omega) (by omega) (fun c31 => ?_) (fun c31 => ?_)
      · refine a_iinc (pc := 67) (i := 4) (n := 1) (x := g) (lv' := [(0, .ref 68), (1, j_i f), (2, j_i x), (3, j_i l), (4, j_i (g + 1))]) (by decide +kernel) rfl (Nat.le_of_ble_eq_true rfl) rfl ?_
        refine a_goto (pc := 70) (off := -55) (tgt := 15) (by decide +kernel) (by decide) ?_
        exact ih (g + 1) (by omega) (by omega) (by omega) (fun q q0 q1 => by by_cases e : q = g; rw [e, hlb]; omega; exact hI q q0 (by omega))
      · refine a_aload_n (pc := 34) (i := 0) (by decide +kernel) rfl ?_
        refine a_iload (pc := 35) (i := 4) (by decide +kernel) rfl ?_
        refine b_pureV (pc := 37) [j_i g] [] ml_X12_164 (by decide +kernel) rfl rfl (sh_68 hn) rfl rfl (Nat.le_of_ble_eq_true rfl) (j_fitI rfl rfl) (e_numberOf hn hT (by omega) hp) ?_
        show j_at _ _ _ [(0, .ref 68), (1, j_i f), (2, j_i x), (3, j_i l), (4, j_i g)] [j_i (p_num σ p g)] _ _ _ _
        refine a_iload_n (pc := 40) (i := 2) (by decide +kernel) rfl ?_
        refine a_icmp_ne (pc := 41) (off := 26) (tgt := 67) (by decide +kernel) (by decide) (by omega) (by omega) (fun c41 => ?_) (fun c41 => ?_)
        · refine a_iinc (pc := 67) (i := 4) (n := 1) (x := g) (lv' := [(0, .ref 68), (1, j_i f), (2, j_i x), (3, j_i l), (4, j_i (g + 1))]) (by decide +kernel) rfl (Nat.le_of_ble_eq_true rfl) rfl ?_
          refine a_goto (pc := 70) (off := -55) (tgt := 15) (by decide +kernel) (by decide) ?_
          exact ih (g + 1) (by omega) (by omega) (by omega) (fun q q0 q1 => by by_cases e : q = g; rw [e, hlb]; omega; exact hI q q0 (by omega))
        · refine a_iload_n (pc := 44) (i := 1) (by decide +kernel) rfl ?_
          refine a_iconst (pc := 45) (n := 2) (by decide +kernel) ?_
          refine a_icmp_ne (pc := 46) (off := 18) (tgt := 64) (by decide +kernel) (by decide) (by omega) (by omega) (fun c46 => ?_) (fun c46 => ?_)
          · refine a_iload (pc := 64) (i := 4) (by decide +kernel) rfl ?_
            refine a_ireturn (pc := 66) (by decide +kernel) rfl ?_
            refine k_ret ?_
            have hr : g = r := by
              have hg : p_lab σ g f x l := by rw [hlb]; omega
              rcases hP with ⟨_, w⟩ | ⟨w1, w2, w3, w4⟩
              · exact absurd hg (w g h0 (by omega))
              · rcases Int.lt_trichotomy g r with e | e | e
                · exact absurd hg (w4 g h0 e)
                · exact e
                · exact absurd w3 (hI r w1 e)
            exact ⟨by rw [hr], hR⟩
          · refine a_aload_n (pc := 49) (i := 0) (by decide +kernel) rfl ?_
            refine b_getR (pc := 50) (b := 77) fl_X12_39 (by decide +kernel) (sh_68 hn) rfl ?_
            refine a_aload_n (pc := 53) (i := 0) (by decide +kernel) rfl ?_
            refine a_iload (pc := 54) (i := 4) (by decide +kernel) rfl ?_
            refine b_callV (pc := 56) (c' := 0) (sl' := 0) [j_i g] [.ref 77] ml_X12_158 (by decide +kernel) rfl rfl (sh_68 hn) rfl rfl (Nat.le_of_ble_eq_true rfl) (j_fitI rfl rfl) (e_partOf hn hT (by omega)) (fun v n' σ' hq => ?_)
            obtain ⟨k2, rfl, e1, e2, hk2⟩ := hq
            rw [e1, e2]; clear e1 e2
            have z9 := pd_of hT hk2 hp
            have hp9 : p ≠ -9 := fun e => by unfold p_form at c31; rw [if_pos e] at c31; omega
            have zk : 0 ≤ k2 ∧ k2 < 8 := by have := hT.1; omega
            show j_at _ _ _ [(0, .ref 68), (1, j_i f), (2, j_i x), (3, j_i l), (4, j_i g)] [j_i k2, .ref 77] _ _ _ _
            refine b_iaload (pc := 59) (by decide +kernel) (sh_77 hn) (by omega) (by omega) (by omega) ?_
            rw [show σ.1 77 k2 = σ.1 28 p by omega]
            have rl := ((RT_wf hT).2 p (by omega) (by have := hT.2.1; omega)).2.2.2
            refine a_iload_n (pc := 60) (i := 3) (by decide +kernel) rfl ?_
            refine a_icmp_ne (pc := 61) (off := 6) (tgt := 67) (by decide +kernel) (by decide) (by omega) (by omega) (fun c61 => ?_) (fun c61 => ?_)
            · refine a_iinc (pc := 67) (i := 4) (n := 1) (x := g) (lv' := [(0, .ref 68), (1, j_i f), (2, j_i x), (3, j_i l), (4, j_i (g + 1))]) (by decide +kernel) rfl (Nat.le_of_ble_eq_true rfl) rfl ?_
              refine a_goto (pc := 70) (off := -55) (tgt := 15) (by decide +kernel) (by decide) ?_
              exact ih (g + 1) (by omega) (by omega) (by omega) (fun q q0 q1 => by by_cases e : q = g; rw [e, hlb]; omega; exact hI q q0 (by omega))
            · refine a_iload (pc := 64) (i := 4) (by decide +kernel) rfl ?_
              refine a_ireturn (pc := 66) (by decide +kernel) rfl ?_
              refine k_ret ?_
              have hr : g = r := by
                have hg : p_lab σ g f x l := by rw [hlb]; omega
                rcases hP with ⟨_, w⟩ | ⟨w1, w2, w3, w4⟩
                · exact absurd hg (w g h0 (by omega))
                · rcases Int.lt_trichotomy g r with e | e | e
                  · exact absurd hg (w4 g h0 e)
                  · exact e
                  · exact absurd w3 (hI r w1 e)
              exact ⟨by rw [hr], hR⟩
set_option maxHeartbeats 4000000 in
theorem d_labelled {G : j_G} {X : k_X} {n : Nat} {σ : k_St} (hR : RR n σ) {f : Int} (hf : -2147483648 ≤ f ∧ f ≤ 2147483647) {x : Int} (hx : -2147483648 ≤ x ∧ x ≤ 2147483647) {l : Int} (hl : -2147483648 ≤ l ∧ l ≤ 2147483647) {r : Int} (hP : labd_P σ f x l r)  : k_run G X mX12_labelled [.ref 68, j_i f, j_i x, j_i l] n σ 0 0 (fun v2 n2 σ2 => v2 = some (j_i r) ∧ RR n2 σ2) := by
  obtain ⟨hK, hAc, hNm, hPs, hPt, hSm, hIx⟩ := id hR
  have hn := RR_n hR
  have hk := hK.1
  have hwh : h_wf σ 8 := hk.2.1
  have hwm : m_wf σ 16 := hk.2.2
  have hW : 0 ≤ σ.2.1 6 1 ∧ σ.2.1 6 1 ≤ 300 := hk.1
  have hfl := hSm.1
  have hg := hK.2.2.2
  obtain ⟨⟨hgW, hgE, hgM⟩, hgh, hgm⟩ := KR_rg hk hK.2.1
  have hW0 : σ.2.1 6 1 = σ.1 69 0 := hK.2.1.1.1
  have hE0 : σ.2.1 8 3 = σ.1 69 301 := hK.2.1.2.1.1
  have hM0 : σ.2.1 16 5 = σ.1 69 1382 := hK.2.1.2.2.1
  have hfl8 : σ.2.1 68 11 = σ.2.1 5 10 := hSm.2.1
  have hT : RPart σ := hPt
  have e3 : f_page (σ.2.1 6 1) (σ.2.1 5 10) = f_page (σ.1 69 0) (σ.2.1 68 11) := by rw [hW0, hfl8]
  have hfl : 1 ≤ σ.2.1 68 11 ∧ σ.2.1 68 11 ≤ 50 := by rw [hfl8]; exact hSm.1
  have hW : 0 ≤ σ.1 69 0 ∧ σ.1 69 0 ≤ 300 := hgW
  have qp := f_page_in (f := σ.2.1 68 11) hgW
  unfold labd_P at hP
  rw [e3] at hP
  refine k_enter (by decide +kernel) (Nat.le_of_ble_eq_true rfl) ?_
  show j_at _ _ _ [(0, .ref 68), (1, j_i f), (2, j_i x), (3, j_i l)] [] _ _ _ _
  refine a_iload_n (pc := 0) (i := 1) (by decide +kernel) rfl ?_
  refine a_iconst (pc := 1) (n := 0) (by decide +kernel) ?_
  refine a_iconst (pc := 2) (n := 2) (by decide +kernel) ?_
  refine b_callS (pc := 3) (c' := 0) (sl' := 0) [j_i f, j_i 0, j_i 2] [] ml_X12_128 (by decide +kernel) rfl rfl (Nat.le_of_ble_eq_true rfl) (j_fitI rfl rfl) (s_dwithin (by omega) (by omega) (by omega)) (fun v n' σ' hq => ?_)
  obtain ⟨x, rfl, e1, e2, hx⟩ := hq
  rw [e1, e2]; clear e1 e2
  rcases hx with ⟨rfl, p3⟩ | ⟨rfl, p3⟩
  · show j_at _ _ _ [(0, .ref 68), (1, j_i f), (2, j_i x), (3, j_i l)] [j_i 1] _ _ _ _
    refine a_if_ne (pc := 6) (off := 6) (tgt := 12) (by decide +kernel) (by decide) (by omega) (fun c6 => ?_) (fun c6 => ?_)
    · refine a_iconst (pc := 12) (n := 0) (by decide +kernel) ?_
      refine a_istore (pc := 13) (i := 4) (lv' := [(0, .ref 68), (1, j_i f), (2, j_i x), (3, j_i l), (4, j_i 0)]) (by decide +kernel) (Nat.le_of_ble_eq_true rfl) rfl ?_
      rcases hP with ⟨w, _⟩ | ⟨w1, w2⟩
      · exact absurd p3 w
      · exact l_dlabelled hR hf hx hl w1 w2 402 0 (by omega) (by omega) (by omega) (fun q q0 q1 => absurd q0 (by omega))
    · exact absurd c6 (by decide)
  · show j_at _ _ _ [(0, .ref 68), (1, j_i f), (2, j_i x), (3, j_i l)] [j_i 0] _ _ _ _
    refine a_if_ne (pc := 6) (off := 6) (tgt := 12) (by decide +kernel) (by decide) (by omega) (fun c6 => ?_) (fun c6 => ?_)
    · exact absurd c6 (by decide)
    · refine a_bipush (pc := 9) (n := (-2)) (by decide +kernel) rfl ?_
      refine a_ireturn (pc := 11) (by decide +kernel) rfl ?_
      refine k_ret ?_
      rcases hP with ⟨w1, w2⟩ | ⟨w1, _⟩
      · rw [w2]; exact ⟨rfl, hR⟩
      · exact absurd w1 (by omega)
set_option maxHeartbeats 4000000 in
theorem p_labelled {G : j_G} {X : k_X} {n : Nat} {σ : k_St} (hR : RR n σ) {f : Int} (hf : -2147483648 ≤ f ∧ f ≤ 2147483647) {x : Int} (hx : -2147483648 ≤ x ∧ x ≤ 2147483647) {l : Int} (hl : -2147483648 ≤ l ∧ l ≤ 2147483647)  : pr_ok G X mX11_labelled mX12_labelled [j_i f, j_i x, j_i l] n σ 0 0 := by
  refine ⟨_, c_labelled hR hf hx hl , fun v n' σ' hq => ?_⟩
  obtain ⟨r, hv, rfl, rfl, hP⟩ := hq
  exact ⟨RR_n hR, r, hv, d_labelled hR hf hx hl  hP⟩
