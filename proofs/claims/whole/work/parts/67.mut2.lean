theorem d_kp_f {σ : k_St} {c j : Nat} (h : ¬ (c = 68 ∧ (j = 4 ∨ j = 5))) : (d_kp σ).2.1 c j = σ.2.1 c j := by
  show (if c = 68 ∧ j = 5 then d_m σ + 1 else if c = 68 ∧ j = 4 then d_f σ else σ.2.1 c j) = _
  rw [if_neg (by omega), if_neg (by omega)]
/-- marks change alone -/
theorem KN_m {σ τ : k_St} {g g' : Int → Int} (hK : KN σ g) (h1 : ∀ c, 7 ≤ c → c ≤ 15 → τ.1 c = σ.1 c) (h2 : ∀ c j, 6 ≤ c → c ≤ 15 → τ.2.1 c j = σ.2.1 c j) (h3 : ∀ i, 0 ≤ i → i < 1382 → g' i = g i) (hw : m_wf τ 16) (hm : τ.2.1 16 5 = g' 1382 ∧ ∀ m, 0 ≤ m → m < g' 1382 → KRm τ 6 g' m) (hk : ∀ m, m_isA τ 6 m → p_okA (h_isA σ 6) (τ.1 17 m) (τ.1 19 m)) (hgp : ∀ m, 0 ≤ m → m < τ.2.1 16 5 → τ.1 18 m ≤ σ.2.1 6 1) (hd : d_rg g') : KN τ g' := by
  obtain ⟨w1, w2, w3, w4⟩ := hK
  obtain ⟨⟨v1, v2, v3⟩, v4, _⟩ := KR_rg w1 w2
  obtain ⟨⟨a1, a2⟩, ⟨b1, b2⟩, c1, c2⟩ := w2
  have hh : h_isA τ 6 = h_isA σ 6 := by funext x; unfold h_isA; rw [h1 _ (by omega) (by omega), h2 _ _ (by omega) (by omega)]
  refine ⟨⟨by rw [h2 _ _ (by omega) (by omega)]; exact w1.1, h_wf_congr (h1 _ (by omega) (by omega)) (h1 _ (by omega) (by omega)) (h1 _ (by omega) (by omega)) (h1 _ (by omega) (by omega)) (h1 _ (by omega) (by omega)) (h2 _ _ (by omega) (by omega)) w1.2.1, hw⟩, ⟨⟨by rw [h2 _ _ (by omega) (by omega), h3 _ (by omega) (by omega)]; exact a1, fun k k0 k1 => ?_⟩, ⟨by rw [h2 _ _ (by omega) (by omega), h3 _ (by omega) (by omega)]; exact b1, fun q q0 q1 => ?_⟩, hm⟩, ⟨?_, by rw [hh]; exact hk, ?_, fun m m0 m1 => by rw [h2 6 1 (by omega) (by omega)]; exact hgp m m0 m1⟩, hd⟩
  · rw [h3 _ (by omega) (by omega)] at k1
    rw [h1 _ (by omega) (by omega), h3 _ (by omega) (by omega)]; exact a2 k k0 k1
  · rw [h3 _ (by omega) (by omega)] at q1
    obtain ⟨e1, e2, e3, e4, e5⟩ := b2 q q0 q1
    have := v4 q q0 q1
    unfold KRh
    rw [h1 _ (by omega) (by omega), h1 _ (by omega) (by omega), h1 _ (by omega) (by omega), h1 _ (by omega) (by omega), h1 _ (by omega) (by omega), h3 _ (by omega) (by omega), h3 _ (by omega) (by omega), h3 _ (by omega) (by omega)]
    exact ⟨e1, e2, e3, fun i i0 i1 => by rw [h3 _ (by omega) (by omega)]; exact e4 i i0 i1, fun i i0 i1 => by rw [h3 _ (by omega) (by omega)]; exact e5 i i0 i1⟩
  · intro x y hx hy hxy
    rw [hh] at hx hy
    obtain ⟨i, i0, i1, i2⟩ := w3.1 x y hx hy hxy
    exact ⟨i, i0, i1, by unfold r_sgn at i2 ⊢; rw [h1 (6 + 3 + 1) (by omega) (by omega), h1 (6 + 3 + 2) (by omega) (by omega)]; exact i2⟩
  · rw [h2 _ _ (by omega) (by omega), h1 _ (by omega) (by omega), h1 _ (by omega) (by omega), h1 _ (by omega) (by omega), h1 _ (by omega) (by omega)]; exact w3.2.2.1
/-- heads change alone -/
theorem KN_h {σ τ : k_St} {g g' : Int → Int} (hK : KN σ g) (h1 : ∀ c, c = 7 ∨ (17 ≤ c ∧ c ≤ 21) → τ.1 c = σ.1 c) (h2 : ∀ c j, c = 6 ∨ c = 16 → τ.2.1 c j = σ.2.1 c j) (h3 : ∀ i, (0 ≤ i ∧ i < 301) ∨ (1382 ≤ i ∧ i < 1733) → g' i = g i) (hw : h_wf τ 8) (hm : τ.2.1 8 3 = g' 301 ∧ ∀ h, 0 ≤ h → h < g' 301 → KRh τ 6 g' h) (hl : ∀ h, h_isA σ 6 h → h_isA τ 6 h) (hk : (∀ x y, h_isA τ 6 x → h_isA τ 6 y → x ≠ y → ∃ i, 0 ≤ i ∧ i < 16 ∧ r_sgn τ 9 30 x i ≠ r_sgn τ 9 30 y i) ∧ ∀ h, 0 ≤ h → h < τ.2.1 8 3 → (∀ i, 0 ≤ i → i < τ.1 11 h → 32 ≤ τ.1 10 (h * 16 + i) ∧ τ.1 10 (h * 16 + i) ≤ 126) ∧ ∀ i, 0 ≤ i → i < τ.1 14 h → 32 ≤ τ.1 13 (h * 16 + i) ∧ τ.1 13 (h * 16 + i) ≤ 126) (hd : d_rg g') : KN τ g' := by
  obtain ⟨w1, w2, w3, w4⟩ := hK
  obtain ⟨⟨v1, v2, v3⟩, v4, _⟩ := KR_rg w1 w2
  obtain ⟨⟨a1, a2⟩, ⟨b1, b2⟩, c1, c2⟩ := w2
  refine ⟨⟨by rw [h2 _ _ (by omega)]; exact w1.1, hw, m_wf_congr (h1 _ (by omega)) (h1 _ (by omega)) (h1 _ (by omega)) (h1 _ (by omega)) (h1 _ (by omega)) (h2 _ _ (by omega)) w1.2.2⟩, ⟨⟨by rw [h2 _ _ (by omega), h3 _ (by omega)]; exact a1, fun k k0 k1 => ?_⟩, hm, ⟨by rw [h2 _ _ (by omega), h3 _ (by omega)]; exact c1, fun m m0 m1 => ?_⟩⟩, ⟨hk.1, fun m hm => ?_, hk.2, fun m m0 m1 => by rw [h2 _ _ (by omega)] at m1; rw [h1 _ (by omega), h2 _ _ (by omega)]; exact w3.2.2.2 m m0 m1⟩, hd⟩
  · rw [h3 _ (by omega)] at k1
    rw [h1 _ (by omega), h3 _ (by omega)]; exact a2 k k0 k1
  · rw [h3 _ (by omega)] at m1
    obtain ⟨e1, e2, e3, e4, e5⟩ := c2 m m0 m1
    unfold KRm
    rw [h1 _ (by omega), h1 _ (by omega), h1 _ (by omega), h1 _ (by omega), h1 _ (by omega), h3 _ (by omega), h3 _ (by omega), h3 _ (by omega), h3 _ (by omega)]
    exact ⟨e1, e2, e3, fun i i0 i1 => by rw [h3 _ (by omega)]; exact e4 i i0 i1, e5⟩
  · have hm' : m_isA σ 6 m := by unfold m_isA at hm ⊢; rw [h1 _ (by omega), h2 _ _ (by omega)] at hm; exact hm
    obtain ⟨⟨a, b, c, oa, ob, oc, e⟩, q⟩ := w3.2.1 m hm'
    rw [h1 _ (by omega), h1 _ (by omega)]
    exact ⟨⟨a, b, c, ⟨oa.1, oa.2.imp id (hl _)⟩, ⟨ob.1, ob.2.imp id (hl _)⟩, ⟨oc.1, oc.2.imp id (hl _)⟩, e⟩, q⟩
/-- what a mutator of the Model needs -/
theorem RR_md {n : Nat} {σ : k_St} (hR : RR n σ) : d_rg (σ.1 69) ∧ ((0 ≤ σ.1 69 0 ∧ σ.1 69 0 ≤ 300) ∧ (0 ≤ σ.1 69 301 ∧ σ.1 69 301 ≤ 30) ∧ (0 ≤ σ.1 69 1382 ∧ σ.1 69 1382 ≤ 50)) ∧ (0 ≤ σ.2.1 68 4 ∧ σ.2.1 68 4 < 40) ∧ (0 ≤ σ.2.1 68 5 ∧ σ.2.1 68 5 ≤ 40) := by
  obtain ⟨r, _, _, _, _, _, r6, _, r8, r9, _⟩ := hR.2.1
  exact ⟨hR.1.2.2.2, (KR_rg hR.1.1 hR.1.2.1).1, r9, by rw [r8]; exact r6⟩
/-- after the class has changed what it keeps -/
theorem CM_e {n n' : Nat} {σ σs σ' : k_St} (hS : SV n σ n' σs) (hM : CM σs σ') : (∀ c, c < 101 → ¬ (6 ≤ c ∧ c ≤ 21) → σ'.1 c = σ.1 c) ∧ ∀ c j, c < 101 → ¬ (6 ≤ c ∧ c ≤ 22) → σ'.2.1 c j = σ.2.1 c j := by
  obtain ⟨e1, e2, _⟩ := SV_e hS
  exact ⟨fun c h1 h2 => (hM.1 c h2).trans (e1 c h1), fun c j h1 h2 => (hM.2.1 c j (by omega)).trans (e2 c j h1 (by omega))⟩
theorem CM_md {n n' : Nat} {σ σs σ' : k_St} (hR : RR n σ) (hS : SV n σ n' σs) (hM : CM σs σ') : d_rg (σ'.1 69) ∧ ((0 ≤ σ'.1 69 0 ∧ σ'.1 69 0 ≤ 300) ∧ (0 ≤ σ'.1 69 301 ∧ σ'.1 69 301 ≤ 30) ∧ (0 ≤ σ'.1 69 1382 ∧ σ'.1 69 1382 ≤ 50)) ∧ (0 ≤ σ'.2.1 68 4 ∧ σ'.2.1 68 4 < 40) ∧ (0 ≤ σ'.2.1 68 5 ∧ σ'.2.1 68 5 ≤ 40) := by
  obtain ⟨e1, e2⟩ := CM_e hS hM
  rw [e1 69 (by omega) (by omega), e2 68 4 (by omega) (by omega), e2 68 5 (by omega) (by omega)]
  exact RR_md hR
def dr_C (n : Nat) (σ : k_St) (m r : Int) (n' : Nat) (σ' : k_St) : Prop := (bi (m_is σ m) = 0 ∧ r = -1 ∧ n' = n ∧ σ' = σ) ∨ (m_is σ m ∧ r = 1 ∧ ∃ σs, SV n σ n' σs ∧ σ' = k_sA σs 21 (j_up (σs.1 21) m 1))
set_option maxHeartbeats 4000000 in
theorem c_drop {G : j_G} {X : k_X} {n : Nat} {σ : k_St} (hR : RR n σ) {m : Int} (hm : -2147483648 ≤ m ∧ m ≤ 2147483647)  : k_run G X mX11_drop [.ref 5, j_i m] n σ 16 1618 (fun v n' σ' => ∃ r : Int, v = some (j_i r) ∧ dr_C n σ m r n' σ') := by
  obtain ⟨hK, hAc, hNm, hPs, hPt, hSm, hIx⟩ := id hR
  have hn := RR_n hR
  have hk := hK.1
  have hwh : h_wf σ 8 := hk.2.1
  have hwm : m_wf σ 16 := hk.2.2
  have hW : 0 ≤ σ.2.1 6 1 ∧ σ.2.1 6 1 ≤ 300 := hk.1
  have hfl := hSm.1
  refine k_enter (by decide +kernel) (Nat.le_of_ble_eq_true rfl) ?_
  show j_at _ _ _ [(0, .ref 5), (1, j_i m)] [] _ _ _ _
  refine a_aload_n (pc := 0) (i := 0) (by decide +kernel) rfl ?_
  refine b_getR (pc := 1) (b := 16) fl_X11_25 (by decide +kernel) (sh_5 hn) rfl ?_
  refine a_iload_n (pc := 4) (i := 1) (by decide +kernel) rfl ?_
  refine b_callV (pc := 5) (c' := 0) (sl' := 0) [j_i m] [] ml_X11_240 (by decide +kernel) rfl rfl (sh_16 hn) rfl rfl (Nat.le_of_ble_eq_true rfl) (j_fitI rfl rfl) (s_mhas hn hwm (by omega)) (fun v n' σ' hq => ?_)
  obtain ⟨x, rfl, e1, e2, hx⟩ := hq
  rw [e1, e2]; clear e1 e2
  rcases hx with ⟨rfl, p5⟩ | ⟨rfl, p5⟩
  · show j_at _ _ _ [(0, .ref 5), (1, j_i m)] [j_i 1] _ _ _ _
    have i5 := bi_y p5
    have u5 := p5.1
    have w5 := p5.2.1
    refine a_if_ne (pc := 8) (off := 5) (tgt := 13) (by decide +kernel) (by decide) (by omega) (fun c8 => ?_) (fun c8 => ?_)
    · refine a_aload_n (pc := 13) (i := 0) (by decide +kernel) rfl ?_
      refine b_getR (pc := 14) (b := 22) fl_X11_29 (by decide +kernel) (sh_5 hn) rfl ?_
      refine a_aload_n (pc := 17) (i := 0) (by decide +kernel) rfl ?_
      refine b_getR (pc := 18) (b := 6) fl_X11_12 (by decide +kernel) (sh_5 hn) rfl ?_
      refine b_callV (pc := 21) (c' := 16) (sl' := 1618) [.ref 6] [] ml_X11_98 (by decide +kernel) rfl rfl (sh_22 hn) rfl rfl (Nat.le_of_ble_eq_true rfl) (j_fitI rfl rfl) (s_save hk hAc) (fun v n' σ' hq => ?_)
      obtain ⟨σ1, hσ1⟩ : ∃ z, z = σ' := ⟨_, rfl⟩
      rw [← hσ1] at hq ⊢
      obtain ⟨rfl, hsv⟩ := hq
      clear hσ1
      obtain ⟨sv1, sv2, hn9⟩ := SV_e hsv
      have hn : 101 ≤ n' := hn9
      have hwm : m_wf σ1 16 := m_wf_congr (sv1 _ (by omega)) (sv1 _ (by omega)) (sv1 _ (by omega)) (sv1 _ (by omega)) (sv1 _ (by omega)) (sv2 _ _ (by omega) (by omega)) hwm
      have hwh : h_wf σ1 8 := h_wf_congr (sv1 _ (by omega)) (sv1 _ (by omega)) (sv1 _ (by omega)) (sv1 _ (by omega)) (sv1 _ (by omega)) (sv2 _ _ (by omega) (by omega)) hwh
      show j_at _ _ _ [(0, .ref 5), (1, j_i m)] [] _ _ _ _
      refine a_aload_n (pc := 24) (i := 0) (by decide +kernel) rfl ?_
      refine b_getR (pc := 25) (b := 16) fl_X11_25 (by decide +kernel) (sh_5 hn) rfl ?_
      refine a_iload_n (pc := 28) (i := 1) (by decide +kernel) rfl ?_
      have hmi : m_is σ1 m := by unfold m_is; rw [sv1 21 (by omega), sv2 16 5 (by omega) (by omega)]; exact p5
      refine b_callV (pc := 29) (c' := 0) (sl' := 0) [j_i m] [] ml_X11_241 (by decide +kernel) rfl rfl (sh_16 hn) rfl rfl (Nat.le_of_ble_eq_true rfl) (j_fitI rfl rfl) (s_mremove hn hwm hmi) (fun v n' σ' hq => ?_)
      obtain ⟨rfl, e1, e2⟩ := hq
      rw [e1, e2]; clear e1 e2
      obtain ⟨σ2, hσ2⟩ : ∃ z, z = k_sA σ1 21 (j_up (σ1.1 21) m 1) := ⟨_, rfl⟩
      rw [← hσ2]
      show j_at _ _ _ [(0, .ref 5), (1, j_i m)] [] _ _ _ _
      refine a_iconst (pc := 32) (n := 1) (by decide +kernel) ?_
      refine a_ireturn (pc := 33) (by decide +kernel) rfl ?_
      refine k_ret ?_
      exact ⟨_, rfl, Or.inr ⟨p5, rfl, σ1, hsv, hσ2⟩⟩
    · exact absurd c8 (by decide)
  · show j_at _ _ _ [(0, .ref 5), (1, j_i m)] [j_i 0] _ _ _ _
    have i5 := bi_n p5
    refine a_if_ne (pc := 8) (off := 5) (tgt := 13) (by decide +kernel) (by decide) (by omega) (fun c8 => ?_) (fun c8 => ?_)
    · exact absurd c8 (by decide)
    · refine a_iconst (pc := 11) (n := (-1)) (by decide +kernel) ?_
      refine a_ireturn (pc := 12) (by decide +kernel) rfl ?_
      refine k_ret ?_
      exact ⟨_, rfl, Or.inl ⟨by omega, rfl, rfl, rfl⟩⟩
set_option maxHeartbeats 4000000 in
theorem d_drop {G : j_G} {X : k_X} {n : Nat} {σ : k_St} (hn : 101 ≤ n) (hg : ∀ i : Int, -128 ≤ σ.1 69 i ∧ σ.1 69 i ≤ 9999) (hgr : (0 ≤ σ.1 69 0 ∧ σ.1 69 0 ≤ 300) ∧ (0 ≤ σ.1 69 301 ∧ σ.1 69 301 ≤ 30) ∧ (0 ≤ σ.1 69 1382 ∧ σ.1 69 1382 ≤ 50)) (hf4 : 0 ≤ σ.2.1 68 4 ∧ σ.2.1 68 4 < 40) (hm5 : 0 ≤ σ.2.1 68 5 ∧ σ.2.1 68 5 ≤ 40) {m : Int} (hm : -2147483648 ≤ m ∧ m ≤ 2147483647)  : k_run G X mX12_drop [.ref 68, j_i m] n σ 0 0 (fun v n' σ' => (¬ d_ms σ m ∧ v = some (j_i (-1)) ∧ n' = n ∧ σ' = σ) ∨ (d_ms σ m ∧ v = some (j_i 1) ∧ n' = n ∧ σ' = k_sA (d_kp σ) 69 (j_up (σ.1 69) (1383 + 7 * m) 0))) := by
  obtain ⟨hgW, hgE, hgM⟩ := hgr
  refine k_enter (by decide +kernel) (Nat.le_of_ble_eq_true rfl) ?_
  show j_at _ _ _ [(0, .ref 68), (1, j_i m)] [] _ _ _ _
  refine a_aload_n (pc := 0) (i := 0) (by decide +kernel) rfl ?_
  refine a_iload_n (pc := 1) (i := 1) (by decide +kernel) rfl ?_
  refine b_callV (pc := 2) (c' := 0) (sl' := 0) [j_i m] [] ml_X12_254 (by decide +kernel) rfl rfl (sh_68 hn) rfl rfl (Nat.le_of_ble_eq_true rfl) (j_fitI rfl rfl) (s_disMark hn hg (by omega) (by omega)) (fun v n' σ' hq => ?_)
  obtain ⟨x, rfl, e1, e2, hx⟩ := hq
  rw [e1, e2]; clear e1 e2
  rcases hx with ⟨rfl, p2⟩ | ⟨rfl, p2⟩
  · show j_at _ _ _ [(0, .ref 68), (1, j_i m)] [j_i 1] _ _ _ _
    have i2 := bi_y p2
    have u2 := p2.1
    have w2 := p2.2.1
    refine a_if_ne (pc := 5) (off := 5) (tgt := 10) (by decide +kernel) (by decide) (by omega) (fun c5 => ?_) (fun c5 => ?_)
    · refine a_aload_n (pc := 10) (i := 0) (by decide +kernel) rfl ?_
      refine b_callV (pc := 11) (c' := 0) (sl' := 0) [] [] ml_X12_132 (by decide +kernel) rfl rfl (sh_68 hn) rfl rfl (Nat.le_of_ble_eq_true rfl) (j_fitI rfl rfl) (s_dkeep hn hf4 hm5) (fun v n' σ' hq => ?_)
      obtain ⟨rfl, e1, e2⟩ := hq
      rw [e1, e2]; clear e1 e2
      obtain ⟨σ1, hσ1⟩ : ∃ z, z = d_kp σ := ⟨_, rfl⟩
      rw [← hσ1]
      show j_at _ _ _ [(0, .ref 68), (1, j_i m)] [] _ _ _ _
      refine a_aload_n (pc := 14) (i := 0) (by decide +kernel) rfl ?_
      refine b_getR (pc := 15) (b := 69) fl_X12_7 (by decide +kernel) (sh_68 hn) rfl ?_
      refine a_aload_n (pc := 18) (i := 0) (by decide +kernel) rfl ?_
      refine a_iload_n (pc := 19) (i := 1) (by decide +kernel) rfl ?_
      refine b_pureV (pc := 20) [j_i m] [.ref 69] ml_X12_251 (by decide +kernel) rfl rfl (sh_68 hn) rfl rfl (Nat.le_of_ble_eq_true rfl) (j_fitI rfl rfl) (s_dmarkAt) ?_
      show j_at _ _ _ [(0, .ref 68), (1, j_i m)] [j_i (1383 + 7 * m), .ref 69] _ _ _ _
      refine a_iconst (pc := 23) (n := 0) (by decide +kernel) ?_
      refine b_iastore (pc := 24) (by decide +kernel) (sh_69 hn) (by omega) (by omega) (by omega) ?_
      obtain ⟨σ3, hσ3⟩ : ∃ z, z = k_sA σ1 69 (j_up (σ1.1 69) (1383 + 7 * m) 0) := ⟨_, rfl⟩
      rw [← hσ3]
      refine a_iconst (pc := 25) (n := 1) (by decide +kernel) ?_
      refine a_ireturn (pc := 26) (by decide +kernel) rfl ?_
      refine k_ret ?_
      exact Or.inr ⟨p2, rfl, rfl, by rw [hσ3, hσ1, d_kp_69 (by omega)]⟩
    · exact absurd c5 (by decide)
  · show j_at _ _ _ [(0, .ref 68), (1, j_i m)] [j_i 0] _ _ _ _
    have i2 := bi_n p2
    refine a_if_ne (pc := 5) (off := 5) (tgt := 10) (by decide +kernel) (by decide) (by omega) (fun c5 => ?_) (fun c5 => ?_)
    · exact absurd c5 (by decide)
    · refine a_iconst (pc := 8) (n := (-1)) (by decide +kernel) ?_
      refine a_ireturn (pc := 9) (by decide +kernel) rfl ?_
      refine k_ret ?_
      exact Or.inl ⟨p2, rfl, rfl, rfl⟩
theorem KN_drop {σ τ : k_St} {m : Int} (hK : RKept σ) (hm : m_is σ m) (h1 : ∀ c, 6 ≤ c → c ≤ 21 → c ≠ 21 → τ.1 c = σ.1 c) (h21 : τ.1 21 = j_up (σ.1 21) m 1) (h2 : ∀ c j, 6 ≤ c → c ≤ 21 → τ.2.1 c j = σ.2.1 c j) : KN τ (j_up (σ.1 69) (1383 + 7 * m) 0) := by
  have hM0 : σ.2.1 16 5 = σ.1 69 1382 := hK.2.1.2.2.1
  have hr := KR_rg hK.1 hK.2.1
  have hm1 := hm.1
  have hm2 : m < σ.1 69 1382 := by rw [← hM0]; exact hm.2.1
  refine KN_m hK (fun c _ _ => h1 c (by omega) (by omega) (by omega)) (fun c j _ _ => h2 c j (by omega) (by omega)) (fun i i0 i1 => j_upN (by omega)) ?_ ⟨by rw [h2 _ _ (by omega) (by omega), j_upN (by omega)]; exact hM0, fun x x0 x1 => ?_⟩ (fun x hx => ?_) (fun x x0 x1 => by rw [h2 _ _ (by omega) (by omega)] at x1; rw [h1 18 (by omega) (by omega) (by omega)]; exact hK.2.2.1.2.2.2 x x0 x1) (fun i => ?_)
  · have hw := hK.1.2.2
    refine ⟨by rw [h2 _ _ (by omega) (by omega)]; exact hw.1, fun i => ?_, fun x x0 x1 => ?_⟩
    · show τ.1 21 i = 0 ∨ τ.1 21 i = 1
      rw [h21]; unfold j_up; split; exact Or.inr rfl; exact hw.2.1 i
    · rw [h2 _ _ (by omega) (by omega)] at x1
      rw [h1 _ (by omega) (by omega) (by omega), h1 _ (by omega) (by omega) (by omega), h1 _ (by omega) (by omega) (by omega), h1 _ (by omega) (by omega) (by omega)]
      exact hw.2.2 x x0 x1
  · rw [j_upN (by omega)] at x1
    obtain ⟨e1, e2, e3, e4, e5⟩ := hK.2.1.2.2.2 x x0 x1
    refine ⟨?_, by rw [h1 _ (by omega) (by omega) (by omega), j_upN (by omega)]; exact e2, by rw [h1 _ (by omega) (by omega) (by omega), j_upN (by omega)]; exact e3, fun i i0 i1 => by rw [h1 _ (by omega) (by omega) (by omega), j_upN (by omega)]; exact e4 i i0 i1, by rw [h1 _ (by omega) (by omega) (by omega), j_upN (by omega)]; exact e5⟩
    show τ.1 21 x = _
    rw [h21]
    by_cases q : x = m
    · rw [q, j_upS, j_upS]; rfl
    · rw [j_upN q, j_upN (by omega)]; exact e1
  · have hx' : m_isA σ 6 x := by
      obtain ⟨x0, x1, x2⟩ := hx
      refine ⟨x0, by rw [← h2 _ _ (by omega) (by omega)]; exact x1, ?_⟩
      have x2' : τ.1 21 x = 0 := x2
      rw [h21] at x2'
      by_cases q : x = m
      · rw [q, j_upS] at x2'; exact absurd x2' (by omega)
      · rw [j_upN q] at x2'; exact x2'
    rw [h1 _ (by omega) (by omega) (by omega), h1 _ (by omega) (by omega) (by omega)]; exact hK.2.2.1.2.1 x hx'
  · unfold j_up; split
    · omega
    · exact hK.2.2.2 i
theorem p_drop {G : j_G} {X : k_X} {n : Nat} {σ : k_St} (hR : RR n σ) {m : Int} (hm : -2147483648 ≤ m ∧ m ≤ 2147483647) : pr_ok G X mX11_drop mX12_drop [j_i m] n σ 16 1618 := by
  refine ⟨_, c_drop hR hm, fun v n' σ' hq => ?_⟩
  obtain ⟨r, hv, ⟨q1, rfl, rfl, rfl⟩ | ⟨q1, rfl, σs, hS, hσ⟩⟩ := hq
  · obtain ⟨a1, a2, a3, a4⟩ := RR_md hR
    refine ⟨RR_n hR, _, hv, k_runw (fun v2 n2 σ2 q => ?_) (d_drop (RR_n hR) a1 a2 a3 a4 hm)⟩
    rcases q with ⟨g1, g2, g3, g4⟩ | ⟨g1, _⟩
    · subst g3; subst g4; exact ⟨g2, hR⟩
    · have := bi_y ((RK_m hR m).mp g1); omega
  · have hM : CM σs σ' := by rw [hσ]; exact ⟨fun c hc => k_AN (by omega), fun _ _ _ => rfl, rfl⟩
    obtain ⟨a1, a2, a3, a4⟩ := CM_md hR hS hM
    obtain ⟨e1, e2⟩ := CM_e hS hM
    obtain ⟨s1, s2, s3⟩ := SV_e hS
    refine ⟨s3, _, hv, k_runw (fun v2 n2 σ2 q => ?_) (d_drop s3 a1 a2 a3 a4 hm)⟩
    have hdm : d_ms σ' m ↔ d_ms σ m := by unfold d_ms; rw [e1 69 (by omega) (by omega)]
    rcases q with ⟨g1, _⟩ | ⟨g1, g2, g3, g4⟩
    · exact absurd (hdm.mpr ((RK_m hR m).mpr q1)) g1
    · subst g3
      refine ⟨g2, ?_⟩
      rw [g4]
      refine mut_RR hR hS hM ?_
      rw [e1 69 (by omega) (by omega)]
      exact KN_drop hR.1 q1 (fun c c0 c1 c2 => by rw [hσ, k_AN c2]; exact s1 c (by omega)) (by rw [hσ, k_AA, s1 21 (by omega)]) (fun c j c0 c1 => by rw [hσ]; exact s2 c j (by omega) (by omega))
