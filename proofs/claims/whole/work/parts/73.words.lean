/-- the gaps of the first m marks changed -/
def d_gm (F : Int → Int) (h : Int → Int) (m : Int) : Int → Int := fun j => if 0 ≤ j - 1385 ∧ (j - 1385) % 7 = 0 ∧ j - 1385 < 7 * m then F (h j) else h j
theorem d_gm_0 {F h : Int → Int} : d_gm F h 0 = h := by funext j; unfold d_gm; rw [if_neg (by omega)]
theorem d_gm_g {F h : Int → Int} {m x : Int} (h0 : 0 ≤ x) (h1 : x < m) : d_gm F h m (1383 + 7 * x + 2) = F (h (1383 + 7 * x + 2)) := by unfold d_gm; rw [if_pos (by omega)]
theorem d_gm_n {F h : Int → Int} {m x : Int} (h0 : m ≤ x) : d_gm F h m (1383 + 7 * x + 2) = h (1383 + 7 * x + 2) := by unfold d_gm; rw [if_neg (by omega)]
theorem d_gm_o {F h : Int → Int} {m j : Int} (h0 : j < 1385 ∨ (j - 1385) % 7 ≠ 0) : d_gm F h m j = h j := by unfold d_gm; rw [if_neg (by omega)]
theorem d_gm_s {F h : Int → Int} {m x : Int} (h0 : 0 ≤ m) (hx : x = F (h (1383 + 7 * m + 2))) : j_up (d_gm F h m) (1383 + 7 * m + 2) x = d_gm F h (m + 1) := by
  funext j
  unfold j_up d_gm
  by_cases q : j = 1383 + 7 * m + 2
  · rw [if_pos q, if_pos (by omega), hx, q]
  · rw [if_neg q]
    by_cases r : 0 ≤ j - 1385 ∧ (j - 1385) % 7 = 0 ∧ j - 1385 < 7 * m
    · rw [if_pos r, if_pos (by omega)]
    · rw [if_neg r, if_neg (by omega)]
theorem j_cpy_dn {g : Int → Int} {k W : Int} (h0 : k ≤ W) : j_up (j_cpy g g (k + 1) (k + 2) (W - k)) (1 + k) (g k) = j_cpy g g k (k + 1) (W - (k + -1)) := by
  funext j
  unfold j_up j_cpy
  by_cases q : j = 1 + k
  · rw [if_pos q, if_pos (by omega), show k + (j - (k + 1)) = k by omega]
  · rw [if_neg q]
    by_cases r : k + 2 ≤ j ∧ j < k + 2 + (W - k)
    · rw [if_pos r, if_pos (by omega), show k + 1 + (j - (k + 2)) = k + (j - (k + 1)) by omega]
    · rw [if_neg r, if_neg (by omega)]
/-- words and gaps change -/
theorem KN_w {σ τ : k_St} {g g' : Int → Int} (hK : KN σ g) (h1 : ∀ c, 8 ≤ c → c ≤ 21 → c ≠ 18 → τ.1 c = σ.1 c) (h2 : ∀ c j, 6 ≤ c → c ≤ 21 → ¬ (c = 6 ∧ j = 1) → τ.2.1 c j = σ.2.1 c j) (hW : (0 ≤ τ.2.1 6 1 ∧ τ.2.1 6 1 ≤ 300) ∧ τ.2.1 6 1 = g' 0 ∧ ∀ k, 0 ≤ k → k < g' 0 → τ.1 7 k = g' (1 + k)) (h3 : ∀ i, 301 ≤ i → i < 1733 → (i < 1385 ∨ (i - 1385) % 7 ≠ 0) → g' i = g i) (hG : ∀ m, 0 ≤ m → m < g 1382 → τ.1 18 m = g' (1383 + 7 * m + 2) ∧ (0 ≤ τ.1 18 m ∧ τ.1 18 m ≤ τ.2.1 6 1)) (hd : d_rg g') : KN τ g' := by
  obtain ⟨w1, w2, w3, w4⟩ := hK
  obtain ⟨⟨v1, v2, v3⟩, v4, _⟩ := KR_rg w1 w2
  obtain ⟨⟨a1, a2⟩, ⟨b1, b2⟩, c1, c2⟩ := w2
  have lv : h_isA τ 6 = h_isA σ 6 := by funext x; unfold h_isA; rw [h1 _ (by omega) (by omega) (by omega), h2 _ _ (by omega) (by omega) (by omega)]
  have e1382 : g' 1382 = g 1382 := h3 1382 (by omega) (by omega) (by omega)
  have e301 : g' 301 = g 301 := h3 301 (by omega) (by omega) (by omega)
  refine ⟨⟨hW.1, h_wf_congr (h1 _ (by omega) (by omega) (by omega)) (h1 _ (by omega) (by omega) (by omega)) (h1 _ (by omega) (by omega) (by omega)) (h1 _ (by omega) (by omega) (by omega)) (h1 _ (by omega) (by omega) (by omega)) (h2 _ _ (by omega) (by omega) (by omega)) w1.2.1, ?_⟩, ⟨hW.2, ⟨by rw [h2 _ _ (by omega) (by omega) (by omega), e301]; exact b1, fun q q0 q1 => ?_⟩, by rw [h2 _ _ (by omega) (by omega) (by omega), e1382]; exact c1, fun m m0 m1 => ?_⟩, ⟨?_, fun m hm => ?_, ?_, fun m m0 m1 => ?_⟩, hd⟩
  · have hw := w1.2.2
    have c1' : σ.2.1 16 5 = g 1382 := c1
    refine ⟨by rw [h2 _ _ (by omega) (by omega) (by omega)]; exact hw.1, by rw [h1 _ (by omega) (by omega) (by omega)]; exact hw.2.1, fun m m0 m1 => ?_⟩
    rw [h2 _ _ (by omega) (by omega) (by omega)] at m1
    have hq := hw.2.2 m m0 m1
    have hx := hG m m0 (by rw [← c1']; exact m1)
    rw [h1 (16 + 1) (by omega) (by omega) (by omega), h1 (16 + 3) (by omega) (by omega) (by omega), h1 (16 + 4) (by omega) (by omega) (by omega)]
    exact ⟨hq.1, ⟨hx.2.1, by have := hx.2.2; show τ.1 18 m ≤ 300; omega⟩, hq.2.2⟩
  · rw [e301] at q1
    obtain ⟨e1, e2, e3, e4, e5⟩ := b2 q q0 q1
    have := v4 q q0 q1
    unfold KRh
    rw [h1 _ (by omega) (by omega) (by omega), h1 _ (by omega) (by omega) (by omega), h1 _ (by omega) (by omega) (by omega), h1 _ (by omega) (by omega) (by omega), h1 _ (by omega) (by omega) (by omega), h3 _ (by omega) (by omega) (by omega), h3 _ (by omega) (by omega) (by omega), h3 _ (by omega) (by omega) (by omega)]
    exact ⟨e1, e2, e3, fun i i0 i1 => by rw [h3 _ (by omega) (by omega) (by omega)]; exact e4 i i0 i1, fun i i0 i1 => by rw [h3 _ (by omega) (by omega) (by omega)]; exact e5 i i0 i1⟩
  · rw [e1382] at m1
    obtain ⟨e1, e2, e3, e4, e5⟩ := c2 m m0 m1
    unfold KRm
    rw [h1 (6 + 15) (by omega) (by omega) (by omega), h1 (6 + 11) (by omega) (by omega) (by omega), h1 (6 + 13) (by omega) (by omega) (by omega), h1 (6 + 14) (by omega) (by omega) (by omega), h3 (1383 + 7 * m) (by omega) (by omega) (by omega), h3 (1383 + 7 * m + 1) (by omega) (by omega) (by omega), h3 (1383 + 7 * m + 6) (by omega) (by omega) (by omega)]
    exact ⟨e1, e2, (hG m m0 m1).1, fun i i0 i1 => by rw [h3 _ (by omega) (by omega) (by omega)]; exact e4 i i0 i1, e5⟩
  · intro x y hx hy hxy
    rw [lv] at hx hy
    obtain ⟨i, i0, i1, i2⟩ := w3.1 x y hx hy hxy
    exact ⟨i, i0, i1, by unfold r_sgn at i2 ⊢; rw [h1 (6 + 3 + 1) (by omega) (by omega) (by omega), h1 (6 + 3 + 2) (by omega) (by omega) (by omega)]; exact i2⟩
  · rw [lv]
    have hm' : m_isA σ 6 m := by unfold m_isA at hm ⊢; rw [h1 _ (by omega) (by omega) (by omega), h2 _ _ (by omega) (by omega) (by omega)] at hm; exact hm
    rw [h1 (6 + 11) (by omega) (by omega) (by omega), h1 (6 + 13) (by omega) (by omega) (by omega)]; exact w3.2.1 m hm'
  · rw [h2 _ _ (by omega) (by omega) (by omega), h1 (6 + 5) (by omega) (by omega) (by omega), h1 (6 + 4) (by omega) (by omega) (by omega), h1 (6 + 8) (by omega) (by omega) (by omega), h1 (6 + 7) (by omega) (by omega) (by omega)]; exact w3.2.2.1
  · rw [h2 _ _ (by omega) (by omega) (by omega)] at m1
    have c1' : σ.2.1 16 5 = g 1382 := c1
    have m1' : m < σ.2.1 16 5 := m1
    exact (hG m m0 (by omega)).2.2
def put_C (n : Nat) (σ : k_St) (i w r : Int) (n' : Nat) (σ' : k_St) : Prop := (¬ ((0 ≤ i ∧ i ≤ σ.2.1 6 1) ∧ (0 ≤ w ∧ w ≤ 9999)) ∧ r = -2 ∧ n' = n ∧ σ' = σ) ∨ (((0 ≤ i ∧ i ≤ σ.2.1 6 1) ∧ (0 ≤ w ∧ w ≤ 9999)) ∧ 300 ≤ σ.2.1 6 1 ∧ r = -4 ∧ n' = n ∧ σ' = σ) ∨ (((0 ≤ i ∧ i ≤ σ.2.1 6 1) ∧ (0 ≤ w ∧ w ≤ 9999)) ∧ σ.2.1 6 1 < 300 ∧ r = σ.2.1 6 1 + 1 ∧ ∃ σs, SV n σ n' σs ∧ σ' = kp_ins σs i w)
set_option maxHeartbeats 4000000 in
theorem c_put {G : j_G} {X : k_X} {n : Nat} {σ : k_St} (hR : RR n σ) {i : Int} (hi : -2147483648 ≤ i ∧ i ≤ 2147483647) {w : Int} (hw : -2147483648 ≤ w ∧ w ≤ 2147483647)  : k_run G X mX11_put [.ref 5, j_i i, j_i w] n σ 16 1618 (fun v n' σ' => ∃ r : Int, v = some (j_i r) ∧ put_C n σ i w r n' σ') := by
  obtain ⟨hK, hAc, hNm, hPs, hPt, hSm, hIx⟩ := id hR
  have hn := RR_n hR
  have hk := hK.1
  have hwh : h_wf σ 8 := hk.2.1
  have hwm : m_wf σ 16 := hk.2.2
  have hW : 0 ≤ σ.2.1 6 1 ∧ σ.2.1 6 1 ≤ 300 := hk.1
  have hfl := hSm.1
  refine k_enter (by decide +kernel) (Nat.le_of_ble_eq_true rfl) ?_
  show j_at _ _ _ [(0, .ref 5), (1, j_i i), (2, j_i w)] [] _ _ _ _
  refine a_aload_n (pc := 0) (i := 0) (by decide +kernel) rfl ?_
  refine b_getR (pc := 1) (b := 6) fl_X11_12 (by decide +kernel) (sh_5 hn) rfl ?_
  refine a_iload_n (pc := 4) (i := 1) (by decide +kernel) rfl ?_
  refine b_callV (pc := 5) (c' := 0) (sl' := 0) [j_i i] [] ml_X11_91 (by decide +kernel) rfl rfl (sh_6 hn) rfl rfl (Nat.le_of_ble_eq_true rfl) (j_fitI rfl rfl) (s_hasGap hn hW (by omega)) (fun v n' σ' hq => ?_)
  obtain ⟨x, rfl, e1, e2, hx⟩ := hq
  rw [e1, e2]; clear e1 e2
  rcases hx with ⟨rfl, p5⟩ | ⟨rfl, p5⟩
  · show j_at _ _ _ [(0, .ref 5), (1, j_i i), (2, j_i w)] [j_i 1] _ _ _ _
    refine a_if_eq (pc := 8) (off := 14) (tgt := 22) (by decide +kernel) (by decide) (by omega) (fun c8 => ?_) (fun c8 => ?_)
    · exact absurd c8 (by decide)
    · refine a_iload_n (pc := 11) (i := 2) (by decide +kernel) rfl ?_
      refine a_if_lt (pc := 12) (off := 10) (tgt := 22) (by decide +kernel) (by decide) (by omega) (fun c12 => ?_) (fun c12 => ?_)
      · refine a_bipush (pc := 22) (n := (-2)) (by decide +kernel) rfl ?_
        refine a_ireturn (pc := 24) (by decide +kernel) rfl ?_
        refine k_ret ?_
        refine ⟨_, rfl, ?_⟩
        first | exact Or.inl ⟨by omega, rfl, rfl, rfl⟩ | exact Or.inr (Or.inl ⟨by omega, by omega, rfl, rfl, rfl⟩)
      · refine a_iload_n (pc := 15) (i := 2) (by decide +kernel) rfl ?_
        refine a_sipush (pc := 16) (n := 9999) (by decide +kernel) rfl ?_
        refine a_icmp_le (pc := 19) (off := 6) (tgt := 25) (by decide +kernel) (by decide) (by omega) (by omega) (fun c19 => ?_) (fun c19 => ?_)
        · refine a_aload_n (pc := 25) (i := 0) (by decide +kernel) rfl ?_
          refine b_getR (pc := 26) (b := 6) fl_X11_12 (by decide +kernel) (sh_5 hn) rfl ?_
          refine b_getI (pc := 29) fl_X11_95 (by decide +kernel) (sh_6 hn) rfl ?_
          refine a_sipush (pc := 32) (n := 300) (by decide +kernel) rfl ?_
          refine a_icmp_lt (pc := 35) (off := 6) (tgt := 41) (by decide +kernel) (by decide) (by omega) (by omega) (fun c35 => ?_) (fun c35 => ?_)
          · refine a_aload_n (pc := 41) (i := 0) (by decide +kernel) rfl ?_
            refine b_getR (pc := 42) (b := 22) fl_X11_29 (by decide +kernel) (sh_5 hn) rfl ?_
            refine a_aload_n (pc := 45) (i := 0) (by decide +kernel) rfl ?_
            refine b_getR (pc := 46) (b := 6) fl_X11_12 (by decide +kernel) (sh_5 hn) rfl ?_
            refine b_callV (pc := 49) (c' := 16) (sl' := 1618) [.ref 6] [] ml_X11_98 (by decide +kernel) rfl rfl (sh_22 hn) rfl rfl (Nat.le_of_ble_eq_true rfl) (j_fitI rfl rfl) (s_save hk hAc) (fun v n' σ' hq => ?_)
            obtain ⟨σ1, hσ1⟩ : ∃ z, z = σ' := ⟨_, rfl⟩
            rw [← hσ1] at hq ⊢
            obtain ⟨rfl, hsv⟩ := hq
            clear hσ1
            obtain ⟨sv1, sv2, hn9⟩ := SV_e hsv
            have hn : 101 ≤ n' := hn9
            have hwm : m_wf σ1 16 := m_wf_congr (sv1 _ (by omega)) (sv1 _ (by omega)) (sv1 _ (by omega)) (sv1 _ (by omega)) (sv1 _ (by omega)) (sv2 _ _ (by omega) (by omega)) hwm
            have hwh : h_wf σ1 8 := h_wf_congr (sv1 _ (by omega)) (sv1 _ (by omega)) (sv1 _ (by omega)) (sv1 _ (by omega)) (sv1 _ (by omega)) (sv2 _ _ (by omega) (by omega)) hwh
            show j_at _ _ _ [(0, .ref 5), (1, j_i i), (2, j_i w)] [] _ _ _ _
            refine a_aload_n (pc := 52) (i := 0) (by decide +kernel) rfl ?_
            refine b_getR (pc := 53) (b := 6) fl_X11_12 (by decide +kernel) (sh_5 hn) rfl ?_
            refine a_iload_n (pc := 56) (i := 1) (by decide +kernel) rfl ?_
            refine a_iload_n (pc := 57) (i := 2) (by decide +kernel) rfl ?_
            refine b_callV (pc := 58) (c' := 0) (sl' := 0) [j_i i, j_i w] [] ml_X11_102 (by decide +kernel) rfl rfl (sh_6 hn) rfl rfl (Nat.le_of_ble_eq_true rfl) (j_fitI rfl rfl) (s_insertWord hn (by rw [sv2 6 1 (by omega) (by omega)]; exact hW) hwm (by omega) (by rw [sv2 6 1 (by omega) (by omega)]; omega) (by rw [sv2 6 1 (by omega) (by omega)]; omega)) (fun v n' σ' hq => ?_)
            obtain ⟨rfl, e1, e2⟩ := hq
            rw [e1, e2]; clear e1 e2
            obtain ⟨σ2, hσ2⟩ : ∃ z, z = kp_ins σ1 i w := ⟨_, rfl⟩
            rw [← hσ2]
            have hcσ2 : σ2.2.1 6 1 = σ.2.1 6 1 + 1 := by rw [hσ2]; unfold kp_ins; show (k_sI _ 6 1 (σ1.2.1 6 1 + 1)).2.1 6 1 = _; rw [k_II, sv2 6 1 (by omega) (by omega)]
            show j_at _ _ _ [(0, .ref 5), (1, j_i i), (2, j_i w)] [] _ _ _ _
            refine a_aload_n (pc := 61) (i := 0) (by decide +kernel) rfl ?_
            refine b_getR (pc := 62) (b := 6) fl_X11_12 (by decide +kernel) (sh_5 hn) rfl ?_
            refine b_getI (pc := 65) fl_X11_95 (by decide +kernel) (sh_6 hn) rfl ?_
            rw [show σ2.2.1 6 1 = σ.2.1 6 1 + 1 from hcσ2]
            refine a_ireturn (pc := 68) (by decide +kernel) rfl ?_
            refine k_ret ?_
            exact ⟨_, rfl, Or.inr (Or.inr ⟨by omega, by omega, rfl, σ1, hsv, hσ2⟩)⟩
          · refine a_bipush (pc := 38) (n := (-4)) (by decide +kernel) rfl ?_
            refine a_ireturn (pc := 40) (by decide +kernel) rfl ?_
            refine k_ret ?_
            refine ⟨_, rfl, ?_⟩
            first | exact Or.inl ⟨by omega, rfl, rfl, rfl⟩ | exact Or.inr (Or.inl ⟨by omega, by omega, rfl, rfl, rfl⟩)
        · refine a_bipush (pc := 22) (n := (-2)) (by decide +kernel) rfl ?_
          refine a_ireturn (pc := 24) (by decide +kernel) rfl ?_
          refine k_ret ?_
          refine ⟨_, rfl, ?_⟩
          first | exact Or.inl ⟨by omega, rfl, rfl, rfl⟩ | exact Or.inr (Or.inl ⟨by omega, by omega, rfl, rfl, rfl⟩)
  · show j_at _ _ _ [(0, .ref 5), (1, j_i i), (2, j_i w)] [j_i 0] _ _ _ _
    refine a_if_eq (pc := 8) (off := 14) (tgt := 22) (by decide +kernel) (by decide) (by omega) (fun c8 => ?_) (fun c8 => ?_)
    · refine a_bipush (pc := 22) (n := (-2)) (by decide +kernel) rfl ?_
      refine a_ireturn (pc := 24) (by decide +kernel) rfl ?_
      refine k_ret ?_
      refine ⟨_, rfl, ?_⟩
      first | exact Or.inl ⟨by omega, rfl, rfl, rfl⟩ | exact Or.inr (Or.inl ⟨by omega, by omega, rfl, rfl, rfl⟩)
    · exact absurd c8 (by decide)
def take_C (n : Nat) (σ : k_St) (i r : Int) (n' : Nat) (σ' : k_St) : Prop := (¬ (0 ≤ i ∧ i < σ.2.1 6 1) ∧ r = -1 ∧ n' = n ∧ σ' = σ) ∨ ((0 ≤ i ∧ i < σ.2.1 6 1) ∧ r = σ.1 7 i ∧ ∃ σs, SV n σ n' σs ∧ σ' = kp_rem σs i)
set_option maxHeartbeats 4000000 in
theorem c_take {G : j_G} {X : k_X} {n : Nat} {σ : k_St} (hR : RR n σ) {i : Int} (hi : -2147483648 ≤ i ∧ i ≤ 2147483647)  : k_run G X mX11_take [.ref 5, j_i i] n σ 16 1618 (fun v n' σ' => ∃ r : Int, v = some (j_i r) ∧ take_C n σ i r n' σ') := by
  obtain ⟨hK, hAc, hNm, hPs, hPt, hSm, hIx⟩ := id hR
  have hn := RR_n hR
  have hk := hK.1
  have hwh : h_wf σ 8 := hk.2.1
  have hwm : m_wf σ 16 := hk.2.2
  have hW : 0 ≤ σ.2.1 6 1 ∧ σ.2.1 6 1 ≤ 300 := hk.1
  have hfl := hSm.1
  refine k_enter (by decide +kernel) (Nat.le_of_ble_eq_true rfl) ?_
  show j_at _ _ _ [(0, .ref 5), (1, j_i i)] [] _ _ _ _
  refine a_aload_n (pc := 0) (i := 0) (by decide +kernel) rfl ?_
  refine b_getR (pc := 1) (b := 6) fl_X11_12 (by decide +kernel) (sh_5 hn) rfl ?_
  refine a_iload_n (pc := 4) (i := 1) (by decide +kernel) rfl ?_
  refine b_callV (pc := 5) (c' := 0) (sl' := 0) [j_i i] [] ml_X11_106 (by decide +kernel) rfl rfl (sh_6 hn) rfl rfl (Nat.le_of_ble_eq_true rfl) (j_fitI rfl rfl) (s_hasWord hn hW (by omega)) (fun v n' σ' hq => ?_)
  obtain ⟨x, rfl, e1, e2, hx⟩ := hq
  rw [e1, e2]; clear e1 e2
  rcases hx with ⟨rfl, p5⟩ | ⟨rfl, p5⟩
  · show j_at _ _ _ [(0, .ref 5), (1, j_i i)] [j_i 1] _ _ _ _
    refine a_if_ne (pc := 8) (off := 5) (tgt := 13) (by decide +kernel) (by decide) (by omega) (fun c8 => ?_) (fun c8 => ?_)
    · refine a_aload_n (pc := 13) (i := 0) (by decide +kernel) rfl ?_
      refine b_getR (pc := 14) (b := 22) fl_X11_29 (by decide +kernel) (sh_5 hn) rfl ?_
      refine a_aload_n (pc := 17) (i := 0) (by decide +kernel) rfl ?_
      refine b_getR (pc := 18) (b := 6) fl_X11_12 (by decide +kernel) (sh_5 hn) rfl ?_
      refine b_callV (pc := 21) (c' := 16) (sl' := 1618) [.ref 6] [] ml_X11_98 (by decide +kernel) rfl rfl (sh_22 hn) rfl rfl (Nat.le_of_ble_eq_true rfl) (j_fitI rfl rfl) (s_save hk hAc) (fun v n' σ' hq => ?_)
      obtain ⟨σ1, hσ1⟩ : ∃ z, z = σ' := ⟨_, rfl⟩
      rw [← hσ1] at hq ⊢
      obtain ⟨rfl, hsv⟩ := hq
      clear hσ1
      obtain ⟨sv1, sv2, hn9⟩ := SV_e hsv
      have hn : 101 ≤ n' := hn9
      have hwm : m_wf σ1 16 := m_wf_congr (sv1 _ (by omega)) (sv1 _ (by omega)) (sv1 _ (by omega)) (sv1 _ (by omega)) (sv1 _ (by omega)) (sv2 _ _ (by omega) (by omega)) hwm
      have hwh : h_wf σ1 8 := h_wf_congr (sv1 _ (by omega)) (sv1 _ (by omega)) (sv1 _ (by omega)) (sv1 _ (by omega)) (sv1 _ (by omega)) (sv2 _ _ (by omega) (by omega)) hwh
      show j_at _ _ _ [(0, .ref 5), (1, j_i i)] [] _ _ _ _
      refine a_aload_n (pc := 24) (i := 0) (by decide +kernel) rfl ?_
      refine b_getR (pc := 25) (b := 6) fl_X11_12 (by decide +kernel) (sh_5 hn) rfl ?_
      refine a_iload_n (pc := 28) (i := 1) (by decide +kernel) rfl ?_
      refine b_callV (pc := 29) (c' := 0) (sl' := 0) [j_i i] [] ml_X11_109 (by decide +kernel) rfl rfl (sh_6 hn) rfl rfl (Nat.le_of_ble_eq_true rfl) (j_fitI rfl rfl) (s_removeWord hn (by rw [sv2 6 1 (by omega) (by omega)]; exact hW) hwm (by omega) (by rw [sv2 6 1 (by omega) (by omega)]; omega)) (fun v n' σ' hq => ?_)
      obtain ⟨hv1, e1, e2⟩ := hq
      rw [hv1, e1, e2]; clear e1 e2
      obtain ⟨σ2, hσ2⟩ : ∃ z, z = kp_rem σ1 i := ⟨_, rfl⟩
      rw [← hσ2, sv1 7 (by omega)]
      show j_at _ _ _ [(0, .ref 5), (1, j_i i)] [j_i (σ.1 7 i)] _ _ _ _
      refine a_ireturn (pc := 32) (by decide +kernel) rfl ?_
      refine k_ret ?_
      exact ⟨_, rfl, Or.inr ⟨by omega, rfl, σ1, hsv, hσ2⟩⟩
    · exact absurd c8 (by decide)
  · show j_at _ _ _ [(0, .ref 5), (1, j_i i)] [j_i 0] _ _ _ _
    refine a_if_ne (pc := 8) (off := 5) (tgt := 13) (by decide +kernel) (by decide) (by omega) (fun c8 => ?_) (fun c8 => ?_)
    · exact absurd c8 (by decide)
    · refine a_iconst (pc := 11) (n := (-1)) (by decide +kernel) ?_
      refine a_ireturn (pc := 12) (by decide +kernel) rfl ?_
      refine k_ret ?_
      exact ⟨_, rfl, Or.inl ⟨by omega, rfl, rfl, rfl⟩⟩
